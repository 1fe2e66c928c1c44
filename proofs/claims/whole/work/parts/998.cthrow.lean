/-! THE THIRD LAYER, the ledger: what may throw: programs of numbers and the proof that the machine does what they say; printed by an own text program -/
def f_Le_requireRange_10 (X : gX) : Option (gR × gX) := some (gR.t "java/lang/IllegalArgumentException", X)
def f_Le_requireRange (X0 : gX) (a0 : Int32) (a1 : Int32) (a2 : Int32) : Option (gR × gX) := (if a0 < a1 then f_Le_requireRange_10 X0 else (if a0 ≤ a2 then some (gR.v, X0) else f_Le_requireRange_10 X0))
set_option maxHeartbeats 4000000 in
set_option maxRecDepth 100000 in
theorem K_Le_requireRange (l : Launch) (htr : l.stackTraces = false) (D : va_G) (tys : List (ClassId × FieldType)) (z sz : Nat) (ws : va_W) (h : gm_M) (hM : gm_S h ws) (t : Nat → ClassId) (ht : gTy t tys) (b : Nat → Nat) (X0 : gX) (hw : gw D t b X0 h) (a0 : Int32) (a1 : Int32) (a2 : Int32) (o : gR × gX) (hf : f_Le_requireRange X0 a0 a1 a2 = some o) : gx_Met l y_Le_requireRange [Cond.code y_Le_requireRange b_Le_requireRange 3 none] { frames := 6, cells := gT o.1, slots := 6 * gT o.1, locals := 82 } (gx_P z sz D classes tys ws [Value.int a0, Value.int a1, Value.int a2]) (gx_Q D classes tys (va_A ws sz) (gPo D t b X0 o)) (gT o.1) (6 * gT o.1) (va_A ws sz) := by
  refine gx_ofW (cc := b_Le_requireRange) (maxL := 3) (ret := none) (by decide) rfl ?_
  intro p e s m args below meth c s₁ B hml hv
  obtain ⟨rfl, hsz, hz, hP, hK, hD0, hY⟩ := hv
  have hx := B.exec
  have hb := B.bytes
  have hr := B.returns
  have hts := hY.hts (#[Value.int a0, Value.int a1, Value.int a2] : Array Value)
  have hown : s.vm.findClass "CommitLedger" = some m.cls := findClass_of_methodNamed B.named
  have hlocks := B.notSynchronized
  have hne : c.exceptionTable.isEmpty = true := B.noHandlers (atoms_spec (ws := [Cond.code y_Le_requireRange b_Le_requireRange 3 none]) B.pre _ List.mem_cons_self)
  have hN := gx_ns hP
  subst hsz
  have hAz := gx_az hD0 hz
  have hD := hD0.self (sz := s.heap.size)
  have hA : ∀ q : Nat, s.heap.size ≤ q → va_A ws s.heap.size q := fun q h => Or.inr h
  generalize va_A ws s.heap.size = A at hD hA hAz hN ⊢
  have Y : gy D t b A s.heap X0 X0 s.heap [] := ⟨h, ⟨ws, hM, hP, hD, va_S.rf⟩, hw, gEq.rf⟩
  clear hP hD hM hD0 hw
  obtain ⟨ht0, ht1, ht2, ht3, ht4, ht5, ht6, ht7, ht8⟩ := id ht
  have hl := lv_entry ([Value.int a0, Value.int a1, Value.int a2]) (n := 3) (Nat.le_of_ble_eq_true rfl)
  rw [lg_entry_eq]
  generalize (lg_sl ([Value.int a0, Value.int a1, Value.int a2]) ++ List.replicate (3 - (lg_sl ([Value.int a0, Value.int a1, Value.int a2])).length) Slot.unset).toArray = ls at hl ⊢
  have hl : lv_has ls 3 [(0, Value.int a0), (1, Value.int a1), (2, Value.int a2)] := hl
  refine gy_cut (pcJ := 10) Y (fun s : gX => f_Le_requireRange_10 s) o (fun s => s) (fun s ls => lv_has ls 3 []) (fun s => []) ?_ (fun J10 => ?_)
  · rintro X3 H locs ls hf hl Y
    have hl : lv_has ls 3 [] := hl
    have Y : gy D t b A s.heap X0 X3 H locs := Y
    have hf : f_Le_requireRange_10 X3 = some o := hf
    unfold f_Le_requireRange_10 at hf
    cases hf
    exact gy_thr (i1 := 7) (b1 := prog_15_method_2_code) hx hb htr (hml.trans hl.1.symm) hown hts hne hlocks hK Y hA hN kk_Le_191 kX_IllegalArgumentException kN_IllegalArgumentException ks_Le_193 kT_Le_195 (by decide) (by decide +kernel) (by decide +kernel) (by decide +kernel) (by decide +kernel) d_Le_requireRange_10 d_Le_requireRange_13 d_Le_requireRange_14 d_Le_requireRange_16 d_Le_requireRange_19 (Nat.le_of_ble_eq_true rfl) (Nat.le_of_ble_eq_true rfl) (Nat.le_of_ble_eq_true rfl) (Nat.le_of_ble_eq_true rfl) (Nat.le_of_ble_eq_true rfl) (Nat.le_of_ble_eq_true rfl)
  unfold f_Le_requireRange at hf
  refine lv_iload_n hx hb d_Le_requireRange_0 rfl (lv_at hl 0 rfl) ?_
  refine lv_iload_n hx hb d_Le_requireRange_1 rfl (lv_at hl 1 rfl) ?_
  refine lv_icmp_lt (tgt := 10) hx hb d_Le_requireRange_2 (by decide) (fun c2_4 => ?_) (fun c2_4 => ?_)
  · replace hf := gp_t c2_4 hf
    exact J10 X0 _ _ _ hf (lv_sub hl [] rfl) Y
  · replace hf := gp_f c2_4 hf
    refine lv_iload_n hx hb d_Le_requireRange_5 rfl (lv_at hl 0 rfl) ?_
    refine lv_iload_n hx hb d_Le_requireRange_6 rfl (lv_at hl 2 rfl) ?_
    refine lv_icmp_le (tgt := 20) hx hb d_Le_requireRange_7 (by decide) (fun c7_5 => ?_) (fun c7_5 => ?_)
    · replace hf := gp_t c7_5 hf
      exact gy_vret hf hx hb hr hlocks hK Y (Nat.zero_le _) (Nat.zero_le _) d_Le_requireRange_20
    · replace hf := gp_f c7_5 hf
      exact J10 X0 _ _ _ hf (lv_sub hl [] rfl) Y

def f_Le_requireWriter (X0 : gX) : Option (gR × gX) := (if (X0.I 0 7) = (0 : Int32) then some (gR.t "java/lang/IllegalStateException", X0) else some (gR.v, X0))
set_option maxHeartbeats 4000000 in
set_option maxRecDepth 100000 in
theorem K_Le_requireWriter (l : Launch) (htr : l.stackTraces = false) (D : va_G) (tys : List (ClassId × FieldType)) (z sz : Nat) (ws : va_W) (h : gm_M) (hM : gm_S h ws) (t : Nat → ClassId) (ht : gTy t tys) (b : Nat → Nat) (X0 : gX) (hw : gw D t b X0 h) (o : gR × gX) (hf : f_Le_requireWriter X0 = some o) : gx_Met l y_Le_requireWriter [Cond.code y_Le_requireWriter b_Le_requireWriter 1 none] { frames := 6, cells := gT o.1, slots := 6 * gT o.1, locals := 82 } (gx_P z sz D classes tys ws [Value.ref (b 0)]) (gx_Q D classes tys (va_A ws sz) (gPo D t b X0 o)) (gT o.1) (6 * gT o.1) (va_A ws sz) := by
  refine gx_ofW (cc := b_Le_requireWriter) (maxL := 1) (ret := none) (by decide) rfl ?_
  intro p e s m args below meth c s₁ B hml hv
  obtain ⟨rfl, hsz, hz, hP, hK, hD0, hY⟩ := hv
  have hx := B.exec
  have hb := B.bytes
  have hr := B.returns
  have hts := hY.hts (#[Value.ref (b 0)] : Array Value)
  have hown : s.vm.findClass "CommitLedger" = some m.cls := findClass_of_methodNamed B.named
  have hlocks := B.notSynchronized
  have hne : c.exceptionTable.isEmpty = true := B.noHandlers (atoms_spec (ws := [Cond.code y_Le_requireWriter b_Le_requireWriter 1 none]) B.pre _ List.mem_cons_self)
  have hN := gx_ns hP
  subst hsz
  have hAz := gx_az hD0 hz
  have hD := hD0.self (sz := s.heap.size)
  have hA : ∀ q : Nat, s.heap.size ≤ q → va_A ws s.heap.size q := fun q h => Or.inr h
  generalize va_A ws s.heap.size = A at hD hA hAz hN ⊢
  have Y : gy D t b A s.heap X0 X0 s.heap [] := ⟨h, ⟨ws, hM, hP, hD, va_S.rf⟩, hw, gEq.rf⟩
  clear hP hD hM hD0 hw
  obtain ⟨ht0, ht1, ht2, ht3, ht4, ht5, ht6, ht7, ht8⟩ := id ht
  have hl := lv_entry ([Value.ref (b 0)]) (n := 1) (Nat.le_of_ble_eq_true rfl)
  rw [lg_entry_eq]
  generalize (lg_sl ([Value.ref (b 0)]) ++ List.replicate (1 - (lg_sl ([Value.ref (b 0)])).length) Slot.unset).toArray = ls at hl ⊢
  have hl : lv_has ls 1 [(0, Value.ref (b 0))] := hl
  unfold f_Le_requireWriter at hf
  refine lv_aload_n hx hb d_Le_requireWriter_0 rfl (lv_at hl 0 rfl) ?_
  refine gy_get (ci := 0) (v := Value.int (X0.I 0 7)) (C := "CommitLedger") (T := F_Le) (N := 18) hx hb hts i_Le hown hK Y gF_0 rfl 7 (by decide) kf_Le_64 rfl d_Le_requireWriter_1 ?_
  refine lv_if_ne (tgt := 18) hx hb d_Le_requireWriter_4 (by decide) (fun c4_2 => ?_) (fun c4_2 => ?_)
  · replace hf := gp_f c4_2 hf
    exact gy_vret hf hx hb hr hlocks hK Y (Nat.zero_le _) (Nat.zero_le _) d_Le_requireWriter_18
  · replace hf := gp_t c4_2 hf
    cases hf
    exact gy_thrw (i1 := 7) (b1 := prog_16_method_2_code) hx hb htr (hml.trans hl.1.symm) hown hts hne hlocks hK Y hA hN kk_Le_68 kX_IllegalStateException kN_IllegalStateException ks_Le_288 kT_Le_72 (by decide) (by decide +kernel) (by decide +kernel) (by decide +kernel) (by decide +kernel) d_Le_requireWriter_7 d_Le_requireWriter_10 d_Le_requireWriter_11 d_Le_requireWriter_14 d_Le_requireWriter_17 (Nat.le_of_ble_eq_true rfl) (Nat.le_of_ble_eq_true rfl) (Nat.le_of_ble_eq_true rfl) (Nat.le_of_ble_eq_true rfl) (Nat.le_of_ble_eq_true rfl) (Nat.le_of_ble_eq_true rfl)

def f_Le_requireNothingPrepared (X0 : gX) : Option (gR × gX) := (if (X0.I 0 8) = (0 : Int32) then some (gR.v, X0) else some (gR.t "java/lang/IllegalStateException", X0))
set_option maxHeartbeats 4000000 in
set_option maxRecDepth 100000 in
theorem K_Le_requireNothingPrepared (l : Launch) (htr : l.stackTraces = false) (D : va_G) (tys : List (ClassId × FieldType)) (z sz : Nat) (ws : va_W) (h : gm_M) (hM : gm_S h ws) (t : Nat → ClassId) (ht : gTy t tys) (b : Nat → Nat) (X0 : gX) (hw : gw D t b X0 h) (o : gR × gX) (hf : f_Le_requireNothingPrepared X0 = some o) : gx_Met l y_Le_requireNothingPrepared [Cond.code y_Le_requireNothingPrepared b_Le_requireNothingPrepared 1 none] { frames := 6, cells := gT o.1, slots := 6 * gT o.1, locals := 82 } (gx_P z sz D classes tys ws [Value.ref (b 0)]) (gx_Q D classes tys (va_A ws sz) (gPo D t b X0 o)) (gT o.1) (6 * gT o.1) (va_A ws sz) := by
  refine gx_ofW (cc := b_Le_requireNothingPrepared) (maxL := 1) (ret := none) (by decide) rfl ?_
  intro p e s m args below meth c s₁ B hml hv
  obtain ⟨rfl, hsz, hz, hP, hK, hD0, hY⟩ := hv
  have hx := B.exec
  have hb := B.bytes
  have hr := B.returns
  have hts := hY.hts (#[Value.ref (b 0)] : Array Value)
  have hown : s.vm.findClass "CommitLedger" = some m.cls := findClass_of_methodNamed B.named
  have hlocks := B.notSynchronized
  have hne : c.exceptionTable.isEmpty = true := B.noHandlers (atoms_spec (ws := [Cond.code y_Le_requireNothingPrepared b_Le_requireNothingPrepared 1 none]) B.pre _ List.mem_cons_self)
  have hN := gx_ns hP
  subst hsz
  have hAz := gx_az hD0 hz
  have hD := hD0.self (sz := s.heap.size)
  have hA : ∀ q : Nat, s.heap.size ≤ q → va_A ws s.heap.size q := fun q h => Or.inr h
  generalize va_A ws s.heap.size = A at hD hA hAz hN ⊢
  have Y : gy D t b A s.heap X0 X0 s.heap [] := ⟨h, ⟨ws, hM, hP, hD, va_S.rf⟩, hw, gEq.rf⟩
  clear hP hD hM hD0 hw
  obtain ⟨ht0, ht1, ht2, ht3, ht4, ht5, ht6, ht7, ht8⟩ := id ht
  have hl := lv_entry ([Value.ref (b 0)]) (n := 1) (Nat.le_of_ble_eq_true rfl)
  rw [lg_entry_eq]
  generalize (lg_sl ([Value.ref (b 0)]) ++ List.replicate (1 - (lg_sl ([Value.ref (b 0)])).length) Slot.unset).toArray = ls at hl ⊢
  have hl : lv_has ls 1 [(0, Value.ref (b 0))] := hl
  unfold f_Le_requireNothingPrepared at hf
  refine lv_aload_n hx hb d_Le_requireNothingPrepared_0 rfl (lv_at hl 0 rfl) ?_
  refine gy_get (ci := 0) (v := Value.int (X0.I 0 8)) (C := "CommitLedger") (T := F_Le) (N := 18) hx hb hts i_Le hown hK Y gF_0 rfl 8 (by decide) kf_Le_178 rfl d_Le_requireNothingPrepared_1 ?_
  refine lv_if_eq (tgt := 18) hx hb d_Le_requireNothingPrepared_4 (by decide) (fun c4_2 => ?_) (fun c4_2 => ?_)
  · replace hf := gp_t c4_2 hf
    exact gy_vret hf hx hb hr hlocks hK Y (Nat.zero_le _) (Nat.zero_le _) d_Le_requireNothingPrepared_18
  · replace hf := gp_f c4_2 hf
    cases hf
    exact gy_thrw (i1 := 7) (b1 := prog_16_method_2_code) hx hb htr (hml.trans hl.1.symm) hown hts hne hlocks hK Y hA hN kk_Le_68 kX_IllegalStateException kN_IllegalStateException ks_Le_290 kT_Le_72 (by decide) (by decide +kernel) (by decide +kernel) (by decide +kernel) (by decide +kernel) d_Le_requireNothingPrepared_7 d_Le_requireNothingPrepared_10 d_Le_requireNothingPrepared_11 d_Le_requireNothingPrepared_14 d_Le_requireNothingPrepared_17 (Nat.le_of_ble_eq_true rfl) (Nat.le_of_ble_eq_true rfl) (Nat.le_of_ble_eq_true rfl) (Nat.le_of_ble_eq_true rfl) (Nat.le_of_ble_eq_true rfl) (Nat.le_of_ble_eq_true rfl)

def f_Le_requireReader_39 (X : gX) (i1 : Int32) (i2 : Int32) : Option ((Int32) ⊕ (gR × gX)) := some (Sum.inl (i2 + 1))
def f_Le_requireReader_2 (X : gX) (i1 : Int32) (i2 : Int32) : Option ((Int32) ⊕ (gR × gX)) := (if (4 : Int32) ≤ i2 then gLf (some (gR.t "java/util/NoSuchElementException", X)) else (if gIn i2 4 then (if (X.I (26 + 5 * gn i2) 2) = (0 : Int32) then f_Le_requireReader_39 X i1 i2 else (if gIn i2 4 then (if (X.I (26 + 5 * gn i2) 1) = i1 then (if gIn i2 4 then gLf (some (gR.a (some (26 + 5 * gn i2)), X)) else none) else f_Le_requireReader_39 X i1 i2) else none)) else none))
def f_Le_requireReader (X0 : gX) (a1 : Int32) : Option (gR × gX) := gI (fun s : Int32 => f_Le_requireReader_2 X0 a1 s) gK 0
set_option maxHeartbeats 4000000 in
set_option maxRecDepth 100000 in
theorem K_Le_requireReader (l : Launch) (htr : l.stackTraces = false) (D : va_G) (tys : List (ClassId × FieldType)) (z sz : Nat) (ws : va_W) (h : gm_M) (hM : gm_S h ws) (t : Nat → ClassId) (ht : gTy t tys) (b : Nat → Nat) (X0 : gX) (hw : gw D t b X0 h) (a1 : Int32) (o : gR × gX) (hf : f_Le_requireReader X0 a1 = some o) : gx_Met l y_Le_requireReader [Cond.code y_Le_requireReader b_Le_requireReader 3 (some (.object "CommitLedger$Reader"))] { frames := 6, cells := gT o.1, slots := 6 * gT o.1, locals := 82 } (gx_P z sz D classes tys ws [Value.ref (b 0), Value.int a1]) (gx_Q D classes tys (va_A ws sz) (gPo D t b X0 o)) (gT o.1) (6 * gT o.1) (va_A ws sz) := by
  refine gx_ofW (cc := b_Le_requireReader) (maxL := 3) (ret := (some (.object "CommitLedger$Reader"))) (by decide) rfl ?_
  intro p e s m args below meth c s₁ B hml hv
  obtain ⟨rfl, hsz, hz, hP, hK, hD0, hY⟩ := hv
  have hx := B.exec
  have hb := B.bytes
  have hr := B.returns
  have hts := hY.hts (#[Value.ref (b 0), Value.int a1] : Array Value)
  have hown : s.vm.findClass "CommitLedger" = some m.cls := findClass_of_methodNamed B.named
  have hlocks := B.notSynchronized
  have hne : c.exceptionTable.isEmpty = true := B.noHandlers (atoms_spec (ws := [Cond.code y_Le_requireReader b_Le_requireReader 3 (some (.object "CommitLedger$Reader"))]) B.pre _ List.mem_cons_self)
  have hN := gx_ns hP
  subst hsz
  have hAz := gx_az hD0 hz
  have hD := hD0.self (sz := s.heap.size)
  have hA : ∀ q : Nat, s.heap.size ≤ q → va_A ws s.heap.size q := fun q h => Or.inr h
  generalize va_A ws s.heap.size = A at hD hA hAz hN ⊢
  have Y : gy D t b A s.heap X0 X0 s.heap [] := ⟨h, ⟨ws, hM, hP, hD, va_S.rf⟩, hw, gEq.rf⟩
  clear hP hD hM hD0 hw
  obtain ⟨ht0, ht1, ht2, ht3, ht4, ht5, ht6, ht7, ht8⟩ := id ht
  have hl := lv_entry ([Value.ref (b 0), Value.int a1]) (n := 3) (Nat.le_of_ble_eq_true rfl)
  rw [lg_entry_eq]
  generalize (lg_sl ([Value.ref (b 0), Value.int a1]) ++ List.replicate (3 - (lg_sl ([Value.ref (b 0), Value.int a1])).length) Slot.unset).toArray = ls at hl ⊢
  have hl : lv_has ls 3 [(0, Value.ref (b 0)), (1, Value.int a1)] := hl
  unfold f_Le_requireReader at hf
  refine lv_iconst (v := 0) hx hb d_Le_requireReader_0 (by decide) ?_
  refine lv_istore_n (lv' := [(2, Value.int 0), (0, Value.ref (b 0)), (1, Value.int a1)]) hx hb d_Le_requireReader_1 rfl hl (by decide) rfl (fun ls hl => ?_)
  refine gy_iter (fun s : Int32 => X0) (fun (s : Int32) ls => lv_has ls 3 [(2, Value.int s), (0, Value.ref (b 0)), (1, Value.int a1)]) ?_ gK 0 _ _ _ hf (lv_sub hl [0, 1, 2] rfl) Y
  rintro i2_15 u15 H locs ls hf hl Y hk15 ho15
  have hl : lv_has ls 3 [(2, Value.int i2_15), (0, Value.ref (b 0)), (1, Value.int a1)] := hl
  have Y : gy D t b A s.heap X0 X0 H locs := Y
  have hf : f_Le_requireReader_2 X0 a1 i2_15 = some u15 := hf
  refine gy_cut (pcJ := 39) Y (fun s : Int32 => f_Le_requireReader_39 X0 a1 s) u15 (fun s => X0) (fun s ls => lv_has ls 3 [(2, Value.int s), (0, Value.ref (b 0)), (1, Value.int a1)]) (fun s => []) ?_ (fun J39 => ?_)
  · rintro i2_16 H locs ls hf hl Y
    have hl : lv_has ls 3 [(2, Value.int i2_16), (0, Value.ref (b 0)), (1, Value.int a1)] := hl
    have Y : gy D t b A s.heap X0 X0 H locs := Y
    have hf : f_Le_requireReader_39 X0 a1 i2_16 = some u15 := hf
    unfold f_Le_requireReader_39 at hf
    refine lv_iinc (v := i2_16 + 1) (lv' := [(2, Value.int (i2_16 + 1)), (0, Value.ref (b 0)), (1, Value.int a1)]) hx hb d_Le_requireReader_39 hl (k := 0) rfl (rfl) (by decide) rfl (fun ls hl => ?_)
    refine lv_goto (tgt := 2) hx hb d_Le_requireReader_42 (by decide) ?_
    exact hk15 _ _ _ _ hf (lv_sub hl [0, 1, 2] rfl) Y
  unfold f_Le_requireReader_2 at hf
  refine lv_iload_n hx hb d_Le_requireReader_2 rfl (lv_at hl 0 rfl) ?_
  refine lv_iconst (v := 4) hx hb d_Le_requireReader_3 (by decide) ?_
  refine lv_icmp_ge (tgt := 45) hx hb d_Le_requireReader_4 (by decide) (fun c4_17 => ?_) (fun c4_17 => ?_)
  · replace hf := gp_t c4_17 hf
    replace hf := gU hf ho15
    cases hf
    exact gy_thrw (i1 := 13) (b1 := prog_31_method_4_code) hx hb htr (hml.trans hl.1.symm) hown hts hne hlocks hK Y hA hN kk_Le_150 kX_NoSuchElementException kN_NoSuchElementException ks_Le_295 kT_Le_154 (by decide) (by decide +kernel) (by decide +kernel) (by decide +kernel) (by decide +kernel) d_Le_requireReader_45 d_Le_requireReader_48 d_Le_requireReader_49 d_Le_requireReader_52 d_Le_requireReader_55 (Nat.le_of_ble_eq_true rfl) (Nat.le_of_ble_eq_true rfl) (Nat.le_of_ble_eq_true rfl) (Nat.le_of_ble_eq_true rfl) (Nat.le_of_ble_eq_true rfl) (Nat.le_of_ble_eq_true rfl)
  · replace hf := gp_f c4_17 hf
    refine lv_aload_n hx hb d_Le_requireReader_7 rfl (lv_at hl 1 rfl) ?_
    refine gy_get (ci := 0) (v := Value.ref (b 25)) (C := "CommitLedger") (T := F_Le) (N := 18) hx hb hts i_Le hown hK Y gF_0 rfl 4 (by decide) kf_Le_45 rfl d_Le_requireReader_8 ?_
    refine lv_iload_n hx hb d_Le_requireReader_11 rfl (lv_at hl 0 rfl) ?_
    refine gy_aalR hf hx hb hK Y 4 gF_25 ht4 d_Le_requireReader_12 (fun hi18 hf => ?_)
    refine gy_get (ci := 6) (v := Value.int (X0.I (26 + 5 * gn i2_15) 2)) (C := "CommitLedger$Reader") (T := F_Re) (N := 3) hx hb hts i_Re hown hK Y (gF_Re (gRea_rd hi18)) rfl 2 (by decide) kf_Le_230 rfl d_Le_requireReader_13 ?_
    refine lv_if_eq (tgt := 39) hx hb d_Le_requireReader_16 (by decide) (fun c16_19 => ?_) (fun c16_19 => ?_)
    · replace hf := gp_t c16_19 hf
      exact J39 i2_15 _ _ _ hf (lv_sub hl [0, 1, 2] rfl) Y
    · replace hf := gp_f c16_19 hf
      refine lv_aload_n hx hb d_Le_requireReader_19 rfl (lv_at hl 1 rfl) ?_
      refine gy_get (ci := 0) (v := Value.ref (b 25)) (C := "CommitLedger") (T := F_Le) (N := 18) hx hb hts i_Le hown hK Y gF_0 rfl 4 (by decide) kf_Le_45 rfl d_Le_requireReader_20 ?_
      refine lv_iload_n hx hb d_Le_requireReader_23 rfl (lv_at hl 0 rfl) ?_
      refine gy_aalR hf hx hb hK Y 4 gF_25 ht4 d_Le_requireReader_24 (fun hi20 hf => ?_)
      refine gy_get (ci := 6) (v := Value.int (X0.I (26 + 5 * gn i2_15) 1)) (C := "CommitLedger$Reader") (T := F_Re) (N := 3) hx hb hts i_Re hown hK Y (gF_Re (gRea_rd hi20)) rfl 1 (by decide) kf_Le_292 rfl d_Le_requireReader_25 ?_
      refine lv_iload_n hx hb d_Le_requireReader_28 rfl (lv_at hl 2 rfl) ?_
      refine lv_icmp_ne (tgt := 39) hx hb d_Le_requireReader_29 (by decide) (fun c29_21 => ?_) (fun c29_21 => ?_)
      · replace hf := gp_f c29_21 hf
        exact J39 i2_15 _ _ _ hf (lv_sub hl [0, 1, 2] rfl) Y
      · replace hf := gp_t c29_21 hf
        refine lv_aload_n hx hb d_Le_requireReader_32 rfl (lv_at hl 1 rfl) ?_
        refine gy_get (ci := 0) (v := Value.ref (b 25)) (C := "CommitLedger") (T := F_Le) (N := 18) hx hb hts i_Le hown hK Y gF_0 rfl 4 (by decide) kf_Le_45 rfl d_Le_requireReader_33 ?_
        refine lv_iload_n hx hb d_Le_requireReader_36 rfl (lv_at hl 0 rfl) ?_
        refine gy_aalR hf hx hb hK Y 4 gF_25 ht4 d_Le_requireReader_37 (fun hi22 hf => ?_)
        replace hf := gU hf ho15
        exact gy_aretO (x := (some (26 + 5 * gn i2_15))) hf hx hb hr hlocks hK Y (Nat.zero_le _) (Nat.zero_le _) d_Le_requireReader_38

def f_Le_limits (X0 : gX) (a1 : Int32) (a2 : Int32) : Option (gR × gX) := gCvt (f_Le_requireRange X0 a1 1 10000) (fun E X => some (gR.t E, X)) (fun X1 => gCvt (f_Le_requireRange X1 a2 2 64) (fun E X => some (gR.t E, X)) (fun X2 => gB (X2.w 0 10 a1) (fun X3 => gB (X3.w 0 11 a2) (fun X4 => some (gR.v, X4)))))
set_option maxHeartbeats 4000000 in
set_option maxRecDepth 100000 in
theorem K_Le_limits (l : Launch) (htr : l.stackTraces = false) (D : va_G) (tys : List (ClassId × FieldType)) (z sz : Nat) (ws : va_W) (h : gm_M) (hM : gm_S h ws) (t : Nat → ClassId) (ht : gTy t tys) (b : Nat → Nat) (X0 : gX) (hw : gw D t b X0 h) (a1 : Int32) (a2 : Int32) (o : gR × gX) (hf : f_Le_limits X0 a1 a2 = some o) : gx_Met l y_Le_limits [Cond.code y_Le_limits b_Le_limits 3 none] { frames := 7, cells := gT o.1, slots := 6 * gT o.1, locals := 104 } (gx_P z sz D classes tys ws [Value.ref (b 0), Value.int a1, Value.int a2]) (gx_Q D classes tys (va_A ws sz) (gPo D t b X0 o)) (gT o.1) (6 * gT o.1) (va_A ws sz) := by
  refine gx_ofW (cc := b_Le_limits) (maxL := 3) (ret := none) (by decide) rfl ?_
  intro p e s m args below meth c s₁ B hml hv
  obtain ⟨rfl, hsz, hz, hP, hK, hD0, hY⟩ := hv
  have hx := B.exec
  have hb := B.bytes
  have hr := B.returns
  have hts := hY.hts (#[Value.ref (b 0), Value.int a1, Value.int a2] : Array Value)
  have hown : s.vm.findClass "CommitLedger" = some m.cls := findClass_of_methodNamed B.named
  have hlocks := B.notSynchronized
  have hne : c.exceptionTable.isEmpty = true := B.noHandlers (atoms_spec (ws := [Cond.code y_Le_limits b_Le_limits 3 none]) B.pre _ List.mem_cons_self)
  have hN := gx_ns hP
  subst hsz
  have hAz := gx_az hD0 hz
  have hD := hD0.self (sz := s.heap.size)
  have hA : ∀ q : Nat, s.heap.size ≤ q → va_A ws s.heap.size q := fun q h => Or.inr h
  generalize va_A ws s.heap.size = A at hD hA hAz hN ⊢
  have Y : gy D t b A s.heap X0 X0 s.heap [] := ⟨h, ⟨ws, hM, hP, hD, va_S.rf⟩, hw, gEq.rf⟩
  clear hP hD hM hD0 hw
  obtain ⟨ht0, ht1, ht2, ht3, ht4, ht5, ht6, ht7, ht8⟩ := id ht
  have hl := lv_entry ([Value.ref (b 0), Value.int a1, Value.int a2]) (n := 3) (Nat.le_of_ble_eq_true rfl)
  rw [lg_entry_eq]
  generalize (lg_sl ([Value.ref (b 0), Value.int a1, Value.int a2]) ++ List.replicate (3 - (lg_sl ([Value.ref (b 0), Value.int a1, Value.int a2])).length) Slot.unset).toArray = ls at hl ⊢
  have hl : lv_has ls 3 [(0, Value.ref (b 0)), (1, Value.int a1), (2, Value.int a2)] := hl
  unfold f_Le_limits at hf
  refine lv_iload_n hx hb d_Le_limits_0 rfl (lv_at hl 1 rfl) ?_
  refine lv_iconst (v := 1) hx hb d_Le_limits_1 (by decide) ?_
  refine lv_sipush (v := 10000) hx hb d_Le_limits_2 (by decide) ?_
  rcases gCvt_el hf with ⟨X5, hF5, hf⟩ | ⟨E5, X5, hF5, hf⟩
  rotate_left
  · cases hf
    refine gy_callT (rm := { frames := 6, cells := 1, slots := 6, locals := 82 }) (ig := .invokestatic 60) (av := [Value.int a1, Value.int 1, Value.int 10000]) Y (fun ws h hS hw => K_Le_requireRange l htr D tys z _ ws h hS t ht b X0 hw a1 1 10000 (gR.t E5, X5) hF5) (gx_invS (As := [Value.int a1, Value.int 1, Value.int 10000]) (rest := []) hx hb hown hts km_Le_60 kS_Le_requireRange kN_Le kc_Le_requireRange (by decide) (show (parseMethodDescriptor y_Le_requireRange.desc).map (fun d => d.parameters.length) = some 3 by decide +kernel) rfl rfl d_Le_limits_5) (gx_cw (z := 0) hts kc_Le_requireRange kN_Le rfl rfl ⟨Nat.le_of_ble_eq_true rfl, Nat.le_of_ble_eq_true rfl⟩) hb hml hz hK hY hAz hA hl.1 (lv_room (Nat.le_of_ble_eq_true rfl)) d_Le_limits_5 ⟨Nat.le_of_ble_eq_true rfl, Nat.le_of_ble_eq_true rfl⟩ (fun x9 ce H1 L9 hce Y => gy_pass hne hlocks hce hK Y (Nat.le_of_ble_eq_true rfl) (Nat.le_of_ble_eq_true rfl))
  refine gy_callV (rm := { frames := 6, cells := 0, slots := 0, locals := 82 }) (ig := .invokestatic 60) (av := [Value.int a1, Value.int 1, Value.int 10000]) Y (fun ws h hS hw => K_Le_requireRange l htr D tys z _ ws h hS t ht b X0 hw a1 1 10000 (gR.v, X5) hF5) (gx_invS (As := [Value.int a1, Value.int 1, Value.int 10000]) (rest := []) hx hb hown hts km_Le_60 kS_Le_requireRange kN_Le kc_Le_requireRange (by decide) (show (parseMethodDescriptor y_Le_requireRange.desc).map (fun d => d.parameters.length) = some 3 by decide +kernel) rfl rfl d_Le_limits_5) (gx_cw (z := 0) hts kc_Le_requireRange kN_Le rfl rfl ⟨Nat.le_of_ble_eq_true rfl, Nat.le_of_ble_eq_true rfl⟩) hb hml hz hK hY hAz hA hl.1 (lv_room (Nat.le_of_ble_eq_true rfl)) d_Le_limits_5 ⟨Nat.zero_le _, Nat.zero_le _⟩ (fun H locs Y => ?_)
  refine lv_iload_n hx hb d_Le_limits_8 rfl (lv_at hl 2 rfl) ?_
  refine lv_iconst (v := 2) hx hb d_Le_limits_9 (by decide) ?_
  refine lv_bipush (v := 64) hx hb d_Le_limits_10 (by decide) ?_
  rcases gCvt_el hf with ⟨X6, hF6, hf⟩ | ⟨E6, X6, hF6, hf⟩
  rotate_left
  · cases hf
    refine gy_callT (rm := { frames := 6, cells := 1, slots := 6, locals := 82 }) (ig := .invokestatic 60) (av := [Value.int a2, Value.int 2, Value.int 64]) Y (fun ws h hS hw => K_Le_requireRange l htr D tys z _ ws h hS t ht b X5 hw a2 2 64 (gR.t E6, X6) hF6) (gx_invS (As := [Value.int a2, Value.int 2, Value.int 64]) (rest := []) hx hb hown hts km_Le_60 kS_Le_requireRange kN_Le kc_Le_requireRange (by decide) (show (parseMethodDescriptor y_Le_requireRange.desc).map (fun d => d.parameters.length) = some 3 by decide +kernel) rfl rfl d_Le_limits_12) (gx_cw (z := 0) hts kc_Le_requireRange kN_Le rfl rfl ⟨Nat.le_of_ble_eq_true rfl, Nat.le_of_ble_eq_true rfl⟩) hb hml hz hK hY hAz hA hl.1 (lv_room (Nat.le_of_ble_eq_true rfl)) d_Le_limits_12 ⟨Nat.le_of_ble_eq_true rfl, Nat.le_of_ble_eq_true rfl⟩ (fun x9 ce H1 L9 hce Y => gy_pass hne hlocks hce hK Y (Nat.le_of_ble_eq_true rfl) (Nat.le_of_ble_eq_true rfl))
  refine gy_callV (rm := { frames := 6, cells := 0, slots := 0, locals := 82 }) (ig := .invokestatic 60) (av := [Value.int a2, Value.int 2, Value.int 64]) Y (fun ws h hS hw => K_Le_requireRange l htr D tys z _ ws h hS t ht b X5 hw a2 2 64 (gR.v, X6) hF6) (gx_invS (As := [Value.int a2, Value.int 2, Value.int 64]) (rest := []) hx hb hown hts km_Le_60 kS_Le_requireRange kN_Le kc_Le_requireRange (by decide) (show (parseMethodDescriptor y_Le_requireRange.desc).map (fun d => d.parameters.length) = some 3 by decide +kernel) rfl rfl d_Le_limits_12) (gx_cw (z := 0) hts kc_Le_requireRange kN_Le rfl rfl ⟨Nat.le_of_ble_eq_true rfl, Nat.le_of_ble_eq_true rfl⟩) hb hml hz hK hY hAz hA hl.1 (lv_room (Nat.le_of_ble_eq_true rfl)) d_Le_limits_12 ⟨Nat.zero_le _, Nat.zero_le _⟩ (fun H locs Y => ?_)
  refine lv_aload_n hx hb d_Le_limits_15 rfl (lv_at hl 0 rfl) ?_
  refine lv_iload_n hx hb d_Le_limits_16 rfl (lv_at hl 1 rfl) ?_
  refine gy_put hf (ci := 0) (ty := .int) (C := "CommitLedger") (T := F_Le) (N := 18) hx hb hts i_Le t_Le_ok n_Le hown hK Y gF_0 rfl (by decide) kf_Le_50 rfl (by decide +kernel) rfl rfl (Nat.le_of_ble_eq_true rfl) gF_0 d_Le_limits_17 (fun X7 H locs hf Y => ?_)
  refine lv_aload_n hx hb d_Le_limits_20 rfl (lv_at hl 0 rfl) ?_
  refine lv_iload_n hx hb d_Le_limits_21 rfl (lv_at hl 2 rfl) ?_
  refine gy_put hf (ci := 0) (ty := .int) (C := "CommitLedger") (T := F_Le) (N := 18) hx hb hts i_Le t_Le_ok n_Le hown hK Y gF_0 rfl (by decide) kf_Le_54 rfl (by decide +kernel) rfl rfl (Nat.le_of_ble_eq_true rfl) gF_0 d_Le_limits_22 (fun X8 H locs hf Y => ?_)
  exact gy_vret hf hx hb hr hlocks hK Y (Nat.zero_le _) (Nat.zero_le _) d_Le_limits_25

def f_Le_power (X0 : gX) (a1 : Int32) : Option (gR × gX) := gCvt (f_Le_requireRange X0 a1 (-1) 1000000) (fun E X => some (gR.t E, X)) (fun X1 => gB (X1.w 0 17 a1) (fun X2 => some (gR.v, X2)))
set_option maxHeartbeats 4000000 in
set_option maxRecDepth 100000 in
theorem K_Le_power (l : Launch) (htr : l.stackTraces = false) (D : va_G) (tys : List (ClassId × FieldType)) (z sz : Nat) (ws : va_W) (h : gm_M) (hM : gm_S h ws) (t : Nat → ClassId) (ht : gTy t tys) (b : Nat → Nat) (X0 : gX) (hw : gw D t b X0 h) (a1 : Int32) (o : gR × gX) (hf : f_Le_power X0 a1 = some o) : gx_Met l y_Le_power [Cond.code y_Le_power b_Le_power 2 none] { frames := 7, cells := gT o.1, slots := 6 * gT o.1, locals := 104 } (gx_P z sz D classes tys ws [Value.ref (b 0), Value.int a1]) (gx_Q D classes tys (va_A ws sz) (gPo D t b X0 o)) (gT o.1) (6 * gT o.1) (va_A ws sz) := by
  refine gx_ofW (cc := b_Le_power) (maxL := 2) (ret := none) (by decide) rfl ?_
  intro p e s m args below meth c s₁ B hml hv
  obtain ⟨rfl, hsz, hz, hP, hK, hD0, hY⟩ := hv
  have hx := B.exec
  have hb := B.bytes
  have hr := B.returns
  have hts := hY.hts (#[Value.ref (b 0), Value.int a1] : Array Value)
  have hown : s.vm.findClass "CommitLedger" = some m.cls := findClass_of_methodNamed B.named
  have hlocks := B.notSynchronized
  have hne : c.exceptionTable.isEmpty = true := B.noHandlers (atoms_spec (ws := [Cond.code y_Le_power b_Le_power 2 none]) B.pre _ List.mem_cons_self)
  have hN := gx_ns hP
  subst hsz
  have hAz := gx_az hD0 hz
  have hD := hD0.self (sz := s.heap.size)
  have hA : ∀ q : Nat, s.heap.size ≤ q → va_A ws s.heap.size q := fun q h => Or.inr h
  generalize va_A ws s.heap.size = A at hD hA hAz hN ⊢
  have Y : gy D t b A s.heap X0 X0 s.heap [] := ⟨h, ⟨ws, hM, hP, hD, va_S.rf⟩, hw, gEq.rf⟩
  clear hP hD hM hD0 hw
  obtain ⟨ht0, ht1, ht2, ht3, ht4, ht5, ht6, ht7, ht8⟩ := id ht
  have hl := lv_entry ([Value.ref (b 0), Value.int a1]) (n := 2) (Nat.le_of_ble_eq_true rfl)
  rw [lg_entry_eq]
  generalize (lg_sl ([Value.ref (b 0), Value.int a1]) ++ List.replicate (2 - (lg_sl ([Value.ref (b 0), Value.int a1])).length) Slot.unset).toArray = ls at hl ⊢
  have hl : lv_has ls 2 [(0, Value.ref (b 0)), (1, Value.int a1)] := hl
  unfold f_Le_power at hf
  refine lv_iload_n hx hb d_Le_power_0 rfl (lv_at hl 1 rfl) ?_
  refine lv_iconst (v := (-1)) hx hb d_Le_power_1 (by decide) ?_
  refine lv_ldc (v := 1000000) hx hb hown (hts _ ki_Le_187) d_Le_power_2 ?_
  rcases gCvt_el hf with ⟨X3, hF3, hf⟩ | ⟨E3, X3, hF3, hf⟩
  rotate_left
  · cases hf
    refine gy_callT (rm := { frames := 6, cells := 1, slots := 6, locals := 82 }) (ig := .invokestatic 60) (av := [Value.int a1, Value.int (-1), Value.int 1000000]) Y (fun ws h hS hw => K_Le_requireRange l htr D tys z _ ws h hS t ht b X0 hw a1 (-1) 1000000 (gR.t E3, X3) hF3) (gx_invS (As := [Value.int a1, Value.int (-1), Value.int 1000000]) (rest := []) hx hb hown hts km_Le_60 kS_Le_requireRange kN_Le kc_Le_requireRange (by decide) (show (parseMethodDescriptor y_Le_requireRange.desc).map (fun d => d.parameters.length) = some 3 by decide +kernel) rfl rfl d_Le_power_4) (gx_cw (z := 0) hts kc_Le_requireRange kN_Le rfl rfl ⟨Nat.le_of_ble_eq_true rfl, Nat.le_of_ble_eq_true rfl⟩) hb hml hz hK hY hAz hA hl.1 (lv_room (Nat.le_of_ble_eq_true rfl)) d_Le_power_4 ⟨Nat.le_of_ble_eq_true rfl, Nat.le_of_ble_eq_true rfl⟩ (fun x9 ce H1 L9 hce Y => gy_pass hne hlocks hce hK Y (Nat.le_of_ble_eq_true rfl) (Nat.le_of_ble_eq_true rfl))
  refine gy_callV (rm := { frames := 6, cells := 0, slots := 0, locals := 82 }) (ig := .invokestatic 60) (av := [Value.int a1, Value.int (-1), Value.int 1000000]) Y (fun ws h hS hw => K_Le_requireRange l htr D tys z _ ws h hS t ht b X0 hw a1 (-1) 1000000 (gR.v, X3) hF3) (gx_invS (As := [Value.int a1, Value.int (-1), Value.int 1000000]) (rest := []) hx hb hown hts km_Le_60 kS_Le_requireRange kN_Le kc_Le_requireRange (by decide) (show (parseMethodDescriptor y_Le_requireRange.desc).map (fun d => d.parameters.length) = some 3 by decide +kernel) rfl rfl d_Le_power_4) (gx_cw (z := 0) hts kc_Le_requireRange kN_Le rfl rfl ⟨Nat.le_of_ble_eq_true rfl, Nat.le_of_ble_eq_true rfl⟩) hb hml hz hK hY hAz hA hl.1 (lv_room (Nat.le_of_ble_eq_true rfl)) d_Le_power_4 ⟨Nat.zero_le _, Nat.zero_le _⟩ (fun H locs Y => ?_)
  refine lv_aload_n hx hb d_Le_power_7 rfl (lv_at hl 0 rfl) ?_
  refine lv_iload_n hx hb d_Le_power_8 rfl (lv_at hl 1 rfl) ?_
  refine gy_put hf (ci := 0) (ty := .int) (C := "CommitLedger") (T := F_Le) (N := 18) hx hb hts i_Le t_Le_ok n_Le hown hK Y gF_0 rfl (by decide) kf_Le_57 rfl (by decide +kernel) rfl rfl (Nat.le_of_ble_eq_true rfl) gF_0 d_Le_power_9 (fun X4 H locs hf Y => ?_)
  exact gy_vret hf hx hb hr hlocks hK Y (Nat.zero_le _) (Nat.zero_le _) d_Le_power_12

def f_Le_harm_8 (X : gX) : Option (gR × gX) := some (gR.t "java/lang/IllegalArgumentException", X)
def f_Le_harm_32 (X : gX) : Option (gR × gX) := some (gR.t "java/lang/IllegalStateException", X)
def f_Le_harm (X0 : gX) (a1 : Int32) (a2 : Int32) : Option (gR × gX) := (if a1 < (0 : Int32) then f_Le_harm_8 X0 else (if (0 : Int32) ≤ a2 then (if (X0.I 0 7) = (0 : Int32) then gCi (f_Le_openReaders X0) (fun x4 X4 => (if x4 ≤ (0 : Int32) then gCa (f_Di_find X4 a1) (fun x6 X6 => (gO x6 (some (gR.t "java/util/NoSuchElementException", X6)) (fun n7 => (if gFile X6.N n7 then (if (X6.I n7 2) = (0 : Int32) then (if gFile X6.N n7 then gB (X6.w n7 2 1) (fun X11 => some (gR.v, X11)) else none) else some (gR.t "java/lang/IllegalStateException", X6)) else none)))) else f_Le_harm_32 X4)) else f_Le_harm_32 X0) else f_Le_harm_8 X0))
set_option maxHeartbeats 4000000 in
set_option maxRecDepth 100000 in
theorem K_Le_harm (l : Launch) (htr : l.stackTraces = false) (D : va_G) (tys : List (ClassId × FieldType)) (z sz : Nat) (ws : va_W) (h : gm_M) (hM : gm_S h ws) (t : Nat → ClassId) (ht : gTy t tys) (b : Nat → Nat) (X0 : gX) (hw : gw D t b X0 h) (a1 : Int32) (a2 : Int32) (o : gR × gX) (hf : f_Le_harm X0 a1 a2 = some o) : gx_Met l y_Le_harm [Cond.code y_Le_harm b_Le_harm 4 none] { frames := 6, cells := gT o.1, slots := 6 * gT o.1, locals := 98 } (gx_P z sz D classes tys ws [Value.ref (b 0), Value.int a1, Value.int a2]) (gx_Q D classes tys (va_A ws sz) (gPo D t b X0 o)) (gT o.1) (6 * gT o.1) (va_A ws sz) := by
  refine gx_ofW (cc := b_Le_harm) (maxL := 4) (ret := none) (by decide) rfl ?_
  intro p e s m args below meth c s₁ B hml hv
  obtain ⟨rfl, hsz, hz, hP, hK, hD0, hY⟩ := hv
  have hx := B.exec
  have hb := B.bytes
  have hr := B.returns
  have hts := hY.hts (#[Value.ref (b 0), Value.int a1, Value.int a2] : Array Value)
  have hown : s.vm.findClass "CommitLedger" = some m.cls := findClass_of_methodNamed B.named
  have hlocks := B.notSynchronized
  have hne : c.exceptionTable.isEmpty = true := B.noHandlers (atoms_spec (ws := [Cond.code y_Le_harm b_Le_harm 4 none]) B.pre _ List.mem_cons_self)
  have hN := gx_ns hP
  subst hsz
  have hAz := gx_az hD0 hz
  have hD := hD0.self (sz := s.heap.size)
  have hA : ∀ q : Nat, s.heap.size ≤ q → va_A ws s.heap.size q := fun q h => Or.inr h
  generalize va_A ws s.heap.size = A at hD hA hAz hN ⊢
  have Y : gy D t b A s.heap X0 X0 s.heap [] := ⟨h, ⟨ws, hM, hP, hD, va_S.rf⟩, hw, gEq.rf⟩
  clear hP hD hM hD0 hw
  obtain ⟨ht0, ht1, ht2, ht3, ht4, ht5, ht6, ht7, ht8⟩ := id ht
  have hl := lv_entry ([Value.ref (b 0), Value.int a1, Value.int a2]) (n := 4) (Nat.le_of_ble_eq_true rfl)
  rw [lg_entry_eq]
  generalize (lg_sl ([Value.ref (b 0), Value.int a1, Value.int a2]) ++ List.replicate (4 - (lg_sl ([Value.ref (b 0), Value.int a1, Value.int a2])).length) Slot.unset).toArray = ls at hl ⊢
  have hl : lv_has ls 4 [(0, Value.ref (b 0)), (1, Value.int a1), (2, Value.int a2)] := hl
  refine gy_cut (pcJ := 32) Y (fun s : gX => f_Le_harm_32 s) o (fun s => s) (fun s ls => lv_has ls 4 []) (fun s => []) ?_ (fun J32 => ?_)
  · rintro X12 H locs ls hf hl Y
    have hl : lv_has ls 4 [] := hl
    have Y : gy D t b A s.heap X0 X12 H locs := Y
    have hf : f_Le_harm_32 X12 = some o := hf
    unfold f_Le_harm_32 at hf
    cases hf
    exact gy_thr (i1 := 7) (b1 := prog_16_method_2_code) hx hb htr (hml.trans hl.1.symm) hown hts hne hlocks hK Y hA hN kk_Le_68 kX_IllegalStateException kN_IllegalStateException ks_Le_199 kT_Le_72 (by decide) (by decide +kernel) (by decide +kernel) (by decide +kernel) (by decide +kernel) d_Le_harm_32 d_Le_harm_35 d_Le_harm_36 d_Le_harm_38 d_Le_harm_41 (Nat.le_of_ble_eq_true rfl) (Nat.le_of_ble_eq_true rfl) (Nat.le_of_ble_eq_true rfl) (Nat.le_of_ble_eq_true rfl) (Nat.le_of_ble_eq_true rfl) (Nat.le_of_ble_eq_true rfl)
  refine gy_cut (pcJ := 8) Y (fun s : gX => f_Le_harm_8 s) o (fun s => s) (fun s ls => lv_has ls 4 []) (fun s => []) ?_ (fun J8 => ?_)
  · rintro X13 H locs ls hf hl Y
    have hl : lv_has ls 4 [] := hl
    have Y : gy D t b A s.heap X0 X13 H locs := Y
    have hf : f_Le_harm_8 X13 = some o := hf
    unfold f_Le_harm_8 at hf
    cases hf
    exact gy_thr (i1 := 7) (b1 := prog_15_method_2_code) hx hb htr (hml.trans hl.1.symm) hown hts hne hlocks hK Y hA hN kk_Le_191 kX_IllegalArgumentException kN_IllegalArgumentException ks_Le_193 kT_Le_195 (by decide) (by decide +kernel) (by decide +kernel) (by decide +kernel) (by decide +kernel) d_Le_harm_8 d_Le_harm_11 d_Le_harm_12 d_Le_harm_14 d_Le_harm_17 (Nat.le_of_ble_eq_true rfl) (Nat.le_of_ble_eq_true rfl) (Nat.le_of_ble_eq_true rfl) (Nat.le_of_ble_eq_true rfl) (Nat.le_of_ble_eq_true rfl) (Nat.le_of_ble_eq_true rfl)
  unfold f_Le_harm at hf
  refine lv_iload_n hx hb d_Le_harm_0 rfl (lv_at hl 1 rfl) ?_
  refine lv_if_lt (tgt := 8) hx hb d_Le_harm_1 (by decide) (fun c1_14 => ?_) (fun c1_14 => ?_)
  · replace hf := gp_t c1_14 hf
    exact J8 X0 _ _ _ hf (lv_sub hl [] rfl) Y
  · replace hf := gp_f c1_14 hf
    refine lv_iload_n hx hb d_Le_harm_4 rfl (lv_at hl 2 rfl) ?_
    refine lv_if_ge (tgt := 18) hx hb d_Le_harm_5 (by decide) (fun c5_15 => ?_) (fun c5_15 => ?_)
    · replace hf := gp_t c5_15 hf
      refine lv_aload_n hx hb d_Le_harm_18 rfl (lv_at hl 0 rfl) ?_
      refine gy_get (ci := 0) (v := Value.int (X0.I 0 7)) (C := "CommitLedger") (T := F_Le) (N := 18) hx hb hts i_Le hown hK Y gF_0 rfl 7 (by decide) kf_Le_64 rfl d_Le_harm_19 ?_
      refine lv_if_ne (tgt := 32) hx hb d_Le_harm_22 (by decide) (fun c22_16 => ?_) (fun c22_16 => ?_)
      · replace hf := gp_f c22_16 hf
        exact J32 X0 _ _ _ hf (lv_sub hl [] rfl) Y
      · replace hf := gp_t c22_16 hf
        refine lv_aload_n hx hb d_Le_harm_25 rfl (lv_at hl 0 rfl) ?_
        obtain ⟨x17, X17, hF17, hf⟩ := gCi_el hf
        refine gy_callI (rm := { frames := 1, cells := 0, slots := 0, locals := 12 }) (ig := .invokevirtual 196) (av := [Value.ref (b 0)]) Y (fun ws h hS hw => K_Le_openReaders l htr D tys z _ ws h hS t ht b X0 hw (gR.i x17, X17) hF17) (gx_invV (As := []) (rest := []) hx hb hown hts km_Le_196 kI_Le_openReaders kV_Le_openReaders kc_Le_openReaders (by decide) (show (parseMethodDescriptor y_Le_openReaders.desc).map (fun d => d.parameters.length) = some 0 by decide +kernel) (gy_recv (ci := 0) hK Y rfl gF_0) rfl rfl d_Le_harm_26) (gx_cw (z := 0) hts kc_Le_openReaders kN_Le rfl rfl ⟨Nat.le_of_ble_eq_true rfl, Nat.le_of_ble_eq_true rfl⟩) hb hml hz hK hY hAz hA hl.1 (lv_room (Nat.le_of_ble_eq_true rfl)) d_Le_harm_26 ⟨Nat.zero_le _, Nat.zero_le _⟩ (fun H locs Y => ?_)
        refine lv_if_le (tgt := 42) hx hb d_Le_harm_29 (by decide) (fun c29_18 => ?_) (fun c29_18 => ?_)
        · replace hf := gp_t c29_18 hf
          refine lv_aload_n hx hb d_Le_harm_42 rfl (lv_at hl 0 rfl) ?_
          refine gy_get (ci := 0) (v := Value.ref (b 5)) (C := "CommitLedger") (T := F_Le) (N := 18) hx hb hts i_Le hown hK Y gF_0 rfl 1 (by decide) kf_Le_19 rfl d_Le_harm_43 ?_
          refine lv_iload_n hx hb d_Le_harm_46 rfl (lv_at hl 1 rfl) ?_
          obtain ⟨x19, X19, hF19, hf⟩ := gCa_el hf
          refine gy_callA (rm := { frames := 4, cells := 0, slots := 0, locals := 76 }) (ig := .invokevirtual 201) (av := [Value.ref (b 5), Value.int a1]) Y (fun ws h hS hw => K_Di_find l htr D tys z _ ws h hS t ht b X17 hw a1 (gR.a x19, X19) hF19) (gx_invV (As := [Value.int a1]) (rest := []) hx hb hown hts km_Le_201 kI_Di_find kV_Di_find kc_Di_find (by decide) (show (parseMethodDescriptor y_Di_find.desc).map (fun d => d.parameters.length) = some 1 by decide +kernel) (gy_recv (ci := 2) hK Y rfl gF_5) rfl rfl d_Le_harm_47) (gx_cw (z := 0) hts kc_Di_find kN_Di rfl rfl ⟨Nat.le_of_ble_eq_true rfl, Nat.le_of_ble_eq_true rfl⟩) hb hml hz hK hY hAz hA hl.1 (lv_room (Nat.le_of_ble_eq_true rfl)) d_Le_harm_47 ⟨Nat.zero_le _, Nat.zero_le _⟩ (fun H locs Y => ?_)
          refine lv_astore_nO (lv' := [(3, va_rf (Option.map b x19)), (0, Value.ref (b 0)), (1, Value.int a1), (2, Value.int a2)]) hx hb d_Le_harm_50 rfl hl (by decide) rfl (fun ls hl => ?_)
          refine lv_aload_nO hx hb d_Le_harm_51 rfl (lv_at hl 0 rfl) ?_
          rcases gO_el hf with ⟨e20, hf⟩ | ⟨n20, e20, hf⟩
          · refine W.eq (g2 := F0 m 52 ls [Value.null]) (by rw [e20] <;> rfl) ?_
            replace hl : lv_has ls 4 [(3, Value.null), (0, Value.ref (b 0)), (1, Value.int a1), (2, Value.int a2)] := by rw [e20] at hl; exact hl
            refine lv_ifnonnullN hx hb d_Le_harm_52 ?_
            cases hf
            exact gy_thr (i1 := 13) (b1 := prog_31_method_4_code) hx hb htr (hml.trans hl.1.symm) hown hts hne hlocks hK Y hA hN kk_Le_150 kX_NoSuchElementException kN_NoSuchElementException ks_Le_205 kT_Le_154 (by decide) (by decide +kernel) (by decide +kernel) (by decide +kernel) (by decide +kernel) d_Le_harm_55 d_Le_harm_58 d_Le_harm_59 d_Le_harm_61 d_Le_harm_64 (Nat.le_of_ble_eq_true rfl) (Nat.le_of_ble_eq_true rfl) (Nat.le_of_ble_eq_true rfl) (Nat.le_of_ble_eq_true rfl) (Nat.le_of_ble_eq_true rfl) (Nat.le_of_ble_eq_true rfl)
          · refine W.eq (g2 := F0 m 52 ls [Value.ref (b n20)]) (by rw [e20] <;> rfl) ?_
            replace hl : lv_has ls 4 [(3, Value.ref (b n20)), (0, Value.ref (b 0)), (1, Value.int a1), (2, Value.int a2)] := by rw [e20] at hl; exact hl
            refine lv_ifnonnull (tgt := 65) hx hb d_Le_harm_52 (by decide) ?_
            refine lv_aload_n hx hb d_Le_harm_65 rfl (lv_at hl 0 rfl) ?_
            obtain ⟨hv21, hf⟩ := gp_g hf
            refine gy_get (ci := 7) (v := Value.int (X19.I n20 2)) (C := "CommitLedger$LedgerFile") (T := F_Fi) (N := 7) hx hb hts i_Fi hown hK Y (gF_Fi hv21) rfl 2 (by decide) kf_Le_207 rfl d_Le_harm_66 ?_
            refine lv_if_eq (tgt := 82) hx hb d_Le_harm_69 (by decide) (fun c69_22 => ?_) (fun c69_22 => ?_)
            · replace hf := gp_t c69_22 hf
              refine lv_aload_n hx hb d_Le_harm_82 rfl (lv_at hl 0 rfl) ?_
              refine lv_iconst (v := 1) hx hb d_Le_harm_83 (by decide) ?_
              obtain ⟨hv23, hf⟩ := gp_g hf
              refine gy_put hf (ci := 7) (ty := .boolean) (C := "CommitLedger$LedgerFile") (T := F_Fi) (N := 7) hx hb hts i_Fi t_Fi_ok n_Fi hown hK Y (gF_Fi hv23) rfl (by decide) kf_Le_207 rfl (by decide +kernel) rfl rfl (Nat.le_of_ble_eq_true rfl) (gF_Fi hv23) d_Le_harm_84 (fun X24 H locs hf Y => ?_)
              exact gy_vret hf hx hb hr hlocks hK Y (Nat.zero_le _) (Nat.zero_le _) d_Le_harm_87
            · replace hf := gp_f c69_22 hf
              cases hf
              exact gy_thr (i1 := 7) (b1 := prog_16_method_2_code) hx hb htr (hml.trans hl.1.symm) hown hts hne hlocks hK Y hA hN kk_Le_68 kX_IllegalStateException kN_IllegalStateException ks_Le_212 kT_Le_72 (by decide) (by decide +kernel) (by decide +kernel) (by decide +kernel) (by decide +kernel) d_Le_harm_72 d_Le_harm_75 d_Le_harm_76 d_Le_harm_78 d_Le_harm_81 (Nat.le_of_ble_eq_true rfl) (Nat.le_of_ble_eq_true rfl) (Nat.le_of_ble_eq_true rfl) (Nat.le_of_ble_eq_true rfl) (Nat.le_of_ble_eq_true rfl) (Nat.le_of_ble_eq_true rfl)
        · replace hf := gp_f c29_18 hf
          exact J32 X17 _ _ _ hf (lv_sub hl [] rfl) Y
    · replace hf := gp_f c5_15 hf
      exact J8 X0 _ _ _ hf (lv_sub hl [] rfl) Y

def f_Le_value_60 (X : gX) (i2 : Int32) (n3 : Nat) (i4 : Int32) : Option ((Int32) ⊕ (gR × gX)) := some (Sum.inl (i4 + (-1)))
def f_Le_value_20 (X : gX) (i2 : Int32) (n3 : Nat) (i4 : Int32) : Option ((Int32) ⊕ (gR × gX)) := (if i4 < (0 : Int32) then gLf (some (gR.t "java/util/NoSuchElementException", X)) else (if gIn i4 4096 then (if (X.I (n3 + 3) (gn i4)) = (0 : Int32) then f_Le_value_60 X i2 n3 i4 else (if gIn i4 4096 then (if (X.I 2 (gn i4)) = i2 then (if gIn i4 4096 then gLf (some (gR.i (X.I 3 (gn i4)), X)) else none) else f_Le_value_60 X i2 n3 i4) else none)) else none))
def f_Le_value (X0 : gX) (a1 : Int32) (a2 : Int32) : Option (gR × gX) := gCat (f_Le_requireReader X0 a1) (fun E X => some (gR.t E, X)) (fun x1 X1 => gM x1 (fun n2 => (if gRea n2 then gI (fun s : Int32 => f_Le_value_20 X1 a2 (n2 + 1) s) gK ((X1.I 1 3) - 1) else none)))
set_option maxHeartbeats 4000000 in
set_option maxRecDepth 100000 in
theorem K_Le_value (l : Launch) (htr : l.stackTraces = false) (D : va_G) (tys : List (ClassId × FieldType)) (z sz : Nat) (ws : va_W) (h : gm_M) (hM : gm_S h ws) (t : Nat → ClassId) (ht : gTy t tys) (b : Nat → Nat) (X0 : gX) (hw : gw D t b X0 h) (a1 : Int32) (a2 : Int32) (o : gR × gX) (hf : f_Le_value X0 a1 a2 = some o) : gx_Met l y_Le_value [Cond.code y_Le_value b_Le_value 5 (some .int)] { frames := 7, cells := gT o.1, slots := 6 * gT o.1, locals := 104 } (gx_P z sz D classes tys ws [Value.ref (b 0), Value.int a1, Value.int a2]) (gx_Q D classes tys (va_A ws sz) (gPo D t b X0 o)) (gT o.1) (6 * gT o.1) (va_A ws sz) := by
  refine gx_ofW (cc := b_Le_value) (maxL := 5) (ret := (some .int)) (by decide) rfl ?_
  intro p e s m args below meth c s₁ B hml hv
  obtain ⟨rfl, hsz, hz, hP, hK, hD0, hY⟩ := hv
  have hx := B.exec
  have hb := B.bytes
  have hr := B.returns
  have hts := hY.hts (#[Value.ref (b 0), Value.int a1, Value.int a2] : Array Value)
  have hown : s.vm.findClass "CommitLedger" = some m.cls := findClass_of_methodNamed B.named
  have hlocks := B.notSynchronized
  have hne : c.exceptionTable.isEmpty = true := B.noHandlers (atoms_spec (ws := [Cond.code y_Le_value b_Le_value 5 (some .int)]) B.pre _ List.mem_cons_self)
  have hN := gx_ns hP
  subst hsz
  have hAz := gx_az hD0 hz
  have hD := hD0.self (sz := s.heap.size)
  have hA : ∀ q : Nat, s.heap.size ≤ q → va_A ws s.heap.size q := fun q h => Or.inr h
  generalize va_A ws s.heap.size = A at hD hA hAz hN ⊢
  have Y : gy D t b A s.heap X0 X0 s.heap [] := ⟨h, ⟨ws, hM, hP, hD, va_S.rf⟩, hw, gEq.rf⟩
  clear hP hD hM hD0 hw
  obtain ⟨ht0, ht1, ht2, ht3, ht4, ht5, ht6, ht7, ht8⟩ := id ht
  have hl := lv_entry ([Value.ref (b 0), Value.int a1, Value.int a2]) (n := 5) (Nat.le_of_ble_eq_true rfl)
  rw [lg_entry_eq]
  generalize (lg_sl ([Value.ref (b 0), Value.int a1, Value.int a2]) ++ List.replicate (5 - (lg_sl ([Value.ref (b 0), Value.int a1, Value.int a2])).length) Slot.unset).toArray = ls at hl ⊢
  have hl : lv_has ls 5 [(0, Value.ref (b 0)), (1, Value.int a1), (2, Value.int a2)] := hl
  unfold f_Le_value at hf
  refine lv_aload_n hx hb d_Le_value_0 rfl (lv_at hl 0 rfl) ?_
  refine lv_iload_n hx hb d_Le_value_1 rfl (lv_at hl 1 rfl) ?_
  rcases gCat_el hf with ⟨x12, X12, hF12, hf⟩ | ⟨E12, X12, hF12, hf⟩
  rotate_left
  · cases hf
    refine gy_callT (rm := { frames := 6, cells := 1, slots := 6, locals := 82 }) (ig := .invokevirtual 226) (av := [Value.ref (b 0), Value.int a1]) Y (fun ws h hS hw => K_Le_requireReader l htr D tys z _ ws h hS t ht b X0 hw a1 (gR.t E12, X12) hF12) (gx_invV (As := [Value.int a1]) (rest := []) hx hb hown hts km_Le_226 kI_Le_requireReader kV_Le_requireReader kc_Le_requireReader (by decide) (show (parseMethodDescriptor y_Le_requireReader.desc).map (fun d => d.parameters.length) = some 1 by decide +kernel) (gy_recv (ci := 0) hK Y rfl gF_0) rfl rfl d_Le_value_2) (gx_cw (z := 0) hts kc_Le_requireReader kN_Le rfl rfl ⟨Nat.le_of_ble_eq_true rfl, Nat.le_of_ble_eq_true rfl⟩) hb hml hz hK hY hAz hA hl.1 (lv_room (Nat.le_of_ble_eq_true rfl)) d_Le_value_2 ⟨Nat.le_of_ble_eq_true rfl, Nat.le_of_ble_eq_true rfl⟩ (fun x9 ce H1 L9 hce Y => gy_pass hne hlocks hce hK Y (Nat.le_of_ble_eq_true rfl) (Nat.le_of_ble_eq_true rfl))
  refine gy_callA (rm := { frames := 6, cells := 0, slots := 0, locals := 82 }) (ig := .invokevirtual 226) (av := [Value.ref (b 0), Value.int a1]) Y (fun ws h hS hw => K_Le_requireReader l htr D tys z _ ws h hS t ht b X0 hw a1 (gR.a x12, X12) hF12) (gx_invV (As := [Value.int a1]) (rest := []) hx hb hown hts km_Le_226 kI_Le_requireReader kV_Le_requireReader kc_Le_requireReader (by decide) (show (parseMethodDescriptor y_Le_requireReader.desc).map (fun d => d.parameters.length) = some 1 by decide +kernel) (gy_recv (ci := 0) hK Y rfl gF_0) rfl rfl d_Le_value_2) (gx_cw (z := 0) hts kc_Le_requireReader kN_Le rfl rfl ⟨Nat.le_of_ble_eq_true rfl, Nat.le_of_ble_eq_true rfl⟩) hb hml hz hK hY hAz hA hl.1 (lv_room (Nat.le_of_ble_eq_true rfl)) d_Le_value_2 ⟨Nat.zero_le _, Nat.zero_le _⟩ (fun H locs Y => ?_)
  obtain ⟨n13, e13, hf⟩ := gM_el hf
  refine W.eq (g2 := F0 m 5 ls [Value.ref (b n13)]) (by rw [e13] <;> rfl) ?_
  obtain ⟨hv14, hf⟩ := gp_g hf
  refine gy_get (ci := 6) (v := Value.ref (b (n13 + 1))) (C := "CommitLedger$Reader") (T := F_Re) (N := 3) hx hb hts i_Re hown hK Y (gF_Re hv14) rfl 0 (by decide) kf_Le_233 rfl d_Le_value_5 ?_
  refine lv_astore_n (lv' := [(3, Value.ref (b (n13 + 1))), (0, Value.ref (b 0)), (1, Value.int a1), (2, Value.int a2)]) hx hb d_Le_value_8 rfl hl (by decide) rfl (fun ls hl => ?_)
  refine lv_aload_n hx hb d_Le_value_9 rfl (lv_at hl 1 rfl) ?_
  refine gy_get (ci := 0) (v := Value.ref (b 1)) (C := "CommitLedger") (T := F_Le) (N := 18) hx hb hts i_Le hown hK Y gF_0 rfl 0 (by decide) kf_Le_10 rfl d_Le_value_10 ?_
  refine gy_get (ci := 1) (v := Value.int (X12.I 1 3)) (C := "CommitLedger$Entries") (T := F_En) (N := 4) hx hb hts i_En hown hK Y gF_1 rfl 3 (by decide) kf_Le_94 rfl d_Le_value_13 ?_
  refine lv_iconst (v := 1) hx hb d_Le_value_16 (by decide) ?_
  refine lv_isub hx hb d_Le_value_17 ?_
  refine lv_istore (lv' := [(4, Value.int ((X12.I 1 3) - 1)), (3, Value.ref (b (n13 + 1))), (0, Value.ref (b 0)), (1, Value.int a1), (2, Value.int a2)]) hx hb d_Le_value_18 hl (by decide) rfl (fun ls hl => ?_)
  refine gy_iter (fun s : Int32 => X12) (fun (s : Int32) ls => lv_has ls 5 [(4, Value.int s), (0, Value.ref (b 0)), (2, Value.int a2), (3, Value.ref (b (n13 + 1)))]) ?_ gK ((X12.I 1 3) - 1) _ _ _ hf (lv_sub hl [0, 2, 4, 1] rfl) Y
  rintro i4_15 u15 H locs ls hf hl Y hk15 ho15
  have hl : lv_has ls 5 [(4, Value.int i4_15), (0, Value.ref (b 0)), (2, Value.int a2), (3, Value.ref (b (n13 + 1)))] := hl
  have Y : gy D t b A s.heap X0 X12 H locs := Y
  have hf : f_Le_value_20 X12 a2 (n13 + 1) i4_15 = some u15 := hf
  refine gy_cut (pcJ := 60) Y (fun s : Int32 => f_Le_value_60 X12 a2 (n13 + 1) s) u15 (fun s => X12) (fun s ls => lv_has ls 5 [(4, Value.int s), (0, Value.ref (b 0)), (2, Value.int a2), (3, Value.ref (b (n13 + 1)))]) (fun s => []) ?_ (fun J60 => ?_)
  · rintro i4_16 H locs ls hf hl Y
    have hl : lv_has ls 5 [(4, Value.int i4_16), (0, Value.ref (b 0)), (2, Value.int a2), (3, Value.ref (b (n13 + 1)))] := hl
    have Y : gy D t b A s.heap X0 X12 H locs := Y
    have hf : f_Le_value_60 X12 a2 (n13 + 1) i4_16 = some u15 := hf
    unfold f_Le_value_60 at hf
    refine lv_iinc (v := i4_16 + (-1)) (lv' := [(4, Value.int (i4_16 + (-1))), (0, Value.ref (b 0)), (2, Value.int a2), (3, Value.ref (b (n13 + 1)))]) hx hb d_Le_value_60 hl (k := 0) rfl (rfl) (by decide) rfl (fun ls hl => ?_)
    refine lv_goto (tgt := 20) hx hb d_Le_value_63 (by decide) ?_
    exact hk15 _ _ _ _ hf (lv_sub hl [0, 1, 2, 3] rfl) Y
  unfold f_Le_value_20 at hf
  refine lv_iload hx hb d_Le_value_20 (lv_at hl 0 rfl) ?_
  refine lv_if_lt (tgt := 66) hx hb d_Le_value_22 (by decide) (fun c22_17 => ?_) (fun c22_17 => ?_)
  · replace hf := gp_t c22_17 hf
    replace hf := gU hf ho15
    cases hf
    exact gy_thr (i1 := 13) (b1 := prog_31_method_4_code) hx hb htr (hml.trans hl.1.symm) hown hts hne hlocks hK Y hA hN kk_Le_150 kX_NoSuchElementException kN_NoSuchElementException ks_Le_239 kT_Le_154 (by decide) (by decide +kernel) (by decide +kernel) (by decide +kernel) (by decide +kernel) d_Le_value_66 d_Le_value_69 d_Le_value_70 d_Le_value_72 d_Le_value_75 (Nat.le_of_ble_eq_true rfl) (Nat.le_of_ble_eq_true rfl) (Nat.le_of_ble_eq_true rfl) (Nat.le_of_ble_eq_true rfl) (Nat.le_of_ble_eq_true rfl) (Nat.le_of_ble_eq_true rfl)
  · replace hf := gp_f c22_17 hf
    refine lv_aload_n hx hb d_Le_value_25 rfl (lv_at hl 3 rfl) ?_
    refine gy_get (ci := 4) (v := Value.ref (b (n13 + 4))) (C := "CommitLedger$View") (T := F_Vi) (N := 6) hx hb hts i_Vi hown hK Y (gF_Vi (gVie_re hv14)) rfl 2 (by decide) kf_Le_134 rfl d_Le_value_26 ?_
    refine lv_iload hx hb d_Le_value_29 (lv_at hl 0 rfl) ?_
    refine gy_zald hf hx hb hK Y 1 (fun _ => (gF_Vi3 (gVie_re hv14))) ht1 d_Le_value_31 (fun _ hf => ?_)
    refine lv_if_eq (tgt := 60) hx hb d_Le_value_32 (by decide) (fun c32_18 => ?_) (fun c32_18 => ?_)
    · replace hf := gp_t c32_18 hf
      exact J60 i4_15 _ _ _ hf (lv_sub hl [0, 1, 2, 3] rfl) Y
    · replace hf := gp_f c32_18 hf
      refine lv_aload_n hx hb d_Le_value_35 rfl (lv_at hl 1 rfl) ?_
      refine gy_get (ci := 0) (v := Value.ref (b 1)) (C := "CommitLedger") (T := F_Le) (N := 18) hx hb hts i_Le hown hK Y gF_0 rfl 0 (by decide) kf_Le_10 rfl d_Le_value_36 ?_
      refine gy_get (ci := 1) (v := Value.ref (b 2)) (C := "CommitLedger$Entries") (T := F_En) (N := 4) hx hb hts i_En hown hK Y gF_1 rfl 0 (by decide) kf_Le_138 rfl d_Le_value_39 ?_
      refine lv_iload hx hb d_Le_value_42 (lv_at hl 0 rfl) ?_
      refine gy_iald hf hx hb hK Y 0 (fun _ => gF_2) ht0 d_Le_value_44 (fun _ hf => ?_)
      refine lv_iload_n hx hb d_Le_value_45 rfl (lv_at hl 2 rfl) ?_
      refine lv_icmp_ne (tgt := 60) hx hb d_Le_value_46 (by decide) (fun c46_19 => ?_) (fun c46_19 => ?_)
      · replace hf := gp_f c46_19 hf
        exact J60 i4_15 _ _ _ hf (lv_sub hl [0, 1, 2, 3] rfl) Y
      · replace hf := gp_t c46_19 hf
        refine lv_aload_n hx hb d_Le_value_49 rfl (lv_at hl 1 rfl) ?_
        refine gy_get (ci := 0) (v := Value.ref (b 1)) (C := "CommitLedger") (T := F_Le) (N := 18) hx hb hts i_Le hown hK Y gF_0 rfl 0 (by decide) kf_Le_10 rfl d_Le_value_50 ?_
        refine gy_get (ci := 1) (v := Value.ref (b 3)) (C := "CommitLedger$Entries") (T := F_En) (N := 4) hx hb hts i_En hown hK Y gF_1 rfl 1 (by decide) kf_Le_236 rfl d_Le_value_53 ?_
        refine lv_iload hx hb d_Le_value_56 (lv_at hl 0 rfl) ?_
        refine gy_iald hf hx hb hK Y 0 (fun _ => gF_3) ht0 d_Le_value_58 (fun _ hf => ?_)
        replace hf := gU hf ho15
        exact gy_iret hf hx hb hr hlocks hK Y (Nat.zero_le _) (Nat.zero_le _) d_Le_value_59

def f_Le_many_54 (X : gX) (i2 : Int32) (n3 : Nat) (i4 : Int32) (i5 : Int32) : Option ((Int32 × Int32) ⊕ (gR × gX)) := some (Sum.inl (i4, i5 + 1))
def f_Le_many_15 (X : gX) (i2 : Int32) (n3 : Nat) (i4 : Int32) (i5 : Int32) : Option ((Int32 × Int32) ⊕ (gR × gX)) := (if (X.I 1 3) ≤ i5 then gLf (some (gR.i i4, X)) else (if gIn i5 4096 then (if (X.I (n3 + 3) (gn i5)) = (0 : Int32) then f_Le_many_54 X i2 n3 i4 i5 else (if gIn i5 4096 then (if (X.I 2 (gn i5)) = i2 then f_Le_many_54 X i2 n3 (i4 + 1) i5 else f_Le_many_54 X i2 n3 i4 i5) else none)) else none))
def f_Le_many (X0 : gX) (a1 : Int32) (a2 : Int32) : Option (gR × gX) := gCat (f_Le_requireReader X0 a1) (fun E X => some (gR.t E, X)) (fun x1 X1 => gM x1 (fun n2 => (if gRea n2 then gI (fun s : Int32 × Int32 => f_Le_many_15 X1 a2 (n2 + 1) s.1 s.2) gK (0, 0) else none)))
set_option maxHeartbeats 4000000 in
set_option maxRecDepth 100000 in
theorem K_Le_many (l : Launch) (htr : l.stackTraces = false) (D : va_G) (tys : List (ClassId × FieldType)) (z sz : Nat) (ws : va_W) (h : gm_M) (hM : gm_S h ws) (t : Nat → ClassId) (ht : gTy t tys) (b : Nat → Nat) (X0 : gX) (hw : gw D t b X0 h) (a1 : Int32) (a2 : Int32) (o : gR × gX) (hf : f_Le_many X0 a1 a2 = some o) : gx_Met l y_Le_many [Cond.code y_Le_many b_Le_many 6 (some .int)] { frames := 7, cells := gT o.1, slots := 6 * gT o.1, locals := 104 } (gx_P z sz D classes tys ws [Value.ref (b 0), Value.int a1, Value.int a2]) (gx_Q D classes tys (va_A ws sz) (gPo D t b X0 o)) (gT o.1) (6 * gT o.1) (va_A ws sz) := by
  refine gx_ofW (cc := b_Le_many) (maxL := 6) (ret := (some .int)) (by decide) rfl ?_
  intro p e s m args below meth c s₁ B hml hv
  obtain ⟨rfl, hsz, hz, hP, hK, hD0, hY⟩ := hv
  have hx := B.exec
  have hb := B.bytes
  have hr := B.returns
  have hts := hY.hts (#[Value.ref (b 0), Value.int a1, Value.int a2] : Array Value)
  have hown : s.vm.findClass "CommitLedger" = some m.cls := findClass_of_methodNamed B.named
  have hlocks := B.notSynchronized
  have hne : c.exceptionTable.isEmpty = true := B.noHandlers (atoms_spec (ws := [Cond.code y_Le_many b_Le_many 6 (some .int)]) B.pre _ List.mem_cons_self)
  have hN := gx_ns hP
  subst hsz
  have hAz := gx_az hD0 hz
  have hD := hD0.self (sz := s.heap.size)
  have hA : ∀ q : Nat, s.heap.size ≤ q → va_A ws s.heap.size q := fun q h => Or.inr h
  generalize va_A ws s.heap.size = A at hD hA hAz hN ⊢
  have Y : gy D t b A s.heap X0 X0 s.heap [] := ⟨h, ⟨ws, hM, hP, hD, va_S.rf⟩, hw, gEq.rf⟩
  clear hP hD hM hD0 hw
  obtain ⟨ht0, ht1, ht2, ht3, ht4, ht5, ht6, ht7, ht8⟩ := id ht
  have hl := lv_entry ([Value.ref (b 0), Value.int a1, Value.int a2]) (n := 6) (Nat.le_of_ble_eq_true rfl)
  rw [lg_entry_eq]
  generalize (lg_sl ([Value.ref (b 0), Value.int a1, Value.int a2]) ++ List.replicate (6 - (lg_sl ([Value.ref (b 0), Value.int a1, Value.int a2])).length) Slot.unset).toArray = ls at hl ⊢
  have hl : lv_has ls 6 [(0, Value.ref (b 0)), (1, Value.int a1), (2, Value.int a2)] := hl
  unfold f_Le_many at hf
  refine lv_aload_n hx hb d_Le_many_0 rfl (lv_at hl 0 rfl) ?_
  refine lv_iload_n hx hb d_Le_many_1 rfl (lv_at hl 1 rfl) ?_
  rcases gCat_el hf with ⟨x12, X12, hF12, hf⟩ | ⟨E12, X12, hF12, hf⟩
  rotate_left
  · cases hf
    refine gy_callT (rm := { frames := 6, cells := 1, slots := 6, locals := 82 }) (ig := .invokevirtual 226) (av := [Value.ref (b 0), Value.int a1]) Y (fun ws h hS hw => K_Le_requireReader l htr D tys z _ ws h hS t ht b X0 hw a1 (gR.t E12, X12) hF12) (gx_invV (As := [Value.int a1]) (rest := []) hx hb hown hts km_Le_226 kI_Le_requireReader kV_Le_requireReader kc_Le_requireReader (by decide) (show (parseMethodDescriptor y_Le_requireReader.desc).map (fun d => d.parameters.length) = some 1 by decide +kernel) (gy_recv (ci := 0) hK Y rfl gF_0) rfl rfl d_Le_many_2) (gx_cw (z := 0) hts kc_Le_requireReader kN_Le rfl rfl ⟨Nat.le_of_ble_eq_true rfl, Nat.le_of_ble_eq_true rfl⟩) hb hml hz hK hY hAz hA hl.1 (lv_room (Nat.le_of_ble_eq_true rfl)) d_Le_many_2 ⟨Nat.le_of_ble_eq_true rfl, Nat.le_of_ble_eq_true rfl⟩ (fun x9 ce H1 L9 hce Y => gy_pass hne hlocks hce hK Y (Nat.le_of_ble_eq_true rfl) (Nat.le_of_ble_eq_true rfl))
  refine gy_callA (rm := { frames := 6, cells := 0, slots := 0, locals := 82 }) (ig := .invokevirtual 226) (av := [Value.ref (b 0), Value.int a1]) Y (fun ws h hS hw => K_Le_requireReader l htr D tys z _ ws h hS t ht b X0 hw a1 (gR.a x12, X12) hF12) (gx_invV (As := [Value.int a1]) (rest := []) hx hb hown hts km_Le_226 kI_Le_requireReader kV_Le_requireReader kc_Le_requireReader (by decide) (show (parseMethodDescriptor y_Le_requireReader.desc).map (fun d => d.parameters.length) = some 1 by decide +kernel) (gy_recv (ci := 0) hK Y rfl gF_0) rfl rfl d_Le_many_2) (gx_cw (z := 0) hts kc_Le_requireReader kN_Le rfl rfl ⟨Nat.le_of_ble_eq_true rfl, Nat.le_of_ble_eq_true rfl⟩) hb hml hz hK hY hAz hA hl.1 (lv_room (Nat.le_of_ble_eq_true rfl)) d_Le_many_2 ⟨Nat.zero_le _, Nat.zero_le _⟩ (fun H locs Y => ?_)
  obtain ⟨n13, e13, hf⟩ := gM_el hf
  refine W.eq (g2 := F0 m 5 ls [Value.ref (b n13)]) (by rw [e13] <;> rfl) ?_
  obtain ⟨hv14, hf⟩ := gp_g hf
  refine gy_get (ci := 6) (v := Value.ref (b (n13 + 1))) (C := "CommitLedger$Reader") (T := F_Re) (N := 3) hx hb hts i_Re hown hK Y (gF_Re hv14) rfl 0 (by decide) kf_Le_233 rfl d_Le_many_5 ?_
  refine lv_astore_n (lv' := [(3, Value.ref (b (n13 + 1))), (0, Value.ref (b 0)), (1, Value.int a1), (2, Value.int a2)]) hx hb d_Le_many_8 rfl hl (by decide) rfl (fun ls hl => ?_)
  refine lv_iconst (v := 0) hx hb d_Le_many_9 (by decide) ?_
  refine lv_istore (lv' := [(4, Value.int 0), (3, Value.ref (b (n13 + 1))), (0, Value.ref (b 0)), (1, Value.int a1), (2, Value.int a2)]) hx hb d_Le_many_10 hl (by decide) rfl (fun ls hl => ?_)
  refine lv_iconst (v := 0) hx hb d_Le_many_12 (by decide) ?_
  refine lv_istore (lv' := [(5, Value.int 0), (4, Value.int 0), (3, Value.ref (b (n13 + 1))), (0, Value.ref (b 0)), (1, Value.int a1), (2, Value.int a2)]) hx hb d_Le_many_13 hl (by decide) rfl (fun ls hl => ?_)
  refine gy_iter (fun s : Int32 × Int32 => X12) (fun (s : Int32 × Int32) ls => lv_has ls 6 [(4, Value.int s.1), (5, Value.int s.2), (0, Value.ref (b 0)), (2, Value.int a2), (3, Value.ref (b (n13 + 1)))]) ?_ gK (0, 0) _ _ _ hf (lv_sub hl [1, 0, 3, 5, 2] rfl) Y
  rintro ⟨i4_15, i5_15⟩ u15 H locs ls hf hl Y hk15 ho15
  have hl : lv_has ls 6 [(4, Value.int i4_15), (5, Value.int i5_15), (0, Value.ref (b 0)), (2, Value.int a2), (3, Value.ref (b (n13 + 1)))] := hl
  have Y : gy D t b A s.heap X0 X12 H locs := Y
  have hf : f_Le_many_15 X12 a2 (n13 + 1) i4_15 i5_15 = some u15 := hf
  refine gy_cut (pcJ := 54) Y (fun s : Int32 × Int32 => f_Le_many_54 X12 a2 (n13 + 1) s.1 s.2) u15 (fun s => X12) (fun s ls => lv_has ls 6 [(4, Value.int s.1), (5, Value.int s.2), (0, Value.ref (b 0)), (2, Value.int a2), (3, Value.ref (b (n13 + 1)))]) (fun s => []) ?_ (fun J54 => ?_)
  · rintro ⟨i4_16, i5_16⟩ H locs ls hf hl Y
    have hl : lv_has ls 6 [(4, Value.int i4_16), (5, Value.int i5_16), (0, Value.ref (b 0)), (2, Value.int a2), (3, Value.ref (b (n13 + 1)))] := hl
    have Y : gy D t b A s.heap X0 X12 H locs := Y
    have hf : f_Le_many_54 X12 a2 (n13 + 1) i4_16 i5_16 = some u15 := hf
    unfold f_Le_many_54 at hf
    refine lv_iinc (v := i5_16 + 1) (lv' := [(5, Value.int (i5_16 + 1)), (4, Value.int i4_16), (0, Value.ref (b 0)), (2, Value.int a2), (3, Value.ref (b (n13 + 1)))]) hx hb d_Le_many_54 hl (k := 1) rfl (rfl) (by decide) rfl (fun ls hl => ?_)
    refine lv_goto (tgt := 15) hx hb d_Le_many_57 (by decide) ?_
    exact hk15 _ _ _ _ hf (lv_sub hl [1, 0, 2, 3, 4] rfl) Y
  unfold f_Le_many_15 at hf
  refine lv_iload hx hb d_Le_many_15 (lv_at hl 1 rfl) ?_
  refine lv_aload_n hx hb d_Le_many_17 rfl (lv_at hl 2 rfl) ?_
  refine gy_get (ci := 0) (v := Value.ref (b 1)) (C := "CommitLedger") (T := F_Le) (N := 18) hx hb hts i_Le hown hK Y gF_0 rfl 0 (by decide) kf_Le_10 rfl d_Le_many_18 ?_
  refine gy_get (ci := 1) (v := Value.int (X12.I 1 3)) (C := "CommitLedger$Entries") (T := F_En) (N := 4) hx hb hts i_En hown hK Y gF_1 rfl 3 (by decide) kf_Le_94 rfl d_Le_many_21 ?_
  refine lv_icmp_ge (tgt := 60) hx hb d_Le_many_24 (by decide) (fun c24_17 => ?_) (fun c24_17 => ?_)
  · replace hf := gp_t c24_17 hf
    refine lv_iload hx hb d_Le_many_60 (lv_at hl 0 rfl) ?_
    replace hf := gU hf ho15
    exact gy_iret hf hx hb hr hlocks hK Y (Nat.zero_le _) (Nat.zero_le _) d_Le_many_62
  · replace hf := gp_f c24_17 hf
    refine lv_aload_n hx hb d_Le_many_27 rfl (lv_at hl 4 rfl) ?_
    refine gy_get (ci := 4) (v := Value.ref (b (n13 + 4))) (C := "CommitLedger$View") (T := F_Vi) (N := 6) hx hb hts i_Vi hown hK Y (gF_Vi (gVie_re hv14)) rfl 2 (by decide) kf_Le_134 rfl d_Le_many_28 ?_
    refine lv_iload hx hb d_Le_many_31 (lv_at hl 1 rfl) ?_
    refine gy_zald hf hx hb hK Y 1 (fun _ => (gF_Vi3 (gVie_re hv14))) ht1 d_Le_many_33 (fun _ hf => ?_)
    refine lv_if_eq (tgt := 54) hx hb d_Le_many_34 (by decide) (fun c34_18 => ?_) (fun c34_18 => ?_)
    · replace hf := gp_t c34_18 hf
      exact J54 (i4_15, i5_15) _ _ _ hf (lv_sub hl [0, 1, 2, 3, 4] rfl) Y
    · replace hf := gp_f c34_18 hf
      refine lv_aload_n hx hb d_Le_many_37 rfl (lv_at hl 2 rfl) ?_
      refine gy_get (ci := 0) (v := Value.ref (b 1)) (C := "CommitLedger") (T := F_Le) (N := 18) hx hb hts i_Le hown hK Y gF_0 rfl 0 (by decide) kf_Le_10 rfl d_Le_many_38 ?_
      refine gy_get (ci := 1) (v := Value.ref (b 2)) (C := "CommitLedger$Entries") (T := F_En) (N := 4) hx hb hts i_En hown hK Y gF_1 rfl 0 (by decide) kf_Le_138 rfl d_Le_many_41 ?_
      refine lv_iload hx hb d_Le_many_44 (lv_at hl 1 rfl) ?_
      refine gy_iald hf hx hb hK Y 0 (fun _ => gF_2) ht0 d_Le_many_46 (fun _ hf => ?_)
      refine lv_iload_n hx hb d_Le_many_47 rfl (lv_at hl 3 rfl) ?_
      refine lv_icmp_ne (tgt := 54) hx hb d_Le_many_48 (by decide) (fun c48_19 => ?_) (fun c48_19 => ?_)
      · replace hf := gp_f c48_19 hf
        exact J54 (i4_15, i5_15) _ _ _ hf (lv_sub hl [0, 1, 2, 3, 4] rfl) Y
      · replace hf := gp_t c48_19 hf
        refine lv_iinc (v := i4_15 + 1) (lv' := [(4, Value.int (i4_15 + 1)), (5, Value.int i5_15), (0, Value.ref (b 0)), (2, Value.int a2), (3, Value.ref (b (n13 + 1)))]) hx hb d_Le_many_51 hl (k := 0) rfl (rfl) (by decide) rfl (fun ls hl => ?_)
        exact J54 (i4_15 + 1, i5_15) _ _ _ hf (lv_sub hl [0, 1, 2, 3, 4] rfl) Y

def f_Le_serial_57 (X : gX) (i2 : Int32) (n3 : Nat) (i4 : Int32) (i5 : Int32) : Option ((Int32 × Int32) ⊕ (gR × gX)) := some (Sum.inl (i4, i5 + 1))
def f_Le_serial_15 (X : gX) (i2 : Int32) (n3 : Nat) (i4 : Int32) (i5 : Int32) : Option ((Int32 × Int32) ⊕ (gR × gX)) := (if (X.I 1 3) ≤ i5 then gLf (some (gR.t "java/util/NoSuchElementException", X)) else (if gIn i5 4096 then (if (X.I (n3 + 3) (gn i5)) = (0 : Int32) then f_Le_serial_57 X i2 n3 i4 i5 else (if i4 = i2 then (if gIn i5 4096 then gLf (some (gR.i (X.I 4 (gn i5)), X)) else none) else f_Le_serial_57 X i2 n3 (i4 + 1) i5)) else none))
def f_Le_serial (X0 : gX) (a1 : Int32) (a2 : Int32) : Option (gR × gX) := gCat (f_Le_requireReader X0 a1) (fun E X => some (gR.t E, X)) (fun x1 X1 => gM x1 (fun n2 => (if gRea n2 then gI (fun s : Int32 × Int32 => f_Le_serial_15 X1 a2 (n2 + 1) s.1 s.2) gK (0, 0) else none)))
set_option maxHeartbeats 4000000 in
set_option maxRecDepth 100000 in
theorem K_Le_serial (l : Launch) (htr : l.stackTraces = false) (D : va_G) (tys : List (ClassId × FieldType)) (z sz : Nat) (ws : va_W) (h : gm_M) (hM : gm_S h ws) (t : Nat → ClassId) (ht : gTy t tys) (b : Nat → Nat) (X0 : gX) (hw : gw D t b X0 h) (a1 : Int32) (a2 : Int32) (o : gR × gX) (hf : f_Le_serial X0 a1 a2 = some o) : gx_Met l y_Le_serial [Cond.code y_Le_serial b_Le_serial 6 (some .int)] { frames := 7, cells := gT o.1, slots := 6 * gT o.1, locals := 104 } (gx_P z sz D classes tys ws [Value.ref (b 0), Value.int a1, Value.int a2]) (gx_Q D classes tys (va_A ws sz) (gPo D t b X0 o)) (gT o.1) (6 * gT o.1) (va_A ws sz) := by
  refine gx_ofW (cc := b_Le_serial) (maxL := 6) (ret := (some .int)) (by decide) rfl ?_
  intro p e s m args below meth c s₁ B hml hv
  obtain ⟨rfl, hsz, hz, hP, hK, hD0, hY⟩ := hv
  have hx := B.exec
  have hb := B.bytes
  have hr := B.returns
  have hts := hY.hts (#[Value.ref (b 0), Value.int a1, Value.int a2] : Array Value)
  have hown : s.vm.findClass "CommitLedger" = some m.cls := findClass_of_methodNamed B.named
  have hlocks := B.notSynchronized
  have hne : c.exceptionTable.isEmpty = true := B.noHandlers (atoms_spec (ws := [Cond.code y_Le_serial b_Le_serial 6 (some .int)]) B.pre _ List.mem_cons_self)
  have hN := gx_ns hP
  subst hsz
  have hAz := gx_az hD0 hz
  have hD := hD0.self (sz := s.heap.size)
  have hA : ∀ q : Nat, s.heap.size ≤ q → va_A ws s.heap.size q := fun q h => Or.inr h
  generalize va_A ws s.heap.size = A at hD hA hAz hN ⊢
  have Y : gy D t b A s.heap X0 X0 s.heap [] := ⟨h, ⟨ws, hM, hP, hD, va_S.rf⟩, hw, gEq.rf⟩
  clear hP hD hM hD0 hw
  obtain ⟨ht0, ht1, ht2, ht3, ht4, ht5, ht6, ht7, ht8⟩ := id ht
  have hl := lv_entry ([Value.ref (b 0), Value.int a1, Value.int a2]) (n := 6) (Nat.le_of_ble_eq_true rfl)
  rw [lg_entry_eq]
  generalize (lg_sl ([Value.ref (b 0), Value.int a1, Value.int a2]) ++ List.replicate (6 - (lg_sl ([Value.ref (b 0), Value.int a1, Value.int a2])).length) Slot.unset).toArray = ls at hl ⊢
  have hl : lv_has ls 6 [(0, Value.ref (b 0)), (1, Value.int a1), (2, Value.int a2)] := hl
  unfold f_Le_serial at hf
  refine lv_aload_n hx hb d_Le_serial_0 rfl (lv_at hl 0 rfl) ?_
  refine lv_iload_n hx hb d_Le_serial_1 rfl (lv_at hl 1 rfl) ?_
  rcases gCat_el hf with ⟨x12, X12, hF12, hf⟩ | ⟨E12, X12, hF12, hf⟩
  rotate_left
  · cases hf
    refine gy_callT (rm := { frames := 6, cells := 1, slots := 6, locals := 82 }) (ig := .invokevirtual 226) (av := [Value.ref (b 0), Value.int a1]) Y (fun ws h hS hw => K_Le_requireReader l htr D tys z _ ws h hS t ht b X0 hw a1 (gR.t E12, X12) hF12) (gx_invV (As := [Value.int a1]) (rest := []) hx hb hown hts km_Le_226 kI_Le_requireReader kV_Le_requireReader kc_Le_requireReader (by decide) (show (parseMethodDescriptor y_Le_requireReader.desc).map (fun d => d.parameters.length) = some 1 by decide +kernel) (gy_recv (ci := 0) hK Y rfl gF_0) rfl rfl d_Le_serial_2) (gx_cw (z := 0) hts kc_Le_requireReader kN_Le rfl rfl ⟨Nat.le_of_ble_eq_true rfl, Nat.le_of_ble_eq_true rfl⟩) hb hml hz hK hY hAz hA hl.1 (lv_room (Nat.le_of_ble_eq_true rfl)) d_Le_serial_2 ⟨Nat.le_of_ble_eq_true rfl, Nat.le_of_ble_eq_true rfl⟩ (fun x9 ce H1 L9 hce Y => gy_pass hne hlocks hce hK Y (Nat.le_of_ble_eq_true rfl) (Nat.le_of_ble_eq_true rfl))
  refine gy_callA (rm := { frames := 6, cells := 0, slots := 0, locals := 82 }) (ig := .invokevirtual 226) (av := [Value.ref (b 0), Value.int a1]) Y (fun ws h hS hw => K_Le_requireReader l htr D tys z _ ws h hS t ht b X0 hw a1 (gR.a x12, X12) hF12) (gx_invV (As := [Value.int a1]) (rest := []) hx hb hown hts km_Le_226 kI_Le_requireReader kV_Le_requireReader kc_Le_requireReader (by decide) (show (parseMethodDescriptor y_Le_requireReader.desc).map (fun d => d.parameters.length) = some 1 by decide +kernel) (gy_recv (ci := 0) hK Y rfl gF_0) rfl rfl d_Le_serial_2) (gx_cw (z := 0) hts kc_Le_requireReader kN_Le rfl rfl ⟨Nat.le_of_ble_eq_true rfl, Nat.le_of_ble_eq_true rfl⟩) hb hml hz hK hY hAz hA hl.1 (lv_room (Nat.le_of_ble_eq_true rfl)) d_Le_serial_2 ⟨Nat.zero_le _, Nat.zero_le _⟩ (fun H locs Y => ?_)
  obtain ⟨n13, e13, hf⟩ := gM_el hf
  refine W.eq (g2 := F0 m 5 ls [Value.ref (b n13)]) (by rw [e13] <;> rfl) ?_
  obtain ⟨hv14, hf⟩ := gp_g hf
  refine gy_get (ci := 6) (v := Value.ref (b (n13 + 1))) (C := "CommitLedger$Reader") (T := F_Re) (N := 3) hx hb hts i_Re hown hK Y (gF_Re hv14) rfl 0 (by decide) kf_Le_233 rfl d_Le_serial_5 ?_
  refine lv_astore_n (lv' := [(3, Value.ref (b (n13 + 1))), (0, Value.ref (b 0)), (1, Value.int a1), (2, Value.int a2)]) hx hb d_Le_serial_8 rfl hl (by decide) rfl (fun ls hl => ?_)
  refine lv_iconst (v := 0) hx hb d_Le_serial_9 (by decide) ?_
  refine lv_istore (lv' := [(4, Value.int 0), (3, Value.ref (b (n13 + 1))), (0, Value.ref (b 0)), (1, Value.int a1), (2, Value.int a2)]) hx hb d_Le_serial_10 hl (by decide) rfl (fun ls hl => ?_)
  refine lv_iconst (v := 0) hx hb d_Le_serial_12 (by decide) ?_
  refine lv_istore (lv' := [(5, Value.int 0), (4, Value.int 0), (3, Value.ref (b (n13 + 1))), (0, Value.ref (b 0)), (1, Value.int a1), (2, Value.int a2)]) hx hb d_Le_serial_13 hl (by decide) rfl (fun ls hl => ?_)
  refine gy_iter (fun s : Int32 × Int32 => X12) (fun (s : Int32 × Int32) ls => lv_has ls 6 [(4, Value.int s.1), (5, Value.int s.2), (0, Value.ref (b 0)), (2, Value.int a2), (3, Value.ref (b (n13 + 1)))]) ?_ gK (0, 0) _ _ _ hf (lv_sub hl [1, 0, 3, 5, 2] rfl) Y
  rintro ⟨i4_15, i5_15⟩ u15 H locs ls hf hl Y hk15 ho15
  have hl : lv_has ls 6 [(4, Value.int i4_15), (5, Value.int i5_15), (0, Value.ref (b 0)), (2, Value.int a2), (3, Value.ref (b (n13 + 1)))] := hl
  have Y : gy D t b A s.heap X0 X12 H locs := Y
  have hf : f_Le_serial_15 X12 a2 (n13 + 1) i4_15 i5_15 = some u15 := hf
  refine gy_cut (pcJ := 57) Y (fun s : Int32 × Int32 => f_Le_serial_57 X12 a2 (n13 + 1) s.1 s.2) u15 (fun s => X12) (fun s ls => lv_has ls 6 [(4, Value.int s.1), (5, Value.int s.2), (0, Value.ref (b 0)), (2, Value.int a2), (3, Value.ref (b (n13 + 1)))]) (fun s => []) ?_ (fun J57 => ?_)
  · rintro ⟨i4_16, i5_16⟩ H locs ls hf hl Y
    have hl : lv_has ls 6 [(4, Value.int i4_16), (5, Value.int i5_16), (0, Value.ref (b 0)), (2, Value.int a2), (3, Value.ref (b (n13 + 1)))] := hl
    have Y : gy D t b A s.heap X0 X12 H locs := Y
    have hf : f_Le_serial_57 X12 a2 (n13 + 1) i4_16 i5_16 = some u15 := hf
    unfold f_Le_serial_57 at hf
    refine lv_iinc (v := i5_16 + 1) (lv' := [(5, Value.int (i5_16 + 1)), (4, Value.int i4_16), (0, Value.ref (b 0)), (2, Value.int a2), (3, Value.ref (b (n13 + 1)))]) hx hb d_Le_serial_57 hl (k := 1) rfl (rfl) (by decide) rfl (fun ls hl => ?_)
    refine lv_goto (tgt := 15) hx hb d_Le_serial_60 (by decide) ?_
    exact hk15 _ _ _ _ hf (lv_sub hl [1, 0, 2, 3, 4] rfl) Y
  unfold f_Le_serial_15 at hf
  refine lv_iload hx hb d_Le_serial_15 (lv_at hl 1 rfl) ?_
  refine lv_aload_n hx hb d_Le_serial_17 rfl (lv_at hl 2 rfl) ?_
  refine gy_get (ci := 0) (v := Value.ref (b 1)) (C := "CommitLedger") (T := F_Le) (N := 18) hx hb hts i_Le hown hK Y gF_0 rfl 0 (by decide) kf_Le_10 rfl d_Le_serial_18 ?_
  refine gy_get (ci := 1) (v := Value.int (X12.I 1 3)) (C := "CommitLedger$Entries") (T := F_En) (N := 4) hx hb hts i_En hown hK Y gF_1 rfl 3 (by decide) kf_Le_94 rfl d_Le_serial_21 ?_
  refine lv_icmp_ge (tgt := 63) hx hb d_Le_serial_24 (by decide) (fun c24_17 => ?_) (fun c24_17 => ?_)
  · replace hf := gp_t c24_17 hf
    replace hf := gU hf ho15
    cases hf
    exact gy_thr (i1 := 13) (b1 := prog_31_method_4_code) hx hb htr (hml.trans hl.1.symm) hown hts hne hlocks hK Y hA hN kk_Le_150 kX_NoSuchElementException kN_NoSuchElementException ks_Le_244 kT_Le_154 (by decide) (by decide +kernel) (by decide +kernel) (by decide +kernel) (by decide +kernel) d_Le_serial_63 d_Le_serial_66 d_Le_serial_67 d_Le_serial_69 d_Le_serial_72 (Nat.le_of_ble_eq_true rfl) (Nat.le_of_ble_eq_true rfl) (Nat.le_of_ble_eq_true rfl) (Nat.le_of_ble_eq_true rfl) (Nat.le_of_ble_eq_true rfl) (Nat.le_of_ble_eq_true rfl)
  · replace hf := gp_f c24_17 hf
    refine lv_aload_n hx hb d_Le_serial_27 rfl (lv_at hl 4 rfl) ?_
    refine gy_get (ci := 4) (v := Value.ref (b (n13 + 4))) (C := "CommitLedger$View") (T := F_Vi) (N := 6) hx hb hts i_Vi hown hK Y (gF_Vi (gVie_re hv14)) rfl 2 (by decide) kf_Le_134 rfl d_Le_serial_28 ?_
    refine lv_iload hx hb d_Le_serial_31 (lv_at hl 1 rfl) ?_
    refine gy_zald hf hx hb hK Y 1 (fun _ => (gF_Vi3 (gVie_re hv14))) ht1 d_Le_serial_33 (fun _ hf => ?_)
    refine lv_if_eq (tgt := 57) hx hb d_Le_serial_34 (by decide) (fun c34_18 => ?_) (fun c34_18 => ?_)
    · replace hf := gp_t c34_18 hf
      exact J57 (i4_15, i5_15) _ _ _ hf (lv_sub hl [0, 1, 2, 3, 4] rfl) Y
    · replace hf := gp_f c34_18 hf
      refine lv_iload hx hb d_Le_serial_37 (lv_at hl 0 rfl) ?_
      refine lv_iload_n hx hb d_Le_serial_39 rfl (lv_at hl 3 rfl) ?_
      refine lv_icmp_ne (tgt := 54) hx hb d_Le_serial_40 (by decide) (fun c40_19 => ?_) (fun c40_19 => ?_)
      · replace hf := gp_f c40_19 hf
        refine lv_iinc (v := i4_15 + 1) (lv' := [(4, Value.int (i4_15 + 1)), (5, Value.int i5_15), (0, Value.ref (b 0)), (2, Value.int a2), (3, Value.ref (b (n13 + 1)))]) hx hb d_Le_serial_54 hl (k := 0) rfl (rfl) (by decide) rfl (fun ls hl => ?_)
        exact J57 (i4_15 + 1, i5_15) _ _ _ hf (lv_sub hl [0, 1, 2, 3, 4] rfl) Y
      · replace hf := gp_t c40_19 hf
        refine lv_aload_n hx hb d_Le_serial_43 rfl (lv_at hl 2 rfl) ?_
        refine gy_get (ci := 0) (v := Value.ref (b 1)) (C := "CommitLedger") (T := F_Le) (N := 18) hx hb hts i_Le hown hK Y gF_0 rfl 0 (by decide) kf_Le_10 rfl d_Le_serial_44 ?_
        refine gy_get (ci := 1) (v := Value.ref (b 4)) (C := "CommitLedger$Entries") (T := F_En) (N := 4) hx hb hts i_En hown hK Y gF_1 rfl 2 (by decide) kf_Le_241 rfl d_Le_serial_47 ?_
        refine lv_iload hx hb d_Le_serial_50 (lv_at hl 1 rfl) ?_
        refine gy_iald hf hx hb hK Y 0 (fun _ => gF_4) ht0 d_Le_serial_52 (fun _ hf => ?_)
        replace hf := gU hf ho15
        exact gy_iret hf hx hb hr hlocks hK Y (Nat.zero_le _) (Nat.zero_le _) d_Le_serial_53

def f_Le_seen (X0 : gX) (a1 : Int32) (a2 : Int32) : Option (gR × gX) := gCvt (f_Le_requireRange X0 a2 0 2) (fun E X => some (gR.t E, X)) (fun X1 => gCat (f_Le_requireReader X1 a1) (fun E X => some (gR.t E, X)) (fun x2 X2 => gM x2 (fun n3 => (if gRea n3 then (if a2 = (0 : Int32) then gCi (f_Vi_liveBetween X2 (n3 + 1) 0 (X2.I 1 3)) (fun x6 X6 => some (gR.i x6, X6)) else (if a2 = (1 : Int32) then gCi (f_Vi_entriesInSegments X2 (n3 + 1)) (fun x7 X7 => some (gR.i x7, X7)) else some (gR.i (X2.I (n3 + 1) 4), X2))) else none))))
set_option maxHeartbeats 4000000 in
set_option maxRecDepth 100000 in
theorem K_Le_seen (l : Launch) (htr : l.stackTraces = false) (D : va_G) (tys : List (ClassId × FieldType)) (z sz : Nat) (ws : va_W) (h : gm_M) (hM : gm_S h ws) (t : Nat → ClassId) (ht : gTy t tys) (b : Nat → Nat) (X0 : gX) (hw : gw D t b X0 h) (a1 : Int32) (a2 : Int32) (o : gR × gX) (hf : f_Le_seen X0 a1 a2 = some o) : gx_Met l y_Le_seen [Cond.code y_Le_seen b_Le_seen 4 (some .int)] { frames := 7, cells := gT o.1, slots := 6 * gT o.1, locals := 104 } (gx_P z sz D classes tys ws [Value.ref (b 0), Value.int a1, Value.int a2]) (gx_Q D classes tys (va_A ws sz) (gPo D t b X0 o)) (gT o.1) (6 * gT o.1) (va_A ws sz) := by
  refine gx_ofW (cc := b_Le_seen) (maxL := 4) (ret := (some .int)) (by decide) rfl ?_
  intro p e s m args below meth c s₁ B hml hv
  obtain ⟨rfl, hsz, hz, hP, hK, hD0, hY⟩ := hv
  have hx := B.exec
  have hb := B.bytes
  have hr := B.returns
  have hts := hY.hts (#[Value.ref (b 0), Value.int a1, Value.int a2] : Array Value)
  have hown : s.vm.findClass "CommitLedger" = some m.cls := findClass_of_methodNamed B.named
  have hlocks := B.notSynchronized
  have hne : c.exceptionTable.isEmpty = true := B.noHandlers (atoms_spec (ws := [Cond.code y_Le_seen b_Le_seen 4 (some .int)]) B.pre _ List.mem_cons_self)
  have hN := gx_ns hP
  subst hsz
  have hAz := gx_az hD0 hz
  have hD := hD0.self (sz := s.heap.size)
  have hA : ∀ q : Nat, s.heap.size ≤ q → va_A ws s.heap.size q := fun q h => Or.inr h
  generalize va_A ws s.heap.size = A at hD hA hAz hN ⊢
  have Y : gy D t b A s.heap X0 X0 s.heap [] := ⟨h, ⟨ws, hM, hP, hD, va_S.rf⟩, hw, gEq.rf⟩
  clear hP hD hM hD0 hw
  obtain ⟨ht0, ht1, ht2, ht3, ht4, ht5, ht6, ht7, ht8⟩ := id ht
  have hl := lv_entry ([Value.ref (b 0), Value.int a1, Value.int a2]) (n := 4) (Nat.le_of_ble_eq_true rfl)
  rw [lg_entry_eq]
  generalize (lg_sl ([Value.ref (b 0), Value.int a1, Value.int a2]) ++ List.replicate (4 - (lg_sl ([Value.ref (b 0), Value.int a1, Value.int a2])).length) Slot.unset).toArray = ls at hl ⊢
  have hl : lv_has ls 4 [(0, Value.ref (b 0)), (1, Value.int a1), (2, Value.int a2)] := hl
  unfold f_Le_seen at hf
  refine lv_iload_n hx hb d_Le_seen_0 rfl (lv_at hl 2 rfl) ?_
  refine lv_iconst (v := 0) hx hb d_Le_seen_1 (by decide) ?_
  refine lv_iconst (v := 2) hx hb d_Le_seen_2 (by decide) ?_
  rcases gCvt_el hf with ⟨X8, hF8, hf⟩ | ⟨E8, X8, hF8, hf⟩
  rotate_left
  · cases hf
    refine gy_callT (rm := { frames := 6, cells := 1, slots := 6, locals := 82 }) (ig := .invokestatic 60) (av := [Value.int a2, Value.int 0, Value.int 2]) Y (fun ws h hS hw => K_Le_requireRange l htr D tys z _ ws h hS t ht b X0 hw a2 0 2 (gR.t E8, X8) hF8) (gx_invS (As := [Value.int a2, Value.int 0, Value.int 2]) (rest := []) hx hb hown hts km_Le_60 kS_Le_requireRange kN_Le kc_Le_requireRange (by decide) (show (parseMethodDescriptor y_Le_requireRange.desc).map (fun d => d.parameters.length) = some 3 by decide +kernel) rfl rfl d_Le_seen_3) (gx_cw (z := 0) hts kc_Le_requireRange kN_Le rfl rfl ⟨Nat.le_of_ble_eq_true rfl, Nat.le_of_ble_eq_true rfl⟩) hb hml hz hK hY hAz hA hl.1 (lv_room (Nat.le_of_ble_eq_true rfl)) d_Le_seen_3 ⟨Nat.le_of_ble_eq_true rfl, Nat.le_of_ble_eq_true rfl⟩ (fun x9 ce H1 L9 hce Y => gy_pass hne hlocks hce hK Y (Nat.le_of_ble_eq_true rfl) (Nat.le_of_ble_eq_true rfl))
  refine gy_callV (rm := { frames := 6, cells := 0, slots := 0, locals := 82 }) (ig := .invokestatic 60) (av := [Value.int a2, Value.int 0, Value.int 2]) Y (fun ws h hS hw => K_Le_requireRange l htr D tys z _ ws h hS t ht b X0 hw a2 0 2 (gR.v, X8) hF8) (gx_invS (As := [Value.int a2, Value.int 0, Value.int 2]) (rest := []) hx hb hown hts km_Le_60 kS_Le_requireRange kN_Le kc_Le_requireRange (by decide) (show (parseMethodDescriptor y_Le_requireRange.desc).map (fun d => d.parameters.length) = some 3 by decide +kernel) rfl rfl d_Le_seen_3) (gx_cw (z := 0) hts kc_Le_requireRange kN_Le rfl rfl ⟨Nat.le_of_ble_eq_true rfl, Nat.le_of_ble_eq_true rfl⟩) hb hml hz hK hY hAz hA hl.1 (lv_room (Nat.le_of_ble_eq_true rfl)) d_Le_seen_3 ⟨Nat.zero_le _, Nat.zero_le _⟩ (fun H locs Y => ?_)
  refine lv_aload_n hx hb d_Le_seen_6 rfl (lv_at hl 0 rfl) ?_
  refine lv_iload_n hx hb d_Le_seen_7 rfl (lv_at hl 1 rfl) ?_
  rcases gCat_el hf with ⟨x9, X9, hF9, hf⟩ | ⟨E9, X9, hF9, hf⟩
  rotate_left
  · cases hf
    refine gy_callT (rm := { frames := 6, cells := 1, slots := 6, locals := 82 }) (ig := .invokevirtual 226) (av := [Value.ref (b 0), Value.int a1]) Y (fun ws h hS hw => K_Le_requireReader l htr D tys z _ ws h hS t ht b X8 hw a1 (gR.t E9, X9) hF9) (gx_invV (As := [Value.int a1]) (rest := []) hx hb hown hts km_Le_226 kI_Le_requireReader kV_Le_requireReader kc_Le_requireReader (by decide) (show (parseMethodDescriptor y_Le_requireReader.desc).map (fun d => d.parameters.length) = some 1 by decide +kernel) (gy_recv (ci := 0) hK Y rfl gF_0) rfl rfl d_Le_seen_8) (gx_cw (z := 0) hts kc_Le_requireReader kN_Le rfl rfl ⟨Nat.le_of_ble_eq_true rfl, Nat.le_of_ble_eq_true rfl⟩) hb hml hz hK hY hAz hA hl.1 (lv_room (Nat.le_of_ble_eq_true rfl)) d_Le_seen_8 ⟨Nat.le_of_ble_eq_true rfl, Nat.le_of_ble_eq_true rfl⟩ (fun x9 ce H1 L9 hce Y => gy_pass hne hlocks hce hK Y (Nat.le_of_ble_eq_true rfl) (Nat.le_of_ble_eq_true rfl))
  refine gy_callA (rm := { frames := 6, cells := 0, slots := 0, locals := 82 }) (ig := .invokevirtual 226) (av := [Value.ref (b 0), Value.int a1]) Y (fun ws h hS hw => K_Le_requireReader l htr D tys z _ ws h hS t ht b X8 hw a1 (gR.a x9, X9) hF9) (gx_invV (As := [Value.int a1]) (rest := []) hx hb hown hts km_Le_226 kI_Le_requireReader kV_Le_requireReader kc_Le_requireReader (by decide) (show (parseMethodDescriptor y_Le_requireReader.desc).map (fun d => d.parameters.length) = some 1 by decide +kernel) (gy_recv (ci := 0) hK Y rfl gF_0) rfl rfl d_Le_seen_8) (gx_cw (z := 0) hts kc_Le_requireReader kN_Le rfl rfl ⟨Nat.le_of_ble_eq_true rfl, Nat.le_of_ble_eq_true rfl⟩) hb hml hz hK hY hAz hA hl.1 (lv_room (Nat.le_of_ble_eq_true rfl)) d_Le_seen_8 ⟨Nat.zero_le _, Nat.zero_le _⟩ (fun H locs Y => ?_)
  obtain ⟨n10, e10, hf⟩ := gM_el hf
  refine W.eq (g2 := F0 m 11 ls [Value.ref (b n10)]) (by rw [e10] <;> rfl) ?_
  obtain ⟨hv11, hf⟩ := gp_g hf
  refine gy_get (ci := 6) (v := Value.ref (b (n10 + 1))) (C := "CommitLedger$Reader") (T := F_Re) (N := 3) hx hb hts i_Re hown hK Y (gF_Re hv11) rfl 0 (by decide) kf_Le_233 rfl d_Le_seen_11 ?_
  refine lv_astore_n (lv' := [(3, Value.ref (b (n10 + 1))), (0, Value.ref (b 0)), (1, Value.int a1), (2, Value.int a2)]) hx hb d_Le_seen_14 rfl hl (by decide) rfl (fun ls hl => ?_)
  refine lv_iload_n hx hb d_Le_seen_15 rfl (lv_at hl 3 rfl) ?_
  by_cases s12_0 : a2 = (0 : Int32)
  · replace hf := gp_t s12_0 hf
    refine gx_topi s12_0 ?_
    refine lv_lookup (off := 28) (tgt := 44) hx hb d_Le_seen_16 (by decide) (by decide) (by decide) ?_
    refine lv_aload_n hx hb d_Le_seen_44 rfl (lv_at hl 0 rfl) ?_
    refine lv_iconst (v := 0) hx hb d_Le_seen_45 (by decide) ?_
    refine lv_aload_n hx hb d_Le_seen_46 rfl (lv_at hl 1 rfl) ?_
    refine gy_get (ci := 0) (v := Value.ref (b 1)) (C := "CommitLedger") (T := F_Le) (N := 18) hx hb hts i_Le hown hK Y gF_0 rfl 0 (by decide) kf_Le_10 rfl d_Le_seen_47 ?_
    refine gy_get (ci := 1) (v := Value.int (X9.I 1 3)) (C := "CommitLedger$Entries") (T := F_En) (N := 4) hx hb hts i_En hown hK Y gF_1 rfl 3 (by decide) kf_Le_94 rfl d_Le_seen_50 ?_
    obtain ⟨x13, X13, hF13, hf⟩ := gCi_el hf
    refine gy_callI (rm := { frames := 1, cells := 0, slots := 0, locals := 12 }) (ig := .invokevirtual 246) (av := [Value.ref (b (n10 + 1)), Value.int 0, Value.int (X9.I 1 3)]) Y (fun ws h hS hw => K_Vi_liveBetween l htr D tys z _ ws h hS t ht b X9 hw (n10 + 1) (gVie_re hv11) 0 (X9.I 1 3) (gR.i x13, X13) hF13) (gx_invV (As := [Value.int 0, Value.int (X9.I 1 3)]) (rest := []) hx hb hown hts km_Le_246 kI_Vi_liveBetween kV_Vi_liveBetween kc_Vi_liveBetween (by decide) (show (parseMethodDescriptor y_Vi_liveBetween.desc).map (fun d => d.parameters.length) = some 2 by decide +kernel) (gy_recv (ci := 4) hK Y rfl (gF_Vi (gVie_re hv11))) rfl rfl d_Le_seen_53) (gx_cw (z := 0) hts kc_Vi_liveBetween kN_Vi rfl rfl ⟨Nat.le_of_ble_eq_true rfl, Nat.le_of_ble_eq_true rfl⟩) hb hml hz hK hY hAz hA hl.1 (lv_room (Nat.le_of_ble_eq_true rfl)) d_Le_seen_53 ⟨Nat.zero_le _, Nat.zero_le _⟩ (fun H locs Y => ?_)
    exact gy_iret hf hx hb hr hlocks hK Y (Nat.zero_le _) (Nat.zero_le _) d_Le_seen_56
  replace hf := gp_f s12_0 hf
  by_cases s12_1 : a2 = (1 : Int32)
  · replace hf := gp_t s12_1 hf
    refine gx_topi s12_1 ?_
    refine lv_lookup (off := 41) (tgt := 57) hx hb d_Le_seen_16 (by decide) (by decide) (by decide) ?_
    refine lv_aload_n hx hb d_Le_seen_57 rfl (lv_at hl 0 rfl) ?_
    obtain ⟨x14, X14, hF14, hf⟩ := gCi_el hf
    refine gy_callI (rm := { frames := 1, cells := 0, slots := 0, locals := 12 }) (ig := .invokevirtual 249) (av := [Value.ref (b (n10 + 1))]) Y (fun ws h hS hw => K_Vi_entriesInSegments l htr D tys z _ ws h hS t ht b X9 hw (n10 + 1) (gVie_re hv11) (gR.i x14, X14) hF14) (gx_invV (As := []) (rest := []) hx hb hown hts km_Le_249 kI_Vi_entriesInSegments kV_Vi_entriesInSegments kc_Vi_entriesInSegments (by decide) (show (parseMethodDescriptor y_Vi_entriesInSegments.desc).map (fun d => d.parameters.length) = some 0 by decide +kernel) (gy_recv (ci := 4) hK Y rfl (gF_Vi (gVie_re hv11))) rfl rfl d_Le_seen_58) (gx_cw (z := 0) hts kc_Vi_entriesInSegments kN_Vi rfl rfl ⟨Nat.le_of_ble_eq_true rfl, Nat.le_of_ble_eq_true rfl⟩) hb hml hz hK hY hAz hA hl.1 (lv_room (Nat.le_of_ble_eq_true rfl)) d_Le_seen_58 ⟨Nat.zero_le _, Nat.zero_le _⟩ (fun H locs Y => ?_)
    exact gy_iret hf hx hb hr hlocks hK Y (Nat.zero_le _) (Nat.zero_le _) d_Le_seen_61
  replace hf := gp_f s12_1 hf
  refine lv_lookup (off := 46) (tgt := 62) hx hb d_Le_seen_16 (by decide) ((lv_osw (k := 0) s12_0 (by decide)).trans ((lv_osw (k := 1) s12_1 (by decide)).trans (rfl))) (by decide) ?_
  refine lv_aload_n hx hb d_Le_seen_62 rfl (lv_at hl 0 rfl) ?_
  refine gy_get (ci := 4) (v := Value.int (X9.I (n10 + 1) 4)) (C := "CommitLedger$View") (T := F_Vi) (N := 6) hx hb hts i_Vi hown hK Y (gF_Vi (gVie_re hv11)) rfl 4 (by decide) kf_Le_109 rfl d_Le_seen_63 ?_
  exact gy_iret hf hx hb hr hlocks hK Y (Nat.zero_le _) (Nat.zero_le _) d_Le_seen_66

def f_Le_segment_25 (X : gX) : Option (gR × gX) := some (gR.t "java/util/NoSuchElementException", X)
def f_Le_segment (X0 : gX) (a1 : Int32) (a2 : Int32) : Option (gR × gX) := gCvt (f_Le_requireRange X0 a2 0 4) (fun E X => some (gR.t E, X)) (fun X1 => gCvt (f_Le_requireWriter X1) (fun E X => some (gR.t E, X)) (fun X2 => (if a1 < (0 : Int32) then f_Le_segment_25 X2 else (if a1 < (X2.I 8 4) then (if gIn a1 4096 then (if a2 = (0 : Int32) then gM (X2.G 9 (gn a1)) (fun n6 => (if gFile X2.N n6 then some (gR.i (X2.I n6 4), X2) else none)) else (if a2 = (1 : Int32) then gM (X2.G 9 (gn a1)) (fun n8 => (if gFile X2.N n8 then gCi (f_Vi_liveIn X2 8 (X2.G 9 (gn a1))) (fun x10 X10 => some (gR.i ((X2.I n8 4) - x10), X10)) else none)) else (if a2 = (2 : Int32) then gCi (f_Le_levelOf X2 (X2.G 9 (gn a1))) (fun x11 X11 => some (gR.i x11, X11)) else (if a2 = (3 : Int32) then gCi (f_Le_mergeOf X2 (X2.G 9 (gn a1))) (fun x12 X12 => some (gR.i x12, X12)) else gM (X2.G 9 (gn a1)) (fun n13 => (if gFile X2.N n13 then (if gIn (X2.I n13 5) 4096 then some (gR.i (X2.I 4 (gn (X2.I n13 5))), X2) else none) else none)))))) else none) else f_Le_segment_25 X2))))
set_option maxHeartbeats 4000000 in
set_option maxRecDepth 100000 in
theorem K_Le_segment (l : Launch) (htr : l.stackTraces = false) (D : va_G) (tys : List (ClassId × FieldType)) (z sz : Nat) (ws : va_W) (h : gm_M) (hM : gm_S h ws) (t : Nat → ClassId) (ht : gTy t tys) (b : Nat → Nat) (X0 : gX) (hw : gw D t b X0 h) (a1 : Int32) (a2 : Int32) (o : gR × gX) (hf : f_Le_segment X0 a1 a2 = some o) : gx_Met l y_Le_segment [Cond.code y_Le_segment b_Le_segment 4 (some .int)] { frames := 7, cells := gT o.1, slots := 6 * gT o.1, locals := 104 } (gx_P z sz D classes tys ws [Value.ref (b 0), Value.int a1, Value.int a2]) (gx_Q D classes tys (va_A ws sz) (gPo D t b X0 o)) (gT o.1) (6 * gT o.1) (va_A ws sz) := by
  refine gx_ofW (cc := b_Le_segment) (maxL := 4) (ret := (some .int)) (by decide) rfl ?_
  intro p e s m args below meth c s₁ B hml hv
  obtain ⟨rfl, hsz, hz, hP, hK, hD0, hY⟩ := hv
  have hx := B.exec
  have hb := B.bytes
  have hr := B.returns
  have hts := hY.hts (#[Value.ref (b 0), Value.int a1, Value.int a2] : Array Value)
  have hown : s.vm.findClass "CommitLedger" = some m.cls := findClass_of_methodNamed B.named
  have hlocks := B.notSynchronized
  have hne : c.exceptionTable.isEmpty = true := B.noHandlers (atoms_spec (ws := [Cond.code y_Le_segment b_Le_segment 4 (some .int)]) B.pre _ List.mem_cons_self)
  have hN := gx_ns hP
  subst hsz
  have hAz := gx_az hD0 hz
  have hD := hD0.self (sz := s.heap.size)
  have hA : ∀ q : Nat, s.heap.size ≤ q → va_A ws s.heap.size q := fun q h => Or.inr h
  generalize va_A ws s.heap.size = A at hD hA hAz hN ⊢
  have Y : gy D t b A s.heap X0 X0 s.heap [] := ⟨h, ⟨ws, hM, hP, hD, va_S.rf⟩, hw, gEq.rf⟩
  clear hP hD hM hD0 hw
  obtain ⟨ht0, ht1, ht2, ht3, ht4, ht5, ht6, ht7, ht8⟩ := id ht
  have hl := lv_entry ([Value.ref (b 0), Value.int a1, Value.int a2]) (n := 4) (Nat.le_of_ble_eq_true rfl)
  rw [lg_entry_eq]
  generalize (lg_sl ([Value.ref (b 0), Value.int a1, Value.int a2]) ++ List.replicate (4 - (lg_sl ([Value.ref (b 0), Value.int a1, Value.int a2])).length) Slot.unset).toArray = ls at hl ⊢
  have hl : lv_has ls 4 [(0, Value.ref (b 0)), (1, Value.int a1), (2, Value.int a2)] := hl
  refine gy_cut (pcJ := 25) Y (fun s : gX => f_Le_segment_25 s) o (fun s => s) (fun s ls => lv_has ls 4 []) (fun s => []) ?_ (fun J25 => ?_)
  · rintro X15 H locs ls hf hl Y
    have hl : lv_has ls 4 [] := hl
    have Y : gy D t b A s.heap X0 X15 H locs := Y
    have hf : f_Le_segment_25 X15 = some o := hf
    unfold f_Le_segment_25 at hf
    cases hf
    exact gy_thr (i1 := 13) (b1 := prog_31_method_4_code) hx hb htr (hml.trans hl.1.symm) hown hts hne hlocks hK Y hA hN kk_Le_150 kX_NoSuchElementException kN_NoSuchElementException ks_Le_252 kT_Le_154 (by decide) (by decide +kernel) (by decide +kernel) (by decide +kernel) (by decide +kernel) d_Le_segment_25 d_Le_segment_28 d_Le_segment_29 d_Le_segment_31 d_Le_segment_34 (Nat.le_of_ble_eq_true rfl) (Nat.le_of_ble_eq_true rfl) (Nat.le_of_ble_eq_true rfl) (Nat.le_of_ble_eq_true rfl) (Nat.le_of_ble_eq_true rfl) (Nat.le_of_ble_eq_true rfl)
  unfold f_Le_segment at hf
  refine lv_iload_n hx hb d_Le_segment_0 rfl (lv_at hl 2 rfl) ?_
  refine lv_iconst (v := 0) hx hb d_Le_segment_1 (by decide) ?_
  refine lv_iconst (v := 4) hx hb d_Le_segment_2 (by decide) ?_
  rcases gCvt_el hf with ⟨X16, hF16, hf⟩ | ⟨E16, X16, hF16, hf⟩
  rotate_left
  · cases hf
    refine gy_callT (rm := { frames := 6, cells := 1, slots := 6, locals := 82 }) (ig := .invokestatic 60) (av := [Value.int a2, Value.int 0, Value.int 4]) Y (fun ws h hS hw => K_Le_requireRange l htr D tys z _ ws h hS t ht b X0 hw a2 0 4 (gR.t E16, X16) hF16) (gx_invS (As := [Value.int a2, Value.int 0, Value.int 4]) (rest := []) hx hb hown hts km_Le_60 kS_Le_requireRange kN_Le kc_Le_requireRange (by decide) (show (parseMethodDescriptor y_Le_requireRange.desc).map (fun d => d.parameters.length) = some 3 by decide +kernel) rfl rfl d_Le_segment_3) (gx_cw (z := 0) hts kc_Le_requireRange kN_Le rfl rfl ⟨Nat.le_of_ble_eq_true rfl, Nat.le_of_ble_eq_true rfl⟩) hb hml hz hK hY hAz hA hl.1 (lv_room (Nat.le_of_ble_eq_true rfl)) d_Le_segment_3 ⟨Nat.le_of_ble_eq_true rfl, Nat.le_of_ble_eq_true rfl⟩ (fun x9 ce H1 L9 hce Y => gy_pass hne hlocks hce hK Y (Nat.le_of_ble_eq_true rfl) (Nat.le_of_ble_eq_true rfl))
  refine gy_callV (rm := { frames := 6, cells := 0, slots := 0, locals := 82 }) (ig := .invokestatic 60) (av := [Value.int a2, Value.int 0, Value.int 4]) Y (fun ws h hS hw => K_Le_requireRange l htr D tys z _ ws h hS t ht b X0 hw a2 0 4 (gR.v, X16) hF16) (gx_invS (As := [Value.int a2, Value.int 0, Value.int 4]) (rest := []) hx hb hown hts km_Le_60 kS_Le_requireRange kN_Le kc_Le_requireRange (by decide) (show (parseMethodDescriptor y_Le_requireRange.desc).map (fun d => d.parameters.length) = some 3 by decide +kernel) rfl rfl d_Le_segment_3) (gx_cw (z := 0) hts kc_Le_requireRange kN_Le rfl rfl ⟨Nat.le_of_ble_eq_true rfl, Nat.le_of_ble_eq_true rfl⟩) hb hml hz hK hY hAz hA hl.1 (lv_room (Nat.le_of_ble_eq_true rfl)) d_Le_segment_3 ⟨Nat.zero_le _, Nat.zero_le _⟩ (fun H locs Y => ?_)
  refine lv_aload_n hx hb d_Le_segment_6 rfl (lv_at hl 0 rfl) ?_
  rcases gCvt_el hf with ⟨X17, hF17, hf⟩ | ⟨E17, X17, hF17, hf⟩
  rotate_left
  · cases hf
    refine gy_callT (rm := { frames := 6, cells := 1, slots := 6, locals := 82 }) (ig := .invokevirtual 112) (av := [Value.ref (b 0)]) Y (fun ws h hS hw => K_Le_requireWriter l htr D tys z _ ws h hS t ht b X16 hw (gR.t E17, X17) hF17) (gx_invV (As := []) (rest := []) hx hb hown hts km_Le_112 kI_Le_requireWriter kV_Le_requireWriter kc_Le_requireWriter (by decide) (show (parseMethodDescriptor y_Le_requireWriter.desc).map (fun d => d.parameters.length) = some 0 by decide +kernel) (gy_recv (ci := 0) hK Y rfl gF_0) rfl rfl d_Le_segment_7) (gx_cw (z := 0) hts kc_Le_requireWriter kN_Le rfl rfl ⟨Nat.le_of_ble_eq_true rfl, Nat.le_of_ble_eq_true rfl⟩) hb hml hz hK hY hAz hA hl.1 (lv_room (Nat.le_of_ble_eq_true rfl)) d_Le_segment_7 ⟨Nat.le_of_ble_eq_true rfl, Nat.le_of_ble_eq_true rfl⟩ (fun x9 ce H1 L9 hce Y => gy_pass hne hlocks hce hK Y (Nat.le_of_ble_eq_true rfl) (Nat.le_of_ble_eq_true rfl))
  refine gy_callV (rm := { frames := 6, cells := 0, slots := 0, locals := 82 }) (ig := .invokevirtual 112) (av := [Value.ref (b 0)]) Y (fun ws h hS hw => K_Le_requireWriter l htr D tys z _ ws h hS t ht b X16 hw (gR.v, X17) hF17) (gx_invV (As := []) (rest := []) hx hb hown hts km_Le_112 kI_Le_requireWriter kV_Le_requireWriter kc_Le_requireWriter (by decide) (show (parseMethodDescriptor y_Le_requireWriter.desc).map (fun d => d.parameters.length) = some 0 by decide +kernel) (gy_recv (ci := 0) hK Y rfl gF_0) rfl rfl d_Le_segment_7) (gx_cw (z := 0) hts kc_Le_requireWriter kN_Le rfl rfl ⟨Nat.le_of_ble_eq_true rfl, Nat.le_of_ble_eq_true rfl⟩) hb hml hz hK hY hAz hA hl.1 (lv_room (Nat.le_of_ble_eq_true rfl)) d_Le_segment_7 ⟨Nat.zero_le _, Nat.zero_le _⟩ (fun H locs Y => ?_)
  refine lv_iload_n hx hb d_Le_segment_10 rfl (lv_at hl 1 rfl) ?_
  refine lv_if_lt (tgt := 25) hx hb d_Le_segment_11 (by decide) (fun c11_18 => ?_) (fun c11_18 => ?_)
  · replace hf := gp_t c11_18 hf
    exact J25 X17 _ _ _ hf (lv_sub hl [] rfl) Y
  · replace hf := gp_f c11_18 hf
    refine lv_iload_n hx hb d_Le_segment_14 rfl (lv_at hl 1 rfl) ?_
    refine lv_aload_n hx hb d_Le_segment_15 rfl (lv_at hl 0 rfl) ?_
    refine gy_get (ci := 0) (v := Value.ref (b 8)) (C := "CommitLedger") (T := F_Le) (N := 18) hx hb hts i_Le hown hK Y gF_0 rfl 2 (by decide) kf_Le_26 rfl d_Le_segment_16 ?_
    refine gy_get (ci := 4) (v := Value.int (X17.I 8 4)) (C := "CommitLedger$View") (T := F_Vi) (N := 6) hx hb hts i_Vi hown hK Y gF_8 rfl 4 (by decide) kf_Le_109 rfl d_Le_segment_19 ?_
    refine lv_icmp_lt (tgt := 35) hx hb d_Le_segment_22 (by decide) (fun c22_19 => ?_) (fun c22_19 => ?_)
    · replace hf := gp_t c22_19 hf
      refine lv_aload_n hx hb d_Le_segment_35 rfl (lv_at hl 0 rfl) ?_
      refine gy_get (ci := 0) (v := Value.ref (b 8)) (C := "CommitLedger") (T := F_Le) (N := 18) hx hb hts i_Le hown hK Y gF_0 rfl 2 (by decide) kf_Le_26 rfl d_Le_segment_36 ?_
      refine gy_get (ci := 4) (v := Value.ref (b 9)) (C := "CommitLedger$View") (T := F_Vi) (N := 6) hx hb hts i_Vi hown hK Y gF_8 rfl 0 (by decide) kf_Le_254 rfl d_Le_segment_39 ?_
      refine lv_iload_n hx hb d_Le_segment_42 rfl (lv_at hl 1 rfl) ?_
      refine gy_aald hf hx hb hK Y 2 gF_9 ht2 d_Le_segment_43 (fun hf => ?_)
      refine lv_astore_nO (lv' := [(3, va_rf (Option.map b (X17.G 9 (gn a1)))), (0, Value.ref (b 0)), (1, Value.int a1), (2, Value.int a2)]) hx hb d_Le_segment_44 rfl hl (by decide) rfl (fun ls hl => ?_)
      refine lv_iload_n hx hb d_Le_segment_45 rfl (lv_at hl 3 rfl) ?_
      by_cases s20_0 : a2 = (0 : Int32)
      · replace hf := gp_t s20_0 hf
        refine gx_topi s20_0 ?_
        refine lv_tableIn (off := 30) (tgt := 76) hx hb d_Le_segment_46 (by decide) (by decide) rfl (by decide) ?_
        refine lv_aload_nO hx hb d_Le_segment_76 rfl (lv_at hl 0 rfl) ?_
        obtain ⟨n21, e21, hf⟩ := gM_el hf
        refine W.eq (g2 := F0 m 77 ls [Value.ref (b n21)]) (by rw [e21] <;> rfl) ?_
        obtain ⟨hv22, hf⟩ := gp_g hf
        refine gy_get (ci := 7) (v := Value.int (X17.I n21 4)) (C := "CommitLedger$LedgerFile") (T := F_Fi) (N := 7) hx hb hts i_Fi hown hK Y (gF_Fi hv22) rfl 4 (by decide) kf_Le_258 rfl d_Le_segment_77 ?_
        exact gy_iret hf hx hb hr hlocks hK Y (Nat.zero_le _) (Nat.zero_le _) d_Le_segment_80
      replace hf := gp_f s20_0 hf
      by_cases s20_1 : a2 = (1 : Int32)
      · replace hf := gp_t s20_1 hf
        refine gx_topi s20_1 ?_
        refine lv_tableIn (off := 35) (tgt := 81) hx hb d_Le_segment_46 (by decide) (by decide) rfl (by decide) ?_
        refine lv_aload_nO hx hb d_Le_segment_81 rfl (lv_at hl 0 rfl) ?_
        obtain ⟨n23, e23, hf⟩ := gM_el hf
        refine W.eq (g2 := F0 m 82 ls [Value.ref (b n23)]) (by rw [e23] <;> rfl) ?_
        obtain ⟨hv24, hf⟩ := gp_g hf
        refine gy_get (ci := 7) (v := Value.int (X17.I n23 4)) (C := "CommitLedger$LedgerFile") (T := F_Fi) (N := 7) hx hb hts i_Fi hown hK Y (gF_Fi hv24) rfl 4 (by decide) kf_Le_258 rfl d_Le_segment_82 ?_
        refine lv_aload_n hx hb d_Le_segment_85 rfl (lv_at hl 1 rfl) ?_
        refine gy_get (ci := 0) (v := Value.ref (b 8)) (C := "CommitLedger") (T := F_Le) (N := 18) hx hb hts i_Le hown hK Y gF_0 rfl 2 (by decide) kf_Le_26 rfl d_Le_segment_86 ?_
        refine lv_aload_nO hx hb d_Le_segment_89 rfl (lv_at hl 0 rfl) ?_
        obtain ⟨x25, X25, hF25, hf⟩ := gCi_el hf
        refine gy_callI (rm := { frames := 2, cells := 0, slots := 0, locals := 36 }) (ig := .invokevirtual 261) (av := [Value.ref (b 8), va_rf (Option.map b (X17.G 9 (gn a1)))]) Y (fun ws h hS hw => K_Vi_liveIn l htr D tys z _ ws h hS t ht b X17 hw 8 (by decide) (X17.G 9 (gn a1)) (gR.i x25, X25) hF25) (gx_invV (As := [va_rf (Option.map b (X17.G 9 (gn a1)))]) (rest := [Value.int (X17.I n23 4)]) hx hb hown hts km_Le_261 kI_Vi_liveIn kV_Vi_liveIn kc_Vi_liveIn (by decide) (show (parseMethodDescriptor y_Vi_liveIn.desc).map (fun d => d.parameters.length) = some 1 by decide +kernel) (gy_recv (ci := 4) hK Y rfl gF_8) rfl rfl d_Le_segment_90) (gx_cw (z := 0) hts kc_Vi_liveIn kN_Vi rfl rfl ⟨Nat.le_of_ble_eq_true rfl, Nat.le_of_ble_eq_true rfl⟩) hb hml hz hK hY hAz hA hl.1 (lv_room (Nat.le_of_ble_eq_true rfl)) d_Le_segment_90 ⟨Nat.zero_le _, Nat.zero_le _⟩ (fun H locs Y => ?_)
        refine lv_isub hx hb d_Le_segment_93 ?_
        exact gy_iret hf hx hb hr hlocks hK Y (Nat.zero_le _) (Nat.zero_le _) d_Le_segment_94
      replace hf := gp_f s20_1 hf
      by_cases s20_2 : a2 = (2 : Int32)
      · replace hf := gp_t s20_2 hf
        refine gx_topi s20_2 ?_
        refine lv_tableIn (off := 49) (tgt := 95) hx hb d_Le_segment_46 (by decide) (by decide) rfl (by decide) ?_
        refine lv_aload_n hx hb d_Le_segment_95 rfl (lv_at hl 1 rfl) ?_
        refine lv_aload_nO hx hb d_Le_segment_96 rfl (lv_at hl 0 rfl) ?_
        obtain ⟨x26, X26, hF26, hf⟩ := gCi_el hf
        refine gy_callI (rm := { frames := 3, cells := 0, slots := 0, locals := 57 }) (ig := .invokevirtual 265) (av := [Value.ref (b 0), va_rf (Option.map b (X17.G 9 (gn a1)))]) Y (fun ws h hS hw => K_Le_levelOf l htr D tys z _ ws h hS t ht b X17 hw (X17.G 9 (gn a1)) (gR.i x26, X26) hF26) (gx_invV (As := [va_rf (Option.map b (X17.G 9 (gn a1)))]) (rest := []) hx hb hown hts km_Le_265 kI_Le_levelOf kV_Le_levelOf kc_Le_levelOf (by decide) (show (parseMethodDescriptor y_Le_levelOf.desc).map (fun d => d.parameters.length) = some 1 by decide +kernel) (gy_recv (ci := 0) hK Y rfl gF_0) rfl rfl d_Le_segment_97) (gx_cw (z := 0) hts kc_Le_levelOf kN_Le rfl rfl ⟨Nat.le_of_ble_eq_true rfl, Nat.le_of_ble_eq_true rfl⟩) hb hml hz hK hY hAz hA hl.1 (lv_room (Nat.le_of_ble_eq_true rfl)) d_Le_segment_97 ⟨Nat.zero_le _, Nat.zero_le _⟩ (fun H locs Y => ?_)
        exact gy_iret hf hx hb hr hlocks hK Y (Nat.zero_le _) (Nat.zero_le _) d_Le_segment_100
      replace hf := gp_f s20_2 hf
      by_cases s20_3 : a2 = (3 : Int32)
      · replace hf := gp_t s20_3 hf
        refine gx_topi s20_3 ?_
        refine lv_tableIn (off := 55) (tgt := 101) hx hb d_Le_segment_46 (by decide) (by decide) rfl (by decide) ?_
        refine lv_aload_n hx hb d_Le_segment_101 rfl (lv_at hl 1 rfl) ?_
        refine lv_aload_nO hx hb d_Le_segment_102 rfl (lv_at hl 0 rfl) ?_
        obtain ⟨x27, X27, hF27, hf⟩ := gCi_el hf
        refine gy_callI (rm := { frames := 2, cells := 0, slots := 0, locals := 33 }) (ig := .invokevirtual 268) (av := [Value.ref (b 0), va_rf (Option.map b (X17.G 9 (gn a1)))]) Y (fun ws h hS hw => K_Le_mergeOf l htr D tys z _ ws h hS t ht b X17 hw (X17.G 9 (gn a1)) (gR.i x27, X27) hF27) (gx_invV (As := [va_rf (Option.map b (X17.G 9 (gn a1)))]) (rest := []) hx hb hown hts km_Le_268 kI_Le_mergeOf kV_Le_mergeOf kc_Le_mergeOf (by decide) (show (parseMethodDescriptor y_Le_mergeOf.desc).map (fun d => d.parameters.length) = some 1 by decide +kernel) (gy_recv (ci := 0) hK Y rfl gF_0) rfl rfl d_Le_segment_103) (gx_cw (z := 0) hts kc_Le_mergeOf kN_Le rfl rfl ⟨Nat.le_of_ble_eq_true rfl, Nat.le_of_ble_eq_true rfl⟩) hb hml hz hK hY hAz hA hl.1 (lv_room (Nat.le_of_ble_eq_true rfl)) d_Le_segment_103 ⟨Nat.zero_le _, Nat.zero_le _⟩ (fun H locs Y => ?_)
        exact gy_iret hf hx hb hr hlocks hK Y (Nat.zero_le _) (Nat.zero_le _) d_Le_segment_106
      replace hf := gp_f s20_3 hf
      refine lv_tableOut (tgt := 107) hx hb d_Le_segment_46 (by have e0 := lv_neT s20_0 (a := 0) (by decide); have e1 := lv_neT s20_1 (a := 1) (by decide); have e2 := lv_neT s20_2 (a := 2) (by decide); have e3 := lv_neT s20_3 (a := 3) (by decide); omega) (by decide) ?_
      refine lv_aload_n hx hb d_Le_segment_107 rfl (lv_at hl 1 rfl) ?_
      refine gy_get (ci := 0) (v := Value.ref (b 1)) (C := "CommitLedger") (T := F_Le) (N := 18) hx hb hts i_Le hown hK Y gF_0 rfl 0 (by decide) kf_Le_10 rfl d_Le_segment_108 ?_
      refine gy_get (ci := 1) (v := Value.ref (b 4)) (C := "CommitLedger$Entries") (T := F_En) (N := 4) hx hb hts i_En hown hK Y gF_1 rfl 2 (by decide) kf_Le_241 rfl d_Le_segment_111 ?_
      refine lv_aload_nO hx hb d_Le_segment_114 rfl (lv_at hl 0 rfl) ?_
      obtain ⟨n28, e28, hf⟩ := gM_el hf
      refine W.eq (g2 := F0 m 115 ls [Value.ref (b n28), Value.ref (b 4)]) (by rw [e28] <;> rfl) ?_
      obtain ⟨hv29, hf⟩ := gp_g hf
      refine gy_get (ci := 7) (v := Value.int (X17.I n28 5)) (C := "CommitLedger$LedgerFile") (T := F_Fi) (N := 7) hx hb hts i_Fi hown hK Y (gF_Fi hv29) rfl 5 (by decide) kf_Le_271 rfl d_Le_segment_115 ?_
      refine gy_iald hf hx hb hK Y 0 (fun _ => gF_4) ht0 d_Le_segment_118 (fun _ hf => ?_)
      exact gy_iret hf hx hb hr hlocks hK Y (Nat.zero_le _) (Nat.zero_le _) d_Le_segment_119
    · replace hf := gp_f c22_19 hf
      exact J25 X17 _ _ _ hf (lv_sub hl [] rfl) Y
