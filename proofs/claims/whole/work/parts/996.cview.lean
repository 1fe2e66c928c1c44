/-! THE THIRD LAYER, the ledger: View, Merge, Entries: programs of numbers and the proof that the machine does what they say; printed by an own text program -/
def f_Vi_liveBetween_24 (X : gX) (n : Nat) (i2 : Int32) (i3 : Int32) (i4 : Int32) : Option ((Int32 × Int32) ⊕ (gR × gX)) := some (Sum.inl (i3, i4 + 1))
def f_Vi_liveBetween_5 (X : gX) (n : Nat) (i2 : Int32) (i3 : Int32) (i4 : Int32) : Option ((Int32 × Int32) ⊕ (gR × gX)) := (if i2 ≤ i4 then gLf (some (gR.i i3, X)) else (if gIn i4 4096 then (if (X.I (n + 3) (gn i4)) = (0 : Int32) then f_Vi_liveBetween_24 X n i2 i3 i4 else f_Vi_liveBetween_24 X n i2 (i3 + 1) i4) else none))
def f_Vi_liveBetween (X0 : gX) (n : Nat) (a1 : Int32) (a2 : Int32) : Option (gR × gX) := gI (fun s : Int32 × Int32 => f_Vi_liveBetween_5 X0 n a2 s.1 s.2) gK (0, a1)
set_option maxHeartbeats 4000000 in
set_option maxRecDepth 100000 in
theorem K_Vi_liveBetween (l : Launch) (htr : l.stackTraces = false) (D : va_G) (tys : List (ClassId × FieldType)) (z sz : Nat) (ws : va_W) (h : gm_M) (hM : gm_S h ws) (t : Nat → ClassId) (ht : gTy t tys) (b : Nat → Nat) (X0 : gX) (hw : gw D t b X0 h) (n : Nat) (hn : gVie n = true) (a1 : Int32) (a2 : Int32) (o : gR × gX) (hf : f_Vi_liveBetween X0 n a1 a2 = some o) : gx_Met l y_Vi_liveBetween [Cond.code y_Vi_liveBetween b_Vi_liveBetween 5 (some .int)] { frames := 1, cells := 0, slots := 0, locals := 12 } (gx_P z sz D classes tys ws [Value.ref (b n), Value.int a1, Value.int a2]) (gx_Q D classes tys (va_A ws sz) (gPo D t b X0 o)) (0) (0) (va_A ws sz) := by
  refine gx_ofW (cc := b_Vi_liveBetween) (maxL := 5) (ret := (some .int)) (by decide) rfl ?_
  intro p e s m args below meth c s₁ B hml hv
  obtain ⟨rfl, hsz, hz, hP, hK, hD0, hY⟩ := hv
  have hx := B.exec
  have hb := B.bytes
  have hr := B.returns
  have hts := hY.hts (#[Value.ref (b n), Value.int a1, Value.int a2] : Array Value)
  have hown : s.vm.findClass "CommitLedger$View" = some m.cls := findClass_of_methodNamed B.named
  have hlocks := B.notSynchronized
  subst hsz
  have hAz := gx_az hD0 hz
  have hD := hD0.self (sz := s.heap.size)
  have hA : ∀ q : Nat, s.heap.size ≤ q → va_A ws s.heap.size q := fun q h => Or.inr h
  generalize va_A ws s.heap.size = A at hD hA hAz ⊢
  have Y : gy D t b A s.heap X0 X0 s.heap [] := ⟨h, ⟨ws, hM, hP, hD, va_S.rf⟩, hw, gEq.rf⟩
  clear hP hD hM hD0 hw
  obtain ⟨ht0, ht1, ht2, ht3, ht4, ht5, ht6, ht7, ht8⟩ := id ht
  have hl := lv_entry ([Value.ref (b n), Value.int a1, Value.int a2]) (n := 5) (Nat.le_of_ble_eq_true rfl)
  rw [lg_entry_eq]
  generalize (lg_sl ([Value.ref (b n), Value.int a1, Value.int a2]) ++ List.replicate (5 - (lg_sl ([Value.ref (b n), Value.int a1, Value.int a2])).length) Slot.unset).toArray = ls at hl ⊢
  have hl : lv_has ls 5 [(0, Value.ref (b n)), (1, Value.int a1), (2, Value.int a2)] := hl
  unfold f_Vi_liveBetween at hf
  refine lv_iconst (v := 0) hx hb d_Vi_liveBetween_0 (by decide) ?_
  refine lv_istore_n (lv' := [(3, Value.int 0), (0, Value.ref (b n)), (1, Value.int a1), (2, Value.int a2)]) hx hb d_Vi_liveBetween_1 rfl hl (by decide) rfl (fun ls hl => ?_)
  refine lv_iload_n hx hb d_Vi_liveBetween_2 rfl (lv_at hl 2 rfl) ?_
  refine lv_istore (lv' := [(4, Value.int a1), (3, Value.int 0), (0, Value.ref (b n)), (1, Value.int a1), (2, Value.int a2)]) hx hb d_Vi_liveBetween_3 hl (by decide) rfl (fun ls hl => ?_)
  refine gy_iter (fun s : Int32 × Int32 => X0) (fun (s : Int32 × Int32) ls => lv_has ls 5 [(3, Value.int s.1), (4, Value.int s.2), (0, Value.ref (b n)), (2, Value.int a2)]) ?_ gK (0, a1) _ _ _ hf (lv_sub hl [1, 0, 2, 4] rfl) Y
  rintro ⟨i3_7, i4_7⟩ u7 H locs ls hf hl Y hk7 ho7
  have hl : lv_has ls 5 [(3, Value.int i3_7), (4, Value.int i4_7), (0, Value.ref (b n)), (2, Value.int a2)] := hl
  have Y : gy D t b A s.heap X0 X0 H locs := Y
  have hf : f_Vi_liveBetween_5 X0 n a2 i3_7 i4_7 = some u7 := hf
  refine gy_cut (pcJ := 24) Y (fun s : Int32 × Int32 => f_Vi_liveBetween_24 X0 n a2 s.1 s.2) u7 (fun s => X0) (fun s ls => lv_has ls 5 [(3, Value.int s.1), (4, Value.int s.2), (0, Value.ref (b n)), (2, Value.int a2)]) (fun s => []) ?_ (fun J24 => ?_)
  · rintro ⟨i3_8, i4_8⟩ H locs ls hf hl Y
    have hl : lv_has ls 5 [(3, Value.int i3_8), (4, Value.int i4_8), (0, Value.ref (b n)), (2, Value.int a2)] := hl
    have Y : gy D t b A s.heap X0 X0 H locs := Y
    have hf : f_Vi_liveBetween_24 X0 n a2 i3_8 i4_8 = some u7 := hf
    unfold f_Vi_liveBetween_24 at hf
    refine lv_iinc (v := i4_8 + 1) (lv' := [(4, Value.int (i4_8 + 1)), (3, Value.int i3_8), (0, Value.ref (b n)), (2, Value.int a2)]) hx hb d_Vi_liveBetween_24 hl (k := 1) rfl (rfl) (by decide) rfl (fun ls hl => ?_)
    refine lv_goto (tgt := 5) hx hb d_Vi_liveBetween_27 (by decide) ?_
    exact hk7 _ _ _ _ hf (lv_sub hl [1, 0, 2, 3] rfl) Y
  unfold f_Vi_liveBetween_5 at hf
  refine lv_iload hx hb d_Vi_liveBetween_5 (lv_at hl 1 rfl) ?_
  refine lv_iload_n hx hb d_Vi_liveBetween_7 rfl (lv_at hl 3 rfl) ?_
  refine lv_icmp_ge (tgt := 30) hx hb d_Vi_liveBetween_8 (by decide) (fun c8_9 => ?_) (fun c8_9 => ?_)
  · replace hf := gp_t c8_9 hf
    refine lv_iload_n hx hb d_Vi_liveBetween_30 rfl (lv_at hl 0 rfl) ?_
    replace hf := gU hf ho7
    exact gy_iret hf hx hb hr hlocks hK Y (Nat.zero_le _) (Nat.zero_le _) d_Vi_liveBetween_31
  · replace hf := gp_f c8_9 hf
    refine lv_aload_n hx hb d_Vi_liveBetween_11 rfl (lv_at hl 2 rfl) ?_
    refine gy_get (ci := 4) (v := Value.ref (b (n + 3))) (C := "CommitLedger$View") (T := F_Vi) (N := 6) hx hb hts i_Vi hown hK Y (gF_Vi hn) rfl 2 (by decide) kf_Vi_20 rfl d_Vi_liveBetween_12 ?_
    refine lv_iload hx hb d_Vi_liveBetween_15 (lv_at hl 1 rfl) ?_
    refine gy_zald hf hx hb hK Y 1 (fun _ => (gF_Vi3 hn)) ht1 d_Vi_liveBetween_17 (fun _ hf => ?_)
    refine lv_if_eq (tgt := 24) hx hb d_Vi_liveBetween_18 (by decide) (fun c18_10 => ?_) (fun c18_10 => ?_)
    · replace hf := gp_t c18_10 hf
      exact J24 (i3_7, i4_7) _ _ _ hf (lv_sub hl [0, 1, 2, 3] rfl) Y
    · replace hf := gp_f c18_10 hf
      refine lv_iinc (v := i3_7 + 1) (lv' := [(3, Value.int (i3_7 + 1)), (4, Value.int i4_7), (0, Value.ref (b n)), (2, Value.int a2)]) hx hb d_Vi_liveBetween_21 hl (k := 0) rfl (rfl) (by decide) rfl (fun ls hl => ?_)
      exact J24 (i3_7 + 1, i4_7) _ _ _ hf (lv_sub hl [0, 1, 2, 3] rfl) Y

def f_Vi_liveIn (X0 : gX) (n : Nat) (m1 : Option Nat) : Option (gR × gX) := gM m1 (fun n1 => (if gFile X0.N n1 then gM m1 (fun n3 => (if gFile X0.N n3 then gCi (f_Vi_liveBetween X0 n (X0.I n1 5) (X0.I n3 6)) (fun x5 X5 => some (gR.i x5, X5)) else none)) else none))
set_option maxHeartbeats 4000000 in
set_option maxRecDepth 100000 in
theorem K_Vi_liveIn (l : Launch) (htr : l.stackTraces = false) (D : va_G) (tys : List (ClassId × FieldType)) (z sz : Nat) (ws : va_W) (h : gm_M) (hM : gm_S h ws) (t : Nat → ClassId) (ht : gTy t tys) (b : Nat → Nat) (X0 : gX) (hw : gw D t b X0 h) (n : Nat) (hn : gVie n = true) (m1 : Option Nat) (o : gR × gX) (hf : f_Vi_liveIn X0 n m1 = some o) : gx_Met l y_Vi_liveIn [Cond.code y_Vi_liveIn b_Vi_liveIn 2 (some .int)] { frames := 2, cells := 0, slots := 0, locals := 36 } (gx_P z sz D classes tys ws [Value.ref (b n), va_rf (Option.map b m1)]) (gx_Q D classes tys (va_A ws sz) (gPo D t b X0 o)) (0) (0) (va_A ws sz) := by
  refine gx_ofW (cc := b_Vi_liveIn) (maxL := 2) (ret := (some .int)) (by decide) rfl ?_
  intro p e s m args below meth c s₁ B hml hv
  obtain ⟨rfl, hsz, hz, hP, hK, hD0, hY⟩ := hv
  have hx := B.exec
  have hb := B.bytes
  have hr := B.returns
  have hts := hY.hts (#[Value.ref (b n), va_rf (Option.map b m1)] : Array Value)
  have hown : s.vm.findClass "CommitLedger$View" = some m.cls := findClass_of_methodNamed B.named
  have hlocks := B.notSynchronized
  subst hsz
  have hAz := gx_az hD0 hz
  have hD := hD0.self (sz := s.heap.size)
  have hA : ∀ q : Nat, s.heap.size ≤ q → va_A ws s.heap.size q := fun q h => Or.inr h
  generalize va_A ws s.heap.size = A at hD hA hAz ⊢
  have Y : gy D t b A s.heap X0 X0 s.heap [] := ⟨h, ⟨ws, hM, hP, hD, va_S.rf⟩, hw, gEq.rf⟩
  clear hP hD hM hD0 hw
  obtain ⟨ht0, ht1, ht2, ht3, ht4, ht5, ht6, ht7, ht8⟩ := id ht
  have hl := lv_entry ([Value.ref (b n), va_rf (Option.map b m1)]) (n := 2) (by cases m1 <;> exact Nat.le_of_ble_eq_true rfl)
  rw [lg_entry_eq]
  generalize (lg_sl ([Value.ref (b n), va_rf (Option.map b m1)]) ++ List.replicate (2 - (lg_sl ([Value.ref (b n), va_rf (Option.map b m1)])).length) Slot.unset).toArray = ls at hl ⊢
  have hl : lv_has ls 2 [(0, Value.ref (b n)), (1, va_rf (Option.map b m1))] := by cases m1 <;> exact hl
  unfold f_Vi_liveIn at hf
  refine lv_aload_n hx hb d_Vi_liveIn_0 rfl (lv_at hl 0 rfl) ?_
  refine lv_aload_nO hx hb d_Vi_liveIn_1 rfl (lv_at hl 1 rfl) ?_
  obtain ⟨n6, e6, hf⟩ := gM_el hf
  refine W.eq (g2 := F0 m 2 ls [Value.ref (b n6), Value.ref (b n)]) (by rw [e6] <;> rfl) ?_
  obtain ⟨hv7, hf⟩ := gp_g hf
  refine gy_get (ci := 7) (v := Value.int (X0.I n6 5)) (C := "CommitLedger$LedgerFile") (T := F_Fi) (N := 7) hx hb hts i_Fi hown hK Y (gF_Fi hv7) rfl 5 (by decide) kf_Vi_45 rfl d_Vi_liveIn_2 ?_
  refine lv_aload_nO hx hb d_Vi_liveIn_5 rfl (lv_at hl 1 rfl) ?_
  obtain ⟨n8, e8, hf⟩ := gM_el hf
  refine W.eq (g2 := F0 m 6 ls [Value.ref (b n8), Value.int (X0.I n6 5), Value.ref (b n)]) (by rw [e8] <;> rfl) ?_
  obtain ⟨hv9, hf⟩ := gp_g hf
  refine gy_get (ci := 7) (v := Value.int (X0.I n8 6)) (C := "CommitLedger$LedgerFile") (T := F_Fi) (N := 7) hx hb hts i_Fi hown hK Y (gF_Fi hv9) rfl 6 (by decide) kf_Vi_48 rfl d_Vi_liveIn_6 ?_
  obtain ⟨x10, X10, hF10, hf⟩ := gCi_el hf
  refine gy_callI (rm := { frames := 1, cells := 0, slots := 0, locals := 12 }) (ig := .invokevirtual 51) (av := [Value.ref (b n), Value.int (X0.I n6 5), Value.int (X0.I n8 6)]) Y (fun ws h hS hw => K_Vi_liveBetween l htr D tys z _ ws h hS t ht b X0 hw n hn (X0.I n6 5) (X0.I n8 6) (gR.i x10, X10) hF10) (gx_invV (As := [Value.int (X0.I n6 5), Value.int (X0.I n8 6)]) (rest := []) hx hb hown hts km_Vi_51 kI_Vi_liveBetween kV_Vi_liveBetween kc_Vi_liveBetween (by decide) (show (parseMethodDescriptor y_Vi_liveBetween.desc).map (fun d => d.parameters.length) = some 2 by decide +kernel) (gy_recv (ci := 4) hK Y rfl (gF_Vi hn)) rfl rfl d_Vi_liveIn_9) (gx_cw (z := 0) hts kc_Vi_liveBetween kN_Vi rfl rfl ⟨Nat.le_of_ble_eq_true rfl, Nat.le_of_ble_eq_true rfl⟩) hb hml hz hK hY hAz hA hl.1 (lv_room (Nat.le_of_ble_eq_true rfl)) d_Vi_liveIn_9 ⟨Nat.zero_le _, Nat.zero_le _⟩ (fun H locs Y => ?_)
  exact gy_iret hf hx hb hr hlocks hK Y (Nat.zero_le _) (Nat.zero_le _) d_Vi_liveIn_12

def f_Vi_firstLive_2 (X : gX) (n : Nat) (i1 : Int32) (i2 : Int32) (i3 : Int32) : Option ((Int32) ⊕ (gR × gX)) := (if i2 ≤ i3 then gLf (some (gR.i i1, X)) else (if gIn i3 4096 then (if (X.I (n + 3) (gn i3)) = (0 : Int32) then some (Sum.inl (i3 + 1)) else gLf (some (gR.i i3, X))) else none))
def f_Vi_firstLive (X0 : gX) (n : Nat) (a1 : Int32) (a2 : Int32) : Option (gR × gX) := gI (fun s : Int32 => f_Vi_firstLive_2 X0 n a1 a2 s) gK a1
set_option maxHeartbeats 4000000 in
set_option maxRecDepth 100000 in
theorem K_Vi_firstLive (l : Launch) (htr : l.stackTraces = false) (D : va_G) (tys : List (ClassId × FieldType)) (z sz : Nat) (ws : va_W) (h : gm_M) (hM : gm_S h ws) (t : Nat → ClassId) (ht : gTy t tys) (b : Nat → Nat) (X0 : gX) (hw : gw D t b X0 h) (n : Nat) (hn : gVie n = true) (a1 : Int32) (a2 : Int32) (o : gR × gX) (hf : f_Vi_firstLive X0 n a1 a2 = some o) : gx_Met l y_Vi_firstLive [Cond.code y_Vi_firstLive b_Vi_firstLive 4 (some .int)] { frames := 1, cells := 0, slots := 0, locals := 12 } (gx_P z sz D classes tys ws [Value.ref (b n), Value.int a1, Value.int a2]) (gx_Q D classes tys (va_A ws sz) (gPo D t b X0 o)) (0) (0) (va_A ws sz) := by
  refine gx_ofW (cc := b_Vi_firstLive) (maxL := 4) (ret := (some .int)) (by decide) rfl ?_
  intro p e s m args below meth c s₁ B hml hv
  obtain ⟨rfl, hsz, hz, hP, hK, hD0, hY⟩ := hv
  have hx := B.exec
  have hb := B.bytes
  have hr := B.returns
  have hts := hY.hts (#[Value.ref (b n), Value.int a1, Value.int a2] : Array Value)
  have hown : s.vm.findClass "CommitLedger$View" = some m.cls := findClass_of_methodNamed B.named
  have hlocks := B.notSynchronized
  subst hsz
  have hAz := gx_az hD0 hz
  have hD := hD0.self (sz := s.heap.size)
  have hA : ∀ q : Nat, s.heap.size ≤ q → va_A ws s.heap.size q := fun q h => Or.inr h
  generalize va_A ws s.heap.size = A at hD hA hAz ⊢
  have Y : gy D t b A s.heap X0 X0 s.heap [] := ⟨h, ⟨ws, hM, hP, hD, va_S.rf⟩, hw, gEq.rf⟩
  clear hP hD hM hD0 hw
  obtain ⟨ht0, ht1, ht2, ht3, ht4, ht5, ht6, ht7, ht8⟩ := id ht
  have hl := lv_entry ([Value.ref (b n), Value.int a1, Value.int a2]) (n := 4) (Nat.le_of_ble_eq_true rfl)
  rw [lg_entry_eq]
  generalize (lg_sl ([Value.ref (b n), Value.int a1, Value.int a2]) ++ List.replicate (4 - (lg_sl ([Value.ref (b n), Value.int a1, Value.int a2])).length) Slot.unset).toArray = ls at hl ⊢
  have hl : lv_has ls 4 [(0, Value.ref (b n)), (1, Value.int a1), (2, Value.int a2)] := hl
  unfold f_Vi_firstLive at hf
  refine lv_iload_n hx hb d_Vi_firstLive_0 rfl (lv_at hl 1 rfl) ?_
  refine lv_istore_n (lv' := [(3, Value.int a1), (0, Value.ref (b n)), (1, Value.int a1), (2, Value.int a2)]) hx hb d_Vi_firstLive_1 rfl hl (by decide) rfl (fun ls hl => ?_)
  refine gy_iter (fun s : Int32 => X0) (fun (s : Int32) ls => lv_has ls 4 [(3, Value.int s), (0, Value.ref (b n)), (1, Value.int a1), (2, Value.int a2)]) ?_ gK a1 _ _ _ hf (lv_sub hl [0, 1, 2, 3] rfl) Y
  rintro i3_6 u6 H locs ls hf hl Y hk6 ho6
  have hl : lv_has ls 4 [(3, Value.int i3_6), (0, Value.ref (b n)), (1, Value.int a1), (2, Value.int a2)] := hl
  have Y : gy D t b A s.heap X0 X0 H locs := Y
  have hf : f_Vi_firstLive_2 X0 n a1 a2 i3_6 = some u6 := hf
  unfold f_Vi_firstLive_2 at hf
  refine lv_iload_n hx hb d_Vi_firstLive_2 rfl (lv_at hl 0 rfl) ?_
  refine lv_iload_n hx hb d_Vi_firstLive_3 rfl (lv_at hl 3 rfl) ?_
  refine lv_icmp_ge (tgt := 24) hx hb d_Vi_firstLive_4 (by decide) (fun c4_7 => ?_) (fun c4_7 => ?_)
  · replace hf := gp_t c4_7 hf
    refine lv_iload_n hx hb d_Vi_firstLive_24 rfl (lv_at hl 2 rfl) ?_
    replace hf := gU hf ho6
    exact gy_iret hf hx hb hr hlocks hK Y (Nat.zero_le _) (Nat.zero_le _) d_Vi_firstLive_25
  · replace hf := gp_f c4_7 hf
    refine lv_aload_n hx hb d_Vi_firstLive_7 rfl (lv_at hl 1 rfl) ?_
    refine gy_get (ci := 4) (v := Value.ref (b (n + 3))) (C := "CommitLedger$View") (T := F_Vi) (N := 6) hx hb hts i_Vi hown hK Y (gF_Vi hn) rfl 2 (by decide) kf_Vi_20 rfl d_Vi_firstLive_8 ?_
    refine lv_iload_n hx hb d_Vi_firstLive_11 rfl (lv_at hl 0 rfl) ?_
    refine gy_zald hf hx hb hK Y 1 (fun _ => (gF_Vi3 hn)) ht1 d_Vi_firstLive_12 (fun _ hf => ?_)
    refine lv_if_eq (tgt := 18) hx hb d_Vi_firstLive_13 (by decide) (fun c13_8 => ?_) (fun c13_8 => ?_)
    · replace hf := gp_t c13_8 hf
      refine lv_iinc (v := i3_6 + 1) (lv' := [(3, Value.int (i3_6 + 1)), (0, Value.ref (b n)), (1, Value.int a1), (2, Value.int a2)]) hx hb d_Vi_firstLive_18 hl (k := 0) rfl (rfl) (by decide) rfl (fun ls hl => ?_)
      refine lv_goto (tgt := 2) hx hb d_Vi_firstLive_21 (by decide) ?_
      exact hk6 _ _ _ _ hf (lv_sub hl [0, 1, 2, 3] rfl) Y
    · replace hf := gp_f c13_8 hf
      refine lv_iload_n hx hb d_Vi_firstLive_16 rfl (lv_at hl 0 rfl) ?_
      replace hf := gU hf ho6
      exact gy_iret hf hx hb hr hlocks hK Y (Nat.zero_le _) (Nat.zero_le _) d_Vi_firstLive_17

def f_Vi_copyFrom_58 (X : gX) (n : Nat) (m1 : Nat) (i2 : Int32) : Option ((gX × Int32) ⊕ (gR × gX)) := (if (4096 : Int32) ≤ i2 then gLf (some (gR.v, X)) else (if gIn i2 4096 then (if gIn i2 4096 then gB (X.w (n + 3) (gn i2) (vp_nar .boolean (X.I (m1 + 3) (gn i2)))) (fun X7 => some (Sum.inl (X7, i2 + 1))) else none) else none))
def f_Vi_copyFrom_18 (X : gX) (n : Nat) (m1 : Nat) (i2 : Int32) : Option ((gX × Int32) ⊕ (gR × gX)) := (if (X.I n 4) ≤ i2 then gLf (gI (fun s : gX × Int32 => f_Vi_copyFrom_58 s.1 n m1 s.2) gK (X, 0)) else (if gIn i2 4096 then (if gIn i2 4096 then (if gOf X.N (X.G (m1 + 1) (gn i2)) then gB (X.g (n + 1) (gn i2) (X.G (m1 + 1) (gn i2))) (fun X10 => (if gIn i2 4096 then (if gIn i2 4096 then (if gOf X10.N (X10.G (m1 + 2) (gn i2)) then gB (X10.g (n + 2) (gn i2) (X10.G (m1 + 2) (gn i2))) (fun X11 => some (Sum.inl (X11, i2 + 1))) else none) else none) else none)) else none) else none) else none))
def f_Vi_copyFrom (X0 : gX) (n : Nat) (m1 : Nat) : Option (gR × gX) := gB (X0.w n 4 (X0.I m1 4)) (fun X1 => gB (X1.w n 5 (X1.I m1 5)) (fun X2 => gI (fun s : gX × Int32 => f_Vi_copyFrom_18 s.1 n m1 s.2) gK (X2, 0)))
set_option maxHeartbeats 4000000 in
set_option maxRecDepth 100000 in
theorem K_Vi_copyFrom (l : Launch) (htr : l.stackTraces = false) (D : va_G) (tys : List (ClassId × FieldType)) (z sz : Nat) (ws : va_W) (h : gm_M) (hM : gm_S h ws) (t : Nat → ClassId) (ht : gTy t tys) (b : Nat → Nat) (X0 : gX) (hw : gw D t b X0 h) (n : Nat) (hn : gVie n = true) (m1 : Nat) (hm1 : gVie m1 = true) (o : gR × gX) (hf : f_Vi_copyFrom X0 n m1 = some o) : gx_Met l y_Vi_copyFrom [Cond.code y_Vi_copyFrom b_Vi_copyFrom 3 none] { frames := 1, cells := 0, slots := 0, locals := 12 } (gx_P z sz D classes tys ws [Value.ref (b n), Value.ref (b m1)]) (gx_Q D classes tys (va_A ws sz) (gPo D t b X0 o)) (0) (0) (va_A ws sz) := by
  refine gx_ofW (cc := b_Vi_copyFrom) (maxL := 3) (ret := none) (by decide) rfl ?_
  intro p e s m args below meth c s₁ B hml hv
  obtain ⟨rfl, hsz, hz, hP, hK, hD0, hY⟩ := hv
  have hx := B.exec
  have hb := B.bytes
  have hr := B.returns
  have hts := hY.hts (#[Value.ref (b n), Value.ref (b m1)] : Array Value)
  have hown : s.vm.findClass "CommitLedger$View" = some m.cls := findClass_of_methodNamed B.named
  have hlocks := B.notSynchronized
  subst hsz
  have hAz := gx_az hD0 hz
  have hD := hD0.self (sz := s.heap.size)
  have hA : ∀ q : Nat, s.heap.size ≤ q → va_A ws s.heap.size q := fun q h => Or.inr h
  generalize va_A ws s.heap.size = A at hD hA hAz ⊢
  have Y : gy D t b A s.heap X0 X0 s.heap [] := ⟨h, ⟨ws, hM, hP, hD, va_S.rf⟩, hw, gEq.rf⟩
  clear hP hD hM hD0 hw
  obtain ⟨ht0, ht1, ht2, ht3, ht4, ht5, ht6, ht7, ht8⟩ := id ht
  have hl := lv_entry ([Value.ref (b n), Value.ref (b m1)]) (n := 3) (Nat.le_of_ble_eq_true rfl)
  rw [lg_entry_eq]
  generalize (lg_sl ([Value.ref (b n), Value.ref (b m1)]) ++ List.replicate (3 - (lg_sl ([Value.ref (b n), Value.ref (b m1)])).length) Slot.unset).toArray = ls at hl ⊢
  have hl : lv_has ls 3 [(0, Value.ref (b n)), (1, Value.ref (b m1))] := hl
  unfold f_Vi_copyFrom at hf
  refine lv_aload_n hx hb d_Vi_copyFrom_0 rfl (lv_at hl 0 rfl) ?_
  refine lv_aload_n hx hb d_Vi_copyFrom_1 rfl (lv_at hl 1 rfl) ?_
  refine gy_get (ci := 4) (v := Value.int (X0.I m1 4)) (C := "CommitLedger$View") (T := F_Vi) (N := 6) hx hb hts i_Vi hown hK Y (gF_Vi hm1) rfl 4 (by decide) kf_Vi_24 rfl d_Vi_copyFrom_2 ?_
  refine gy_put hf (ci := 4) (ty := .int) (C := "CommitLedger$View") (T := F_Vi) (N := 6) hx hb hts i_Vi t_Vi_ok n_Vi hown hK Y (gF_Vi hn) rfl (by decide) kf_Vi_24 rfl (by decide +kernel) rfl rfl (Nat.le_of_ble_eq_true rfl) (gF_Vi hn) d_Vi_copyFrom_5 (fun X18 H locs hf Y => ?_)
  refine lv_aload_n hx hb d_Vi_copyFrom_8 rfl (lv_at hl 0 rfl) ?_
  refine lv_aload_n hx hb d_Vi_copyFrom_9 rfl (lv_at hl 1 rfl) ?_
  refine gy_get (ci := 4) (v := Value.int (X18.I m1 5)) (C := "CommitLedger$View") (T := F_Vi) (N := 6) hx hb hts i_Vi hown hK Y (gF_Vi hm1) rfl 5 (by decide) kf_Vi_28 rfl d_Vi_copyFrom_10 ?_
  refine gy_put hf (ci := 4) (ty := .int) (C := "CommitLedger$View") (T := F_Vi) (N := 6) hx hb hts i_Vi t_Vi_ok n_Vi hown hK Y (gF_Vi hn) rfl (by decide) kf_Vi_28 rfl (by decide +kernel) rfl rfl (Nat.le_of_ble_eq_true rfl) (gF_Vi hn) d_Vi_copyFrom_13 (fun X19 H locs hf Y => ?_)
  refine lv_iconst (v := 0) hx hb d_Vi_copyFrom_16 (by decide) ?_
  refine lv_istore_n (lv' := [(2, Value.int 0), (0, Value.ref (b n)), (1, Value.ref (b m1))]) hx hb d_Vi_copyFrom_17 rfl hl (by decide) rfl (fun ls hl => ?_)
  refine gy_iter (fun s : gX × Int32 => s.1) (fun (s : gX × Int32) ls => lv_has ls 3 [(2, Value.int s.2), (0, Value.ref (b n)), (1, Value.ref (b m1))]) ?_ gK (X19, 0) _ _ _ hf (lv_sub hl [0, 1, 2] rfl) Y
  rintro ⟨X20, i2_20⟩ u20 H locs ls hf hl Y hk20 ho20
  have hl : lv_has ls 3 [(2, Value.int i2_20), (0, Value.ref (b n)), (1, Value.ref (b m1))] := hl
  have Y : gy D t b A s.heap X0 X20 H locs := Y
  have hf : f_Vi_copyFrom_18 X20 n m1 i2_20 = some u20 := hf
  unfold f_Vi_copyFrom_18 at hf
  refine lv_iload_n hx hb d_Vi_copyFrom_18 rfl (lv_at hl 0 rfl) ?_
  refine lv_aload_n hx hb d_Vi_copyFrom_19 rfl (lv_at hl 1 rfl) ?_
  refine gy_get (ci := 4) (v := Value.int (X20.I n 4)) (C := "CommitLedger$View") (T := F_Vi) (N := 6) hx hb hts i_Vi hown hK Y (gF_Vi hn) rfl 4 (by decide) kf_Vi_24 rfl d_Vi_copyFrom_20 ?_
  refine lv_icmp_ge (tgt := 56) hx hb d_Vi_copyFrom_23 (by decide) (fun c23_21 => ?_) (fun c23_21 => ?_)
  · replace hf := gp_t c23_21 hf
    refine lv_iconst (v := 0) hx hb d_Vi_copyFrom_56 (by decide) ?_
    refine lv_istore_n (lv' := [(2, Value.int 0), (0, Value.ref (b n)), (1, Value.ref (b m1))]) hx hb d_Vi_copyFrom_57 rfl hl (by decide) rfl (fun ls hl => ?_)
    replace hf := gU hf ho20
    refine gy_iter (fun s : gX × Int32 => s.1) (fun (s : gX × Int32) ls => lv_has ls 3 [(2, Value.int s.2), (0, Value.ref (b n)), (1, Value.ref (b m1))]) ?_ gK (X20, 0) _ _ _ hf (lv_sub hl [0, 1, 2] rfl) Y
    rintro ⟨X22, i2_22⟩ u22 H locs ls hf hl Y hk22 ho22
    have hl : lv_has ls 3 [(2, Value.int i2_22), (0, Value.ref (b n)), (1, Value.ref (b m1))] := hl
    have Y : gy D t b A s.heap X0 X22 H locs := Y
    have hf : f_Vi_copyFrom_58 X22 n m1 i2_22 = some u22 := hf
    unfold f_Vi_copyFrom_58 at hf
    refine lv_iload_n hx hb d_Vi_copyFrom_58 rfl (lv_at hl 0 rfl) ?_
    refine lv_sipush (v := 4096) hx hb d_Vi_copyFrom_59 (by decide) ?_
    refine lv_icmp_ge (tgt := 83) hx hb d_Vi_copyFrom_62 (by decide) (fun c62_23 => ?_) (fun c62_23 => ?_)
    · replace hf := gp_t c62_23 hf
      replace hf := gU hf ho22
      exact gy_vret hf hx hb hr hlocks hK Y (Nat.zero_le _) (Nat.zero_le _) d_Vi_copyFrom_83
    · replace hf := gp_f c62_23 hf
      refine lv_aload_n hx hb d_Vi_copyFrom_65 rfl (lv_at hl 1 rfl) ?_
      refine gy_get (ci := 4) (v := Value.ref (b (n + 3))) (C := "CommitLedger$View") (T := F_Vi) (N := 6) hx hb hts i_Vi hown hK Y (gF_Vi hn) rfl 2 (by decide) kf_Vi_20 rfl d_Vi_copyFrom_66 ?_
      refine lv_iload_n hx hb d_Vi_copyFrom_69 rfl (lv_at hl 0 rfl) ?_
      refine lv_aload_n hx hb d_Vi_copyFrom_70 rfl (lv_at hl 2 rfl) ?_
      refine gy_get (ci := 4) (v := Value.ref (b (m1 + 3))) (C := "CommitLedger$View") (T := F_Vi) (N := 6) hx hb hts i_Vi hown hK Y (gF_Vi hm1) rfl 2 (by decide) kf_Vi_20 rfl d_Vi_copyFrom_71 ?_
      refine lv_iload_n hx hb d_Vi_copyFrom_74 rfl (lv_at hl 0 rfl) ?_
      refine gy_zald hf hx hb hK Y 1 (fun _ => (gF_Vi3 hm1)) ht1 d_Vi_copyFrom_75 (fun _ hf => ?_)
      refine gy_zast hf hx hb hK Y 1 (fun _ => (gF_Vi3 hn)) ht1 d_Vi_copyFrom_76 (fun X24 H locs hf Y => ?_)
      refine lv_iinc (v := i2_22 + 1) (lv' := [(2, Value.int (i2_22 + 1)), (0, Value.ref (b n)), (1, Value.ref (b m1))]) hx hb d_Vi_copyFrom_77 hl (k := 0) rfl (rfl) (by decide) rfl (fun ls hl => ?_)
      refine lv_goto (tgt := 58) hx hb d_Vi_copyFrom_80 (by decide) ?_
      exact hk22 _ _ _ _ hf (lv_sub hl [0, 1, 2] rfl) Y
  · replace hf := gp_f c23_21 hf
    refine lv_aload_n hx hb d_Vi_copyFrom_26 rfl (lv_at hl 1 rfl) ?_
    refine gy_get (ci := 4) (v := Value.ref (b (n + 1))) (C := "CommitLedger$View") (T := F_Vi) (N := 6) hx hb hts i_Vi hown hK Y (gF_Vi hn) rfl 0 (by decide) kf_Vi_11 rfl d_Vi_copyFrom_27 ?_
    refine lv_iload_n hx hb d_Vi_copyFrom_30 rfl (lv_at hl 0 rfl) ?_
    refine lv_aload_n hx hb d_Vi_copyFrom_31 rfl (lv_at hl 2 rfl) ?_
    refine gy_get (ci := 4) (v := Value.ref (b (m1 + 1))) (C := "CommitLedger$View") (T := F_Vi) (N := 6) hx hb hts i_Vi hown hK Y (gF_Vi hm1) rfl 0 (by decide) kf_Vi_11 rfl d_Vi_copyFrom_32 ?_
    refine lv_iload_n hx hb d_Vi_copyFrom_35 rfl (lv_at hl 0 rfl) ?_
    refine gy_aald hf hx hb hK Y 2 (gF_Vi1 hm1) ht2 d_Vi_copyFrom_36 (fun hf => ?_)
    refine gy_aast (x := (X20.G (m1 + 1) (gn i2_20))) hf hx hb hK Y 2 7 (fun _ => (gF_Vi1 hn)) ht2 (fun h9 v e9 => by rw [e9] at h9; exact ⟨⟨_, gF_Fi h9⟩, gFile.nm h9⟩) rfl d_Vi_copyFrom_37 (fun X25 H locs hf Y => ?_)
    refine lv_aload_n hx hb d_Vi_copyFrom_38 rfl (lv_at hl 1 rfl) ?_
    refine gy_get (ci := 4) (v := Value.ref (b (n + 2))) (C := "CommitLedger$View") (T := F_Vi) (N := 6) hx hb hts i_Vi hown hK Y (gF_Vi hn) rfl 1 (by decide) kf_Vi_17 rfl d_Vi_copyFrom_39 ?_
    refine lv_iload_n hx hb d_Vi_copyFrom_42 rfl (lv_at hl 0 rfl) ?_
    refine lv_aload_n hx hb d_Vi_copyFrom_43 rfl (lv_at hl 2 rfl) ?_
    refine gy_get (ci := 4) (v := Value.ref (b (m1 + 2))) (C := "CommitLedger$View") (T := F_Vi) (N := 6) hx hb hts i_Vi hown hK Y (gF_Vi hm1) rfl 1 (by decide) kf_Vi_17 rfl d_Vi_copyFrom_44 ?_
    refine lv_iload_n hx hb d_Vi_copyFrom_47 rfl (lv_at hl 0 rfl) ?_
    refine gy_aald hf hx hb hK Y 2 (gF_Vi2 hm1) ht2 d_Vi_copyFrom_48 (fun hf => ?_)
    refine gy_aast (x := (X25.G (m1 + 2) (gn i2_20))) hf hx hb hK Y 2 7 (fun _ => (gF_Vi2 hn)) ht2 (fun h9 v e9 => by rw [e9] at h9; exact ⟨⟨_, gF_Fi h9⟩, gFile.nm h9⟩) rfl d_Vi_copyFrom_49 (fun X26 H locs hf Y => ?_)
    refine lv_iinc (v := i2_20 + 1) (lv' := [(2, Value.int (i2_20 + 1)), (0, Value.ref (b n)), (1, Value.ref (b m1))]) hx hb d_Vi_copyFrom_50 hl (k := 0) rfl (rfl) (by decide) rfl (fun ls hl => ?_)
    refine lv_goto (tgt := 18) hx hb d_Vi_copyFrom_53 (by decide) ?_
    exact hk20 _ _ _ _ hf (lv_sub hl [0, 1, 2] rfl) Y

def f_Vi_becomeEmpty_12 (X : gX) (n : Nat) (i1 : Int32) : Option ((gX × Int32) ⊕ (gR × gX)) := (if (4096 : Int32) ≤ i1 then gLf (some (gR.v, X)) else (if gIn i1 4096 then gB (X.w (n + 3) (gn i1) (vp_nar .boolean 0)) (fun X5 => some (Sum.inl (X5, i1 + 1))) else none))
def f_Vi_becomeEmpty (X0 : gX) (n : Nat) : Option (gR × gX) := gB (X0.w n 4 0) (fun X1 => gB (X1.w n 5 0) (fun X2 => gI (fun s : gX × Int32 => f_Vi_becomeEmpty_12 s.1 n s.2) gK (X2, 0)))
set_option maxHeartbeats 4000000 in
set_option maxRecDepth 100000 in
theorem K_Vi_becomeEmpty (l : Launch) (htr : l.stackTraces = false) (D : va_G) (tys : List (ClassId × FieldType)) (z sz : Nat) (ws : va_W) (h : gm_M) (hM : gm_S h ws) (t : Nat → ClassId) (ht : gTy t tys) (b : Nat → Nat) (X0 : gX) (hw : gw D t b X0 h) (n : Nat) (hn : gVie n = true) (o : gR × gX) (hf : f_Vi_becomeEmpty X0 n = some o) : gx_Met l y_Vi_becomeEmpty [Cond.code y_Vi_becomeEmpty b_Vi_becomeEmpty 2 none] { frames := 1, cells := 0, slots := 0, locals := 12 } (gx_P z sz D classes tys ws [Value.ref (b n)]) (gx_Q D classes tys (va_A ws sz) (gPo D t b X0 o)) (0) (0) (va_A ws sz) := by
  refine gx_ofW (cc := b_Vi_becomeEmpty) (maxL := 2) (ret := none) (by decide) rfl ?_
  intro p e s m args below meth c s₁ B hml hv
  obtain ⟨rfl, hsz, hz, hP, hK, hD0, hY⟩ := hv
  have hx := B.exec
  have hb := B.bytes
  have hr := B.returns
  have hts := hY.hts (#[Value.ref (b n)] : Array Value)
  have hown : s.vm.findClass "CommitLedger$View" = some m.cls := findClass_of_methodNamed B.named
  have hlocks := B.notSynchronized
  subst hsz
  have hAz := gx_az hD0 hz
  have hD := hD0.self (sz := s.heap.size)
  have hA : ∀ q : Nat, s.heap.size ≤ q → va_A ws s.heap.size q := fun q h => Or.inr h
  generalize va_A ws s.heap.size = A at hD hA hAz ⊢
  have Y : gy D t b A s.heap X0 X0 s.heap [] := ⟨h, ⟨ws, hM, hP, hD, va_S.rf⟩, hw, gEq.rf⟩
  clear hP hD hM hD0 hw
  obtain ⟨ht0, ht1, ht2, ht3, ht4, ht5, ht6, ht7, ht8⟩ := id ht
  have hl := lv_entry ([Value.ref (b n)]) (n := 2) (Nat.le_of_ble_eq_true rfl)
  rw [lg_entry_eq]
  generalize (lg_sl ([Value.ref (b n)]) ++ List.replicate (2 - (lg_sl ([Value.ref (b n)])).length) Slot.unset).toArray = ls at hl ⊢
  have hl : lv_has ls 2 [(0, Value.ref (b n))] := hl
  unfold f_Vi_becomeEmpty at hf
  refine lv_aload_n hx hb d_Vi_becomeEmpty_0 rfl (lv_at hl 0 rfl) ?_
  refine lv_iconst (v := 0) hx hb d_Vi_becomeEmpty_1 (by decide) ?_
  refine gy_put hf (ci := 4) (ty := .int) (C := "CommitLedger$View") (T := F_Vi) (N := 6) hx hb hts i_Vi t_Vi_ok n_Vi hown hK Y (gF_Vi hn) rfl (by decide) kf_Vi_24 rfl (by decide +kernel) rfl rfl (Nat.le_of_ble_eq_true rfl) (gF_Vi hn) d_Vi_becomeEmpty_2 (fun X8 H locs hf Y => ?_)
  refine lv_aload_n hx hb d_Vi_becomeEmpty_5 rfl (lv_at hl 0 rfl) ?_
  refine lv_iconst (v := 0) hx hb d_Vi_becomeEmpty_6 (by decide) ?_
  refine gy_put hf (ci := 4) (ty := .int) (C := "CommitLedger$View") (T := F_Vi) (N := 6) hx hb hts i_Vi t_Vi_ok n_Vi hown hK Y (gF_Vi hn) rfl (by decide) kf_Vi_28 rfl (by decide +kernel) rfl rfl (Nat.le_of_ble_eq_true rfl) (gF_Vi hn) d_Vi_becomeEmpty_7 (fun X9 H locs hf Y => ?_)
  refine lv_iconst (v := 0) hx hb d_Vi_becomeEmpty_10 (by decide) ?_
  refine lv_istore_n (lv' := [(1, Value.int 0), (0, Value.ref (b n))]) hx hb d_Vi_becomeEmpty_11 rfl hl (by decide) rfl (fun ls hl => ?_)
  refine gy_iter (fun s : gX × Int32 => s.1) (fun (s : gX × Int32) ls => lv_has ls 2 [(1, Value.int s.2), (0, Value.ref (b n))]) ?_ gK (X9, 0) _ _ _ hf (lv_sub hl [0, 1] rfl) Y
  rintro ⟨X10, i1_10⟩ u10 H locs ls hf hl Y hk10 ho10
  have hl : lv_has ls 2 [(1, Value.int i1_10), (0, Value.ref (b n))] := hl
  have Y : gy D t b A s.heap X0 X10 H locs := Y
  have hf : f_Vi_becomeEmpty_12 X10 n i1_10 = some u10 := hf
  unfold f_Vi_becomeEmpty_12 at hf
  refine lv_iload_n hx hb d_Vi_becomeEmpty_12 rfl (lv_at hl 0 rfl) ?_
  refine lv_sipush (v := 4096) hx hb d_Vi_becomeEmpty_13 (by decide) ?_
  refine lv_icmp_ge (tgt := 32) hx hb d_Vi_becomeEmpty_16 (by decide) (fun c16_11 => ?_) (fun c16_11 => ?_)
  · replace hf := gp_t c16_11 hf
    replace hf := gU hf ho10
    exact gy_vret hf hx hb hr hlocks hK Y (Nat.zero_le _) (Nat.zero_le _) d_Vi_becomeEmpty_32
  · replace hf := gp_f c16_11 hf
    refine lv_aload_n hx hb d_Vi_becomeEmpty_19 rfl (lv_at hl 1 rfl) ?_
    refine gy_get (ci := 4) (v := Value.ref (b (n + 3))) (C := "CommitLedger$View") (T := F_Vi) (N := 6) hx hb hts i_Vi hown hK Y (gF_Vi hn) rfl 2 (by decide) kf_Vi_20 rfl d_Vi_becomeEmpty_20 ?_
    refine lv_iload_n hx hb d_Vi_becomeEmpty_23 rfl (lv_at hl 0 rfl) ?_
    refine lv_iconst (v := 0) hx hb d_Vi_becomeEmpty_24 (by decide) ?_
    refine gy_zast hf hx hb hK Y 1 (fun _ => (gF_Vi3 hn)) ht1 d_Vi_becomeEmpty_25 (fun X12 H locs hf Y => ?_)
    refine lv_iinc (v := i1_10 + 1) (lv' := [(1, Value.int (i1_10 + 1)), (0, Value.ref (b n))]) hx hb d_Vi_becomeEmpty_26 hl (k := 0) rfl (rfl) (by decide) rfl (fun ls hl => ?_)
    refine lv_goto (tgt := 12) hx hb d_Vi_becomeEmpty_29 (by decide) ?_
    exact hk10 _ _ _ _ hf (lv_sub hl [0, 1] rfl) Y

def f_Vi_isSameAs_22 (X : gX) (n : Nat) (m1 : Nat) : Option (gR × gX) := some (gR.i 0, X)
def f_Vi_isSameAs_59 (X : gX) (n : Nat) (m1 : Nat) (i2 : Int32) : Option ((Int32) ⊕ (gR × gX)) := (if (4096 : Int32) ≤ i2 then gLf (some (gR.i 1, X)) else (if gIn i2 4096 then (if gIn i2 4096 then (if (X.I (n + 3) (gn i2)) = (X.I (m1 + 3) (gn i2)) then some (Sum.inl (i2 + 1)) else gLf (some (gR.i 0, X))) else none) else none))
def f_Vi_isSameAs_26 (X : gX) (n : Nat) (m1 : Nat) (i2 : Int32) : Option ((Int32) ⊕ (gR × gX)) := (if (X.I n 4) ≤ i2 then gLf (gI (fun s : Int32 => f_Vi_isSameAs_59 X n m1 s) gK 0) else (if gIn i2 4096 then (if gIn i2 4096 then (if (gOf X.N (X.G (n + 1) (gn i2)) && gOf X.N (X.G (m1 + 1) (gn i2))) then (if (X.G (n + 1) (gn i2)) = (X.G (m1 + 1) (gn i2)) then some (Sum.inl (i2 + 1)) else gLf (some (gR.i 0, X))) else none) else none) else none))
def f_Vi_isSameAs (X0 : gX) (n : Nat) (m1 : Nat) : Option (gR × gX) := (if (X0.I n 4) = (X0.I m1 4) then (if (X0.I n 5) = (X0.I m1 5) then gI (fun s : Int32 => f_Vi_isSameAs_26 X0 n m1 s) gK 0 else f_Vi_isSameAs_22 X0 n m1) else f_Vi_isSameAs_22 X0 n m1)
set_option maxHeartbeats 4000000 in
set_option maxRecDepth 100000 in
theorem K_Vi_isSameAs (l : Launch) (htr : l.stackTraces = false) (D : va_G) (tys : List (ClassId × FieldType)) (z sz : Nat) (ws : va_W) (h : gm_M) (hM : gm_S h ws) (t : Nat → ClassId) (ht : gTy t tys) (b : Nat → Nat) (X0 : gX) (hw : gw D t b X0 h) (n : Nat) (hn : gVie n = true) (m1 : Nat) (hm1 : gVie m1 = true) (o : gR × gX) (hf : f_Vi_isSameAs X0 n m1 = some o) : gx_Met l y_Vi_isSameAs [Cond.code y_Vi_isSameAs b_Vi_isSameAs 3 (some .boolean)] { frames := 1, cells := 0, slots := 0, locals := 12 } (gx_P z sz D classes tys ws [Value.ref (b n), Value.ref (b m1)]) (gx_Q D classes tys (va_A ws sz) (gPo D t b X0 o)) (0) (0) (va_A ws sz) := by
  refine gx_ofW (cc := b_Vi_isSameAs) (maxL := 3) (ret := (some .boolean)) (by decide) rfl ?_
  intro p e s m args below meth c s₁ B hml hv
  obtain ⟨rfl, hsz, hz, hP, hK, hD0, hY⟩ := hv
  have hx := B.exec
  have hb := B.bytes
  have hr := B.returns
  have hts := hY.hts (#[Value.ref (b n), Value.ref (b m1)] : Array Value)
  have hown : s.vm.findClass "CommitLedger$View" = some m.cls := findClass_of_methodNamed B.named
  have hlocks := B.notSynchronized
  subst hsz
  have hAz := gx_az hD0 hz
  have hD := hD0.self (sz := s.heap.size)
  have hA : ∀ q : Nat, s.heap.size ≤ q → va_A ws s.heap.size q := fun q h => Or.inr h
  generalize va_A ws s.heap.size = A at hD hA hAz ⊢
  have Y : gy D t b A s.heap X0 X0 s.heap [] := ⟨h, ⟨ws, hM, hP, hD, va_S.rf⟩, hw, gEq.rf⟩
  clear hP hD hM hD0 hw
  obtain ⟨ht0, ht1, ht2, ht3, ht4, ht5, ht6, ht7, ht8⟩ := id ht
  have hl := lv_entry ([Value.ref (b n), Value.ref (b m1)]) (n := 3) (Nat.le_of_ble_eq_true rfl)
  rw [lg_entry_eq]
  generalize (lg_sl ([Value.ref (b n), Value.ref (b m1)]) ++ List.replicate (3 - (lg_sl ([Value.ref (b n), Value.ref (b m1)])).length) Slot.unset).toArray = ls at hl ⊢
  have hl : lv_has ls 3 [(0, Value.ref (b n)), (1, Value.ref (b m1))] := hl
  refine gy_cut (pcJ := 22) Y (fun s : Unit => f_Vi_isSameAs_22 X0 n m1) o (fun s => X0) (fun s ls => lv_has ls 3 []) (fun s => []) ?_ (fun J22 => ?_)
  · rintro _ H locs ls hf hl Y
    have hl : lv_has ls 3 [] := hl
    have Y : gy D t b A s.heap X0 X0 H locs := Y
    have hf : f_Vi_isSameAs_22 X0 n m1 = some o := hf
    unfold f_Vi_isSameAs_22 at hf
    refine lv_iconst (v := 0) hx hb d_Vi_isSameAs_22 (by decide) ?_
    exact gy_zret hf hx hb hr hlocks hK Y (Nat.zero_le _) (Nat.zero_le _) rfl d_Vi_isSameAs_23
  unfold f_Vi_isSameAs at hf
  refine lv_aload_n hx hb d_Vi_isSameAs_0 rfl (lv_at hl 0 rfl) ?_
  refine gy_get (ci := 4) (v := Value.int (X0.I n 4)) (C := "CommitLedger$View") (T := F_Vi) (N := 6) hx hb hts i_Vi hown hK Y (gF_Vi hn) rfl 4 (by decide) kf_Vi_24 rfl d_Vi_isSameAs_1 ?_
  refine lv_aload_n hx hb d_Vi_isSameAs_4 rfl (lv_at hl 1 rfl) ?_
  refine gy_get (ci := 4) (v := Value.int (X0.I m1 4)) (C := "CommitLedger$View") (T := F_Vi) (N := 6) hx hb hts i_Vi hown hK Y (gF_Vi hm1) rfl 4 (by decide) kf_Vi_24 rfl d_Vi_isSameAs_5 ?_
  refine lv_icmp_ne (tgt := 22) hx hb d_Vi_isSameAs_8 (by decide) (fun c8_15 => ?_) (fun c8_15 => ?_)
  · replace hf := gp_f c8_15 hf
    exact J22 () _ _ _ hf (lv_sub hl [] rfl) Y
  · replace hf := gp_t c8_15 hf
    refine lv_aload_n hx hb d_Vi_isSameAs_11 rfl (lv_at hl 0 rfl) ?_
    refine gy_get (ci := 4) (v := Value.int (X0.I n 5)) (C := "CommitLedger$View") (T := F_Vi) (N := 6) hx hb hts i_Vi hown hK Y (gF_Vi hn) rfl 5 (by decide) kf_Vi_28 rfl d_Vi_isSameAs_12 ?_
    refine lv_aload_n hx hb d_Vi_isSameAs_15 rfl (lv_at hl 1 rfl) ?_
    refine gy_get (ci := 4) (v := Value.int (X0.I m1 5)) (C := "CommitLedger$View") (T := F_Vi) (N := 6) hx hb hts i_Vi hown hK Y (gF_Vi hm1) rfl 5 (by decide) kf_Vi_28 rfl d_Vi_isSameAs_16 ?_
    refine lv_icmp_eq (tgt := 24) hx hb d_Vi_isSameAs_19 (by decide) (fun c19_16 => ?_) (fun c19_16 => ?_)
    · replace hf := gp_t c19_16 hf
      refine lv_iconst (v := 0) hx hb d_Vi_isSameAs_24 (by decide) ?_
      refine lv_istore_n (lv' := [(2, Value.int 0), (0, Value.ref (b n)), (1, Value.ref (b m1))]) hx hb d_Vi_isSameAs_25 rfl hl (by decide) rfl (fun ls hl => ?_)
      refine gy_iter (fun s : Int32 => X0) (fun (s : Int32) ls => lv_has ls 3 [(2, Value.int s), (0, Value.ref (b n)), (1, Value.ref (b m1))]) ?_ gK 0 _ _ _ hf (lv_sub hl [0, 1, 2] rfl) Y
      rintro i2_17 u17 H locs ls hf hl Y hk17 ho17
      have hl : lv_has ls 3 [(2, Value.int i2_17), (0, Value.ref (b n)), (1, Value.ref (b m1))] := hl
      have Y : gy D t b A s.heap X0 X0 H locs := Y
      have hf : f_Vi_isSameAs_26 X0 n m1 i2_17 = some u17 := hf
      unfold f_Vi_isSameAs_26 at hf
      refine lv_iload_n hx hb d_Vi_isSameAs_26 rfl (lv_at hl 0 rfl) ?_
      refine lv_aload_n hx hb d_Vi_isSameAs_27 rfl (lv_at hl 1 rfl) ?_
      refine gy_get (ci := 4) (v := Value.int (X0.I n 4)) (C := "CommitLedger$View") (T := F_Vi) (N := 6) hx hb hts i_Vi hown hK Y (gF_Vi hn) rfl 4 (by decide) kf_Vi_24 rfl d_Vi_isSameAs_28 ?_
      refine lv_icmp_ge (tgt := 57) hx hb d_Vi_isSameAs_31 (by decide) (fun c31_18 => ?_) (fun c31_18 => ?_)
      · replace hf := gp_t c31_18 hf
        refine lv_iconst (v := 0) hx hb d_Vi_isSameAs_57 (by decide) ?_
        refine lv_istore_n (lv' := [(2, Value.int 0), (0, Value.ref (b n)), (1, Value.ref (b m1))]) hx hb d_Vi_isSameAs_58 rfl hl (by decide) rfl (fun ls hl => ?_)
        replace hf := gU hf ho17
        refine gy_iter (fun s : Int32 => X0) (fun (s : Int32) ls => lv_has ls 3 [(2, Value.int s), (0, Value.ref (b n)), (1, Value.ref (b m1))]) ?_ gK 0 _ _ _ hf (lv_sub hl [0, 1, 2] rfl) Y
        rintro i2_19 u19 H locs ls hf hl Y hk19 ho19
        have hl : lv_has ls 3 [(2, Value.int i2_19), (0, Value.ref (b n)), (1, Value.ref (b m1))] := hl
        have Y : gy D t b A s.heap X0 X0 H locs := Y
        have hf : f_Vi_isSameAs_59 X0 n m1 i2_19 = some u19 := hf
        unfold f_Vi_isSameAs_59 at hf
        refine lv_iload_n hx hb d_Vi_isSameAs_59 rfl (lv_at hl 0 rfl) ?_
        refine lv_sipush (v := 4096) hx hb d_Vi_isSameAs_60 (by decide) ?_
        refine lv_icmp_ge (tgt := 89) hx hb d_Vi_isSameAs_63 (by decide) (fun c63_20 => ?_) (fun c63_20 => ?_)
        · replace hf := gp_t c63_20 hf
          refine lv_iconst (v := 1) hx hb d_Vi_isSameAs_89 (by decide) ?_
          replace hf := gU hf ho19
          exact gy_zret hf hx hb hr hlocks hK Y (Nat.zero_le _) (Nat.zero_le _) rfl d_Vi_isSameAs_90
        · replace hf := gp_f c63_20 hf
          refine lv_aload_n hx hb d_Vi_isSameAs_66 rfl (lv_at hl 1 rfl) ?_
          refine gy_get (ci := 4) (v := Value.ref (b (n + 3))) (C := "CommitLedger$View") (T := F_Vi) (N := 6) hx hb hts i_Vi hown hK Y (gF_Vi hn) rfl 2 (by decide) kf_Vi_20 rfl d_Vi_isSameAs_67 ?_
          refine lv_iload_n hx hb d_Vi_isSameAs_70 rfl (lv_at hl 0 rfl) ?_
          refine gy_zald hf hx hb hK Y 1 (fun _ => (gF_Vi3 hn)) ht1 d_Vi_isSameAs_71 (fun _ hf => ?_)
          refine lv_aload_n hx hb d_Vi_isSameAs_72 rfl (lv_at hl 2 rfl) ?_
          refine gy_get (ci := 4) (v := Value.ref (b (m1 + 3))) (C := "CommitLedger$View") (T := F_Vi) (N := 6) hx hb hts i_Vi hown hK Y (gF_Vi hm1) rfl 2 (by decide) kf_Vi_20 rfl d_Vi_isSameAs_73 ?_
          refine lv_iload_n hx hb d_Vi_isSameAs_76 rfl (lv_at hl 0 rfl) ?_
          refine gy_zald hf hx hb hK Y 1 (fun _ => (gF_Vi3 hm1)) ht1 d_Vi_isSameAs_77 (fun _ hf => ?_)
          refine lv_icmp_eq (tgt := 83) hx hb d_Vi_isSameAs_78 (by decide) (fun c78_21 => ?_) (fun c78_21 => ?_)
          · replace hf := gp_t c78_21 hf
            refine lv_iinc (v := i2_19 + 1) (lv' := [(2, Value.int (i2_19 + 1)), (0, Value.ref (b n)), (1, Value.ref (b m1))]) hx hb d_Vi_isSameAs_83 hl (k := 0) rfl (rfl) (by decide) rfl (fun ls hl => ?_)
            refine lv_goto (tgt := 59) hx hb d_Vi_isSameAs_86 (by decide) ?_
            exact hk19 _ _ _ _ hf (lv_sub hl [0, 1, 2] rfl) Y
          · replace hf := gp_f c78_21 hf
            refine lv_iconst (v := 0) hx hb d_Vi_isSameAs_81 (by decide) ?_
            replace hf := gU hf ho19
            exact gy_zret hf hx hb hr hlocks hK Y (Nat.zero_le _) (Nat.zero_le _) rfl d_Vi_isSameAs_82
      · replace hf := gp_f c31_18 hf
        refine lv_aload_n hx hb d_Vi_isSameAs_34 rfl (lv_at hl 1 rfl) ?_
        refine gy_get (ci := 4) (v := Value.ref (b (n + 1))) (C := "CommitLedger$View") (T := F_Vi) (N := 6) hx hb hts i_Vi hown hK Y (gF_Vi hn) rfl 0 (by decide) kf_Vi_11 rfl d_Vi_isSameAs_35 ?_
        refine lv_iload_n hx hb d_Vi_isSameAs_38 rfl (lv_at hl 0 rfl) ?_
        refine gy_aald hf hx hb hK Y 2 (gF_Vi1 hn) ht2 d_Vi_isSameAs_39 (fun hf => ?_)
        refine lv_aload_n hx hb d_Vi_isSameAs_40 rfl (lv_at hl 2 rfl) ?_
        refine gy_get (ci := 4) (v := Value.ref (b (m1 + 1))) (C := "CommitLedger$View") (T := F_Vi) (N := 6) hx hb hts i_Vi hown hK Y (gF_Vi hm1) rfl 0 (by decide) kf_Vi_11 rfl d_Vi_isSameAs_41 ?_
        refine lv_iload_n hx hb d_Vi_isSameAs_44 rfl (lv_at hl 0 rfl) ?_
        refine gy_aald hf hx hb hK Y 2 (gF_Vi1 hm1) ht2 d_Vi_isSameAs_45 (fun hf => ?_)
        refine gy_acmpE (x := (X0.G (n + 1) (gn i2_17))) (y := (X0.G (m1 + 1) (gn i2_17))) hf hx hb Y (tgt := 51) d_Vi_isSameAs_46 (by decide) (fun hf => ?_) (fun hf => ?_)
        · skip
          refine lv_iinc (v := i2_17 + 1) (lv' := [(2, Value.int (i2_17 + 1)), (0, Value.ref (b n)), (1, Value.ref (b m1))]) hx hb d_Vi_isSameAs_51 hl (k := 0) rfl (rfl) (by decide) rfl (fun ls hl => ?_)
          refine lv_goto (tgt := 26) hx hb d_Vi_isSameAs_54 (by decide) ?_
          exact hk17 _ _ _ _ hf (lv_sub hl [0, 1, 2] rfl) Y
        · skip
          refine lv_iconst (v := 0) hx hb d_Vi_isSameAs_49 (by decide) ?_
          replace hf := gU hf ho17
          exact gy_zret hf hx hb hr hlocks hK Y (Nat.zero_le _) (Nat.zero_le _) rfl d_Vi_isSameAs_50
    · replace hf := gp_f c19_16 hf
      exact J22 () _ _ _ hf (lv_sub hl [] rfl) Y

def f_Vi_put (X0 : gX) (n : Nat) (a1 : Int32) (m2 : Option Nat) (m3 : Option Nat) : Option (gR × gX) := (if gIn a1 4096 then (if gOf X0.N m2 then gB (X0.g (n + 1) (gn a1) m2) (fun X1 => (if gIn a1 4096 then (if gOf X1.N m3 then gB (X1.g (n + 2) (gn a1) m3) (fun X2 => some (gR.v, X2)) else none) else none)) else none) else none)
set_option maxHeartbeats 4000000 in
set_option maxRecDepth 100000 in
theorem K_Vi_put (l : Launch) (htr : l.stackTraces = false) (D : va_G) (tys : List (ClassId × FieldType)) (z sz : Nat) (ws : va_W) (h : gm_M) (hM : gm_S h ws) (t : Nat → ClassId) (ht : gTy t tys) (b : Nat → Nat) (X0 : gX) (hw : gw D t b X0 h) (n : Nat) (hn : gVie n = true) (a1 : Int32) (m2 : Option Nat) (m3 : Option Nat) (o : gR × gX) (hf : f_Vi_put X0 n a1 m2 m3 = some o) : gx_Met l y_Vi_put [Cond.code y_Vi_put b_Vi_put 4 none] { frames := 1, cells := 0, slots := 0, locals := 12 } (gx_P z sz D classes tys ws [Value.ref (b n), Value.int a1, va_rf (Option.map b m2), va_rf (Option.map b m3)]) (gx_Q D classes tys (va_A ws sz) (gPo D t b X0 o)) (0) (0) (va_A ws sz) := by
  refine gx_ofW (cc := b_Vi_put) (maxL := 4) (ret := none) (by decide) rfl ?_
  intro p e s m args below meth c s₁ B hml hv
  obtain ⟨rfl, hsz, hz, hP, hK, hD0, hY⟩ := hv
  have hx := B.exec
  have hb := B.bytes
  have hr := B.returns
  have hts := hY.hts (#[Value.ref (b n), Value.int a1, va_rf (Option.map b m2), va_rf (Option.map b m3)] : Array Value)
  have hown : s.vm.findClass "CommitLedger$View" = some m.cls := findClass_of_methodNamed B.named
  have hlocks := B.notSynchronized
  subst hsz
  have hAz := gx_az hD0 hz
  have hD := hD0.self (sz := s.heap.size)
  have hA : ∀ q : Nat, s.heap.size ≤ q → va_A ws s.heap.size q := fun q h => Or.inr h
  generalize va_A ws s.heap.size = A at hD hA hAz ⊢
  have Y : gy D t b A s.heap X0 X0 s.heap [] := ⟨h, ⟨ws, hM, hP, hD, va_S.rf⟩, hw, gEq.rf⟩
  clear hP hD hM hD0 hw
  obtain ⟨ht0, ht1, ht2, ht3, ht4, ht5, ht6, ht7, ht8⟩ := id ht
  have hl := lv_entry ([Value.ref (b n), Value.int a1, va_rf (Option.map b m2), va_rf (Option.map b m3)]) (n := 4) (by cases m2 <;> cases m3 <;> exact Nat.le_of_ble_eq_true rfl)
  rw [lg_entry_eq]
  generalize (lg_sl ([Value.ref (b n), Value.int a1, va_rf (Option.map b m2), va_rf (Option.map b m3)]) ++ List.replicate (4 - (lg_sl ([Value.ref (b n), Value.int a1, va_rf (Option.map b m2), va_rf (Option.map b m3)])).length) Slot.unset).toArray = ls at hl ⊢
  have hl : lv_has ls 4 [(0, Value.ref (b n)), (1, Value.int a1), (2, va_rf (Option.map b m2)), (3, va_rf (Option.map b m3))] := by cases m2 <;> cases m3 <;> exact hl
  unfold f_Vi_put at hf
  refine lv_aload_n hx hb d_Vi_put_0 rfl (lv_at hl 0 rfl) ?_
  refine gy_get (ci := 4) (v := Value.ref (b (n + 1))) (C := "CommitLedger$View") (T := F_Vi) (N := 6) hx hb hts i_Vi hown hK Y (gF_Vi hn) rfl 0 (by decide) kf_Vi_11 rfl d_Vi_put_1 ?_
  refine lv_iload_n hx hb d_Vi_put_4 rfl (lv_at hl 1 rfl) ?_
  refine lv_aload_nO hx hb d_Vi_put_5 rfl (lv_at hl 2 rfl) ?_
  refine gy_aast (x := m2) hf hx hb hK Y 2 7 (fun _ => (gF_Vi1 hn)) ht2 (fun h9 v e9 => by rw [e9] at h9; exact ⟨⟨_, gF_Fi h9⟩, gFile.nm h9⟩) rfl d_Vi_put_6 (fun X3 H locs hf Y => ?_)
  refine lv_aload_n hx hb d_Vi_put_7 rfl (lv_at hl 0 rfl) ?_
  refine gy_get (ci := 4) (v := Value.ref (b (n + 2))) (C := "CommitLedger$View") (T := F_Vi) (N := 6) hx hb hts i_Vi hown hK Y (gF_Vi hn) rfl 1 (by decide) kf_Vi_17 rfl d_Vi_put_8 ?_
  refine lv_iload_n hx hb d_Vi_put_11 rfl (lv_at hl 1 rfl) ?_
  refine lv_aload_nO hx hb d_Vi_put_12 rfl (lv_at hl 3 rfl) ?_
  refine gy_aast (x := m3) hf hx hb hK Y 2 7 (fun _ => (gF_Vi2 hn)) ht2 (fun h9 v e9 => by rw [e9] at h9; exact ⟨⟨_, gF_Fi h9⟩, gFile.nm h9⟩) rfl d_Vi_put_13 (fun X4 H locs hf Y => ?_)
  exact gy_vret hf hx hb hr hlocks hK Y (Nat.zero_le _) (Nat.zero_le _) d_Vi_put_14

def f_Vi_append (X0 : gX) (n : Nat) (m1 : Option Nat) : Option (gR × gX) := (if (4096 : Int32) ≤ (X0.I n 4) then some (gR.v, X0) else gCv (f_Vi_put X0 n (X0.I n 4) m1 none) (fun X2 => gB (X2.w n 4 ((X2.I n 4) + 1)) (fun X3 => some (gR.v, X3))))
set_option maxHeartbeats 4000000 in
set_option maxRecDepth 100000 in
theorem K_Vi_append (l : Launch) (htr : l.stackTraces = false) (D : va_G) (tys : List (ClassId × FieldType)) (z sz : Nat) (ws : va_W) (h : gm_M) (hM : gm_S h ws) (t : Nat → ClassId) (ht : gTy t tys) (b : Nat → Nat) (X0 : gX) (hw : gw D t b X0 h) (n : Nat) (hn : gVie n = true) (m1 : Option Nat) (o : gR × gX) (hf : f_Vi_append X0 n m1 = some o) : gx_Met l y_Vi_append [Cond.code y_Vi_append b_Vi_append 2 none] { frames := 2, cells := 0, slots := 0, locals := 35 } (gx_P z sz D classes tys ws [Value.ref (b n), va_rf (Option.map b m1)]) (gx_Q D classes tys (va_A ws sz) (gPo D t b X0 o)) (0) (0) (va_A ws sz) := by
  refine gx_ofW (cc := b_Vi_append) (maxL := 2) (ret := none) (by decide) rfl ?_
  intro p e s m args below meth c s₁ B hml hv
  obtain ⟨rfl, hsz, hz, hP, hK, hD0, hY⟩ := hv
  have hx := B.exec
  have hb := B.bytes
  have hr := B.returns
  have hts := hY.hts (#[Value.ref (b n), va_rf (Option.map b m1)] : Array Value)
  have hown : s.vm.findClass "CommitLedger$View" = some m.cls := findClass_of_methodNamed B.named
  have hlocks := B.notSynchronized
  subst hsz
  have hAz := gx_az hD0 hz
  have hD := hD0.self (sz := s.heap.size)
  have hA : ∀ q : Nat, s.heap.size ≤ q → va_A ws s.heap.size q := fun q h => Or.inr h
  generalize va_A ws s.heap.size = A at hD hA hAz ⊢
  have Y : gy D t b A s.heap X0 X0 s.heap [] := ⟨h, ⟨ws, hM, hP, hD, va_S.rf⟩, hw, gEq.rf⟩
  clear hP hD hM hD0 hw
  obtain ⟨ht0, ht1, ht2, ht3, ht4, ht5, ht6, ht7, ht8⟩ := id ht
  have hl := lv_entry ([Value.ref (b n), va_rf (Option.map b m1)]) (n := 2) (by cases m1 <;> exact Nat.le_of_ble_eq_true rfl)
  rw [lg_entry_eq]
  generalize (lg_sl ([Value.ref (b n), va_rf (Option.map b m1)]) ++ List.replicate (2 - (lg_sl ([Value.ref (b n), va_rf (Option.map b m1)])).length) Slot.unset).toArray = ls at hl ⊢
  have hl : lv_has ls 2 [(0, Value.ref (b n)), (1, va_rf (Option.map b m1))] := by cases m1 <;> exact hl
  unfold f_Vi_append at hf
  refine lv_aload_n hx hb d_Vi_append_0 rfl (lv_at hl 0 rfl) ?_
  refine gy_get (ci := 4) (v := Value.int (X0.I n 4)) (C := "CommitLedger$View") (T := F_Vi) (N := 6) hx hb hts i_Vi hown hK Y (gF_Vi hn) rfl 4 (by decide) kf_Vi_24 rfl d_Vi_append_1 ?_
  refine lv_sipush (v := 4096) hx hb d_Vi_append_4 (by decide) ?_
  refine lv_icmp_ge (tgt := 30) hx hb d_Vi_append_7 (by decide) (fun c7_4 => ?_) (fun c7_4 => ?_)
  · replace hf := gp_t c7_4 hf
    exact gy_vret hf hx hb hr hlocks hK Y (Nat.zero_le _) (Nat.zero_le _) d_Vi_append_30
  · replace hf := gp_f c7_4 hf
    refine lv_aload_n hx hb d_Vi_append_10 rfl (lv_at hl 0 rfl) ?_
    refine lv_aload_n hx hb d_Vi_append_11 rfl (lv_at hl 0 rfl) ?_
    refine gy_get (ci := 4) (v := Value.int (X0.I n 4)) (C := "CommitLedger$View") (T := F_Vi) (N := 6) hx hb hts i_Vi hown hK Y (gF_Vi hn) rfl 4 (by decide) kf_Vi_24 rfl d_Vi_append_12 ?_
    refine lv_aload_nO hx hb d_Vi_append_15 rfl (lv_at hl 1 rfl) ?_
    refine lv_null hx hb d_Vi_append_16 ?_
    obtain ⟨X5, hF5, hf⟩ := gCv_el hf
    refine gy_callV (rm := { frames := 1, cells := 0, slots := 0, locals := 12 }) (ig := .invokevirtual 31) (av := [Value.ref (b n), Value.int (X0.I n 4), va_rf (Option.map b m1), Value.null]) Y (fun ws h hS hw => K_Vi_put l htr D tys z _ ws h hS t ht b X0 hw n hn (X0.I n 4) m1 none (gR.v, X5) hF5) (gx_invV (As := [Value.int (X0.I n 4), va_rf (Option.map b m1), Value.null]) (rest := []) hx hb hown hts km_Vi_31 kI_Vi_put kV_Vi_put kc_Vi_put (by decide) (show (parseMethodDescriptor y_Vi_put.desc).map (fun d => d.parameters.length) = some 3 by decide +kernel) (gy_recv (ci := 4) hK Y rfl (gF_Vi hn)) rfl rfl d_Vi_append_17) (gx_cw (z := 0) hts kc_Vi_put kN_Vi rfl rfl ⟨Nat.le_of_ble_eq_true rfl, Nat.le_of_ble_eq_true rfl⟩) hb hml hz hK hY hAz hA hl.1 (lv_room (Nat.le_of_ble_eq_true rfl)) d_Vi_append_17 ⟨Nat.zero_le _, Nat.zero_le _⟩ (fun H locs Y => ?_)
    refine lv_aload_n hx hb d_Vi_append_20 rfl (lv_at hl 0 rfl) ?_
    refine lv_dup hx hb d_Vi_append_21 rfl ?_
    refine gy_get (ci := 4) (v := Value.int (X5.I n 4)) (C := "CommitLedger$View") (T := F_Vi) (N := 6) hx hb hts i_Vi hown hK Y (gF_Vi hn) rfl 4 (by decide) kf_Vi_24 rfl d_Vi_append_22 ?_
    refine lv_iconst (v := 1) hx hb d_Vi_append_25 (by decide) ?_
    refine lv_iadd hx hb d_Vi_append_26 ?_
    refine gy_put hf (ci := 4) (ty := .int) (C := "CommitLedger$View") (T := F_Vi) (N := 6) hx hb hts i_Vi t_Vi_ok n_Vi hown hK Y (gF_Vi hn) rfl (by decide) kf_Vi_24 rfl (by decide +kernel) rfl rfl (Nat.le_of_ble_eq_true rfl) (gF_Vi hn) d_Vi_append_27 (fun X6 H locs hf Y => ?_)
    exact gy_vret hf hx hb hr hlocks hK Y (Nat.zero_le _) (Nat.zero_le _) d_Vi_append_30

def f_Me_begin (X0 : gX) (n : Nat) (a1 : Int32) (a2 : Int32) (a3 : Int32) (m4 : Option Nat) : Option (gR × gX) := gB (X0.w n 0 a1) (fun X1 => gB (X1.w n 1 a2) (fun X2 => gB (X2.w n 2 a3) (fun X3 => (if gOk X3.N m4 then gB (X3.g n 3 m4) (fun X4 => some (gR.v, X4)) else none))))
set_option maxHeartbeats 4000000 in
set_option maxRecDepth 100000 in
theorem K_Me_begin (l : Launch) (htr : l.stackTraces = false) (D : va_G) (tys : List (ClassId × FieldType)) (z sz : Nat) (ws : va_W) (h : gm_M) (hM : gm_S h ws) (t : Nat → ClassId) (ht : gTy t tys) (b : Nat → Nat) (X0 : gX) (hw : gw D t b X0 h) (n : Nat) (hn : gMer n = true) (a1 : Int32) (a2 : Int32) (a3 : Int32) (m4 : Option Nat) (o : gR × gX) (hf : f_Me_begin X0 n a1 a2 a3 m4 = some o) : gx_Met l y_Me_begin [Cond.code y_Me_begin b_Me_begin 5 none] { frames := 1, cells := 0, slots := 0, locals := 12 } (gx_P z sz D classes tys ws [Value.ref (b n), Value.int a1, Value.int a2, Value.int a3, va_rf (Option.map b m4)]) (gx_Q D classes tys (va_A ws sz) (gPo D t b X0 o)) (0) (0) (va_A ws sz) := by
  refine gx_ofW (cc := b_Me_begin) (maxL := 5) (ret := none) (by decide) rfl ?_
  intro p e s m args below meth c s₁ B hml hv
  obtain ⟨rfl, hsz, hz, hP, hK, hD0, hY⟩ := hv
  have hx := B.exec
  have hb := B.bytes
  have hr := B.returns
  have hts := hY.hts (#[Value.ref (b n), Value.int a1, Value.int a2, Value.int a3, va_rf (Option.map b m4)] : Array Value)
  have hown : s.vm.findClass "CommitLedger$Merge" = some m.cls := findClass_of_methodNamed B.named
  have hlocks := B.notSynchronized
  subst hsz
  have hAz := gx_az hD0 hz
  have hD := hD0.self (sz := s.heap.size)
  have hA : ∀ q : Nat, s.heap.size ≤ q → va_A ws s.heap.size q := fun q h => Or.inr h
  generalize va_A ws s.heap.size = A at hD hA hAz ⊢
  have Y : gy D t b A s.heap X0 X0 s.heap [] := ⟨h, ⟨ws, hM, hP, hD, va_S.rf⟩, hw, gEq.rf⟩
  clear hP hD hM hD0 hw
  obtain ⟨ht0, ht1, ht2, ht3, ht4, ht5, ht6, ht7, ht8⟩ := id ht
  have hl := lv_entry ([Value.ref (b n), Value.int a1, Value.int a2, Value.int a3, va_rf (Option.map b m4)]) (n := 5) (by cases m4 <;> exact Nat.le_of_ble_eq_true rfl)
  rw [lg_entry_eq]
  generalize (lg_sl ([Value.ref (b n), Value.int a1, Value.int a2, Value.int a3, va_rf (Option.map b m4)]) ++ List.replicate (5 - (lg_sl ([Value.ref (b n), Value.int a1, Value.int a2, Value.int a3, va_rf (Option.map b m4)])).length) Slot.unset).toArray = ls at hl ⊢
  have hl : lv_has ls 5 [(0, Value.ref (b n)), (1, Value.int a1), (2, Value.int a2), (3, Value.int a3), (4, va_rf (Option.map b m4))] := by cases m4 <;> exact hl
  unfold f_Me_begin at hf
  refine lv_aload_n hx hb d_Me_begin_0 rfl (lv_at hl 0 rfl) ?_
  refine lv_iload_n hx hb d_Me_begin_1 rfl (lv_at hl 1 rfl) ?_
  refine gy_put hf (ci := 5) (ty := .int) (C := "CommitLedger$Merge") (T := F_Me) (N := 4) hx hb hts i_Me t_Me_ok n_Me hown hK Y (gF_Me hn) rfl (by decide) kf_Me_7 rfl (by decide +kernel) rfl rfl (Nat.le_of_ble_eq_true rfl) (gF_Me hn) d_Me_begin_2 (fun X5 H locs hf Y => ?_)
  refine lv_aload_n hx hb d_Me_begin_5 rfl (lv_at hl 0 rfl) ?_
  refine lv_iload_n hx hb d_Me_begin_6 rfl (lv_at hl 2 rfl) ?_
  refine gy_put hf (ci := 5) (ty := .int) (C := "CommitLedger$Merge") (T := F_Me) (N := 4) hx hb hts i_Me t_Me_ok n_Me hown hK Y (gF_Me hn) rfl (by decide) kf_Me_13 rfl (by decide +kernel) rfl rfl (Nat.le_of_ble_eq_true rfl) (gF_Me hn) d_Me_begin_7 (fun X6 H locs hf Y => ?_)
  refine lv_aload_n hx hb d_Me_begin_10 rfl (lv_at hl 0 rfl) ?_
  refine lv_iload_n hx hb d_Me_begin_11 rfl (lv_at hl 3 rfl) ?_
  refine gy_put hf (ci := 5) (ty := .int) (C := "CommitLedger$Merge") (T := F_Me) (N := 4) hx hb hts i_Me t_Me_ok n_Me hown hK Y (gF_Me hn) rfl (by decide) kf_Me_16 rfl (by decide +kernel) rfl rfl (Nat.le_of_ble_eq_true rfl) (gF_Me hn) d_Me_begin_12 (fun X7 H locs hf Y => ?_)
  refine lv_aload_n hx hb d_Me_begin_15 rfl (lv_at hl 0 rfl) ?_
  refine lv_aloadO hx hb d_Me_begin_16 (lv_at hl 4 rfl) ?_
  refine gy_putR (x := m4) hf (ci := 5) (C2 := "CommitLedger$LedgerFile") (C := "CommitLedger$Merge") (T := F_Me) (N := 4) hx hb hts i_Me t_Me_ok n_Me hown hK Y (gF_Me hn) rfl (by decide) kf_Me_19 rfl (by decide +kernel) (Nat.le_of_ble_eq_true rfl) (gF_Me hn) d_Me_begin_18 (fun X8 H locs hf Y => ?_)
  exact gy_vret hf hx hb hr hlocks hK Y (Nat.zero_le _) (Nat.zero_le _) d_Me_begin_21

def f_Me_covers_26 (X : gX) (n : Nat) : Option (gR × gX) := some (gR.i 0, X)
def f_Me_covers (X0 : gX) (n : Nat) (m1 : Option Nat) : Option (gR × gX) := gM m1 (fun n1 => (if gFile X0.N n1 then (if (X0.I n1 5) < (X0.I n 1) then f_Me_covers_26 X0 n else gM m1 (fun n4 => (if gFile X0.N n4 then (if (X0.I n 2) ≤ (X0.I n4 5) then f_Me_covers_26 X0 n else some (gR.i 1, X0)) else none))) else none))
set_option maxHeartbeats 4000000 in
set_option maxRecDepth 100000 in
theorem K_Me_covers (l : Launch) (htr : l.stackTraces = false) (D : va_G) (tys : List (ClassId × FieldType)) (z sz : Nat) (ws : va_W) (h : gm_M) (hM : gm_S h ws) (t : Nat → ClassId) (ht : gTy t tys) (b : Nat → Nat) (X0 : gX) (hw : gw D t b X0 h) (n : Nat) (hn : gMer n = true) (m1 : Option Nat) (o : gR × gX) (hf : f_Me_covers X0 n m1 = some o) : gx_Met l y_Me_covers [Cond.code y_Me_covers b_Me_covers 2 (some .boolean)] { frames := 1, cells := 0, slots := 0, locals := 12 } (gx_P z sz D classes tys ws [Value.ref (b n), va_rf (Option.map b m1)]) (gx_Q D classes tys (va_A ws sz) (gPo D t b X0 o)) (0) (0) (va_A ws sz) := by
  refine gx_ofW (cc := b_Me_covers) (maxL := 2) (ret := (some .boolean)) (by decide) rfl ?_
  intro p e s m args below meth c s₁ B hml hv
  obtain ⟨rfl, hsz, hz, hP, hK, hD0, hY⟩ := hv
  have hx := B.exec
  have hb := B.bytes
  have hr := B.returns
  have hts := hY.hts (#[Value.ref (b n), va_rf (Option.map b m1)] : Array Value)
  have hown : s.vm.findClass "CommitLedger$Merge" = some m.cls := findClass_of_methodNamed B.named
  have hlocks := B.notSynchronized
  subst hsz
  have hAz := gx_az hD0 hz
  have hD := hD0.self (sz := s.heap.size)
  have hA : ∀ q : Nat, s.heap.size ≤ q → va_A ws s.heap.size q := fun q h => Or.inr h
  generalize va_A ws s.heap.size = A at hD hA hAz ⊢
  have Y : gy D t b A s.heap X0 X0 s.heap [] := ⟨h, ⟨ws, hM, hP, hD, va_S.rf⟩, hw, gEq.rf⟩
  clear hP hD hM hD0 hw
  obtain ⟨ht0, ht1, ht2, ht3, ht4, ht5, ht6, ht7, ht8⟩ := id ht
  have hl := lv_entry ([Value.ref (b n), va_rf (Option.map b m1)]) (n := 2) (by cases m1 <;> exact Nat.le_of_ble_eq_true rfl)
  rw [lg_entry_eq]
  generalize (lg_sl ([Value.ref (b n), va_rf (Option.map b m1)]) ++ List.replicate (2 - (lg_sl ([Value.ref (b n), va_rf (Option.map b m1)])).length) Slot.unset).toArray = ls at hl ⊢
  have hl : lv_has ls 2 [(0, Value.ref (b n)), (1, va_rf (Option.map b m1))] := by cases m1 <;> exact hl
  refine gy_cut (pcJ := 26) Y (fun s : Unit => f_Me_covers_26 X0 n) o (fun s => X0) (fun s ls => lv_has ls 2 []) (fun s => []) ?_ (fun J26 => ?_)
  · rintro _ H locs ls hf hl Y
    have hl : lv_has ls 2 [] := hl
    have Y : gy D t b A s.heap X0 X0 H locs := Y
    have hf : f_Me_covers_26 X0 n = some o := hf
    unfold f_Me_covers_26 at hf
    refine lv_iconst (v := 0) hx hb d_Me_covers_26 (by decide) ?_
    exact gy_zret hf hx hb hr hlocks hK Y (Nat.zero_le _) (Nat.zero_le _) rfl d_Me_covers_27
  unfold f_Me_covers at hf
  refine lv_aload_n hx hb d_Me_covers_0 rfl (lv_at hl 0 rfl) ?_
  refine gy_get (ci := 5) (v := Value.int (X0.I n 1)) (C := "CommitLedger$Merge") (T := F_Me) (N := 4) hx hb hts i_Me hown hK Y (gF_Me hn) rfl 1 (by decide) kf_Me_13 rfl d_Me_covers_1 ?_
  refine lv_aload_nO hx hb d_Me_covers_4 rfl (lv_at hl 1 rfl) ?_
  obtain ⟨n8, e8, hf⟩ := gM_el hf
  refine W.eq (g2 := F0 m 5 ls [Value.ref (b n8), Value.int (X0.I n 1)]) (by rw [e8] <;> rfl) ?_
  obtain ⟨hv9, hf⟩ := gp_g hf
  refine gy_get (ci := 7) (v := Value.int (X0.I n8 5)) (C := "CommitLedger$LedgerFile") (T := F_Fi) (N := 7) hx hb hts i_Fi hown hK Y (gF_Fi hv9) rfl 5 (by decide) kf_Me_23 rfl d_Me_covers_5 ?_
  refine lv_icmp_gt (tgt := 26) hx hb d_Me_covers_8 (by decide) (fun c8_10 => ?_) (fun c8_10 => ?_)
  · replace hf := gp_t c8_10 hf
    exact J26 () _ _ _ hf (lv_sub hl [] rfl) Y
  · replace hf := gp_f c8_10 hf
    refine lv_aload_nO hx hb d_Me_covers_11 rfl (lv_at hl 1 rfl) ?_
    obtain ⟨n11, e11, hf⟩ := gM_el hf
    refine W.eq (g2 := F0 m 12 ls [Value.ref (b n11)]) (by rw [e11] <;> rfl) ?_
    obtain ⟨hv12, hf⟩ := gp_g hf
    refine gy_get (ci := 7) (v := Value.int (X0.I n11 5)) (C := "CommitLedger$LedgerFile") (T := F_Fi) (N := 7) hx hb hts i_Fi hown hK Y (gF_Fi hv12) rfl 5 (by decide) kf_Me_23 rfl d_Me_covers_12 ?_
    refine lv_aload_n hx hb d_Me_covers_15 rfl (lv_at hl 0 rfl) ?_
    refine gy_get (ci := 5) (v := Value.int (X0.I n 2)) (C := "CommitLedger$Merge") (T := F_Me) (N := 4) hx hb hts i_Me hown hK Y (gF_Me hn) rfl 2 (by decide) kf_Me_16 rfl d_Me_covers_16 ?_
    refine lv_icmp_ge (tgt := 26) hx hb d_Me_covers_19 (by decide) (fun c19_13 => ?_) (fun c19_13 => ?_)
    · replace hf := gp_t c19_13 hf
      exact J26 () _ _ _ hf (lv_sub hl [] rfl) Y
    · replace hf := gp_f c19_13 hf
      refine lv_iconst (v := 1) hx hb d_Me_covers_22 (by decide) ?_
      refine lv_goto (tgt := 27) hx hb d_Me_covers_23 (by decide) ?_
      exact gy_zret hf hx hb hr hlocks hK Y (Nat.zero_le _) (Nat.zero_le _) rfl d_Me_covers_27

def f_En_append (X0 : gX) (a1 : Int32) (a2 : Int32) (a3 : Int32) : Option (gR × gX) := (if gIn (X0.I 1 3) 4096 then gB (X0.w 2 (gn (X0.I 1 3)) a1) (fun X1 => (if gIn (X1.I 1 3) 4096 then gB (X1.w 3 (gn (X1.I 1 3)) a2) (fun X2 => (if gIn (X2.I 1 3) 4096 then gB (X2.w 4 (gn (X2.I 1 3)) a3) (fun X3 => gB (X3.w 1 3 ((X3.I 1 3) + 1)) (fun X4 => some (gR.v, X4))) else none)) else none)) else none)
set_option maxHeartbeats 4000000 in
set_option maxRecDepth 100000 in
theorem K_En_append (l : Launch) (htr : l.stackTraces = false) (D : va_G) (tys : List (ClassId × FieldType)) (z sz : Nat) (ws : va_W) (h : gm_M) (hM : gm_S h ws) (t : Nat → ClassId) (ht : gTy t tys) (b : Nat → Nat) (X0 : gX) (hw : gw D t b X0 h) (a1 : Int32) (a2 : Int32) (a3 : Int32) (o : gR × gX) (hf : f_En_append X0 a1 a2 a3 = some o) : gx_Met l y_En_append [Cond.code y_En_append b_En_append 4 none] { frames := 1, cells := 0, slots := 0, locals := 12 } (gx_P z sz D classes tys ws [Value.ref (b 1), Value.int a1, Value.int a2, Value.int a3]) (gx_Q D classes tys (va_A ws sz) (gPo D t b X0 o)) (0) (0) (va_A ws sz) := by
  refine gx_ofW (cc := b_En_append) (maxL := 4) (ret := none) (by decide) rfl ?_
  intro p e s m args below meth c s₁ B hml hv
  obtain ⟨rfl, hsz, hz, hP, hK, hD0, hY⟩ := hv
  have hx := B.exec
  have hb := B.bytes
  have hr := B.returns
  have hts := hY.hts (#[Value.ref (b 1), Value.int a1, Value.int a2, Value.int a3] : Array Value)
  have hown : s.vm.findClass "CommitLedger$Entries" = some m.cls := findClass_of_methodNamed B.named
  have hlocks := B.notSynchronized
  subst hsz
  have hAz := gx_az hD0 hz
  have hD := hD0.self (sz := s.heap.size)
  have hA : ∀ q : Nat, s.heap.size ≤ q → va_A ws s.heap.size q := fun q h => Or.inr h
  generalize va_A ws s.heap.size = A at hD hA hAz ⊢
  have Y : gy D t b A s.heap X0 X0 s.heap [] := ⟨h, ⟨ws, hM, hP, hD, va_S.rf⟩, hw, gEq.rf⟩
  clear hP hD hM hD0 hw
  obtain ⟨ht0, ht1, ht2, ht3, ht4, ht5, ht6, ht7, ht8⟩ := id ht
  have hl := lv_entry ([Value.ref (b 1), Value.int a1, Value.int a2, Value.int a3]) (n := 4) (Nat.le_of_ble_eq_true rfl)
  rw [lg_entry_eq]
  generalize (lg_sl ([Value.ref (b 1), Value.int a1, Value.int a2, Value.int a3]) ++ List.replicate (4 - (lg_sl ([Value.ref (b 1), Value.int a1, Value.int a2, Value.int a3])).length) Slot.unset).toArray = ls at hl ⊢
  have hl : lv_has ls 4 [(0, Value.ref (b 1)), (1, Value.int a1), (2, Value.int a2), (3, Value.int a3)] := hl
  unfold f_En_append at hf
  refine lv_aload_n hx hb d_En_append_0 rfl (lv_at hl 0 rfl) ?_
  refine gy_get (ci := 1) (v := Value.ref (b 2)) (C := "CommitLedger$Entries") (T := F_En) (N := 4) hx hb hts i_En hown hK Y gF_1 rfl 0 (by decide) kf_En_9 rfl d_En_append_1 ?_
  refine lv_aload_n hx hb d_En_append_4 rfl (lv_at hl 0 rfl) ?_
  refine gy_get (ci := 1) (v := Value.int (X0.I 1 3)) (C := "CommitLedger$Entries") (T := F_En) (N := 4) hx hb hts i_En hown hK Y gF_1 rfl 3 (by decide) kf_En_21 rfl d_En_append_5 ?_
  refine lv_iload_n hx hb d_En_append_8 rfl (lv_at hl 1 rfl) ?_
  refine gy_iast hf hx hb hK Y 0 (fun _ => gF_2) ht0 d_En_append_9 (fun X5 H locs hf Y => ?_)
  refine lv_aload_n hx hb d_En_append_10 rfl (lv_at hl 0 rfl) ?_
  refine gy_get (ci := 1) (v := Value.ref (b 3)) (C := "CommitLedger$Entries") (T := F_En) (N := 4) hx hb hts i_En hown hK Y gF_1 rfl 1 (by decide) kf_En_15 rfl d_En_append_11 ?_
  refine lv_aload_n hx hb d_En_append_14 rfl (lv_at hl 0 rfl) ?_
  refine gy_get (ci := 1) (v := Value.int (X5.I 1 3)) (C := "CommitLedger$Entries") (T := F_En) (N := 4) hx hb hts i_En hown hK Y gF_1 rfl 3 (by decide) kf_En_21 rfl d_En_append_15 ?_
  refine lv_iload_n hx hb d_En_append_18 rfl (lv_at hl 2 rfl) ?_
  refine gy_iast hf hx hb hK Y 0 (fun _ => gF_3) ht0 d_En_append_19 (fun X6 H locs hf Y => ?_)
  refine lv_aload_n hx hb d_En_append_20 rfl (lv_at hl 0 rfl) ?_
  refine gy_get (ci := 1) (v := Value.ref (b 4)) (C := "CommitLedger$Entries") (T := F_En) (N := 4) hx hb hts i_En hown hK Y gF_1 rfl 2 (by decide) kf_En_18 rfl d_En_append_21 ?_
  refine lv_aload_n hx hb d_En_append_24 rfl (lv_at hl 0 rfl) ?_
  refine gy_get (ci := 1) (v := Value.int (X6.I 1 3)) (C := "CommitLedger$Entries") (T := F_En) (N := 4) hx hb hts i_En hown hK Y gF_1 rfl 3 (by decide) kf_En_21 rfl d_En_append_25 ?_
  refine lv_iload_n hx hb d_En_append_28 rfl (lv_at hl 3 rfl) ?_
  refine gy_iast hf hx hb hK Y 0 (fun _ => gF_4) ht0 d_En_append_29 (fun X7 H locs hf Y => ?_)
  refine lv_aload_n hx hb d_En_append_30 rfl (lv_at hl 0 rfl) ?_
  refine lv_dup hx hb d_En_append_31 rfl ?_
  refine gy_get (ci := 1) (v := Value.int (X7.I 1 3)) (C := "CommitLedger$Entries") (T := F_En) (N := 4) hx hb hts i_En hown hK Y gF_1 rfl 3 (by decide) kf_En_21 rfl d_En_append_32 ?_
  refine lv_iconst (v := 1) hx hb d_En_append_35 (by decide) ?_
  refine lv_iadd hx hb d_En_append_36 ?_
  refine gy_put hf (ci := 1) (ty := .int) (C := "CommitLedger$Entries") (T := F_En) (N := 4) hx hb hts i_En t_En_ok n_En hown hK Y gF_1 rfl (by decide) kf_En_21 rfl (by decide +kernel) rfl rfl (Nat.le_of_ble_eq_true rfl) gF_1 d_En_append_37 (fun X8 H locs hf Y => ?_)
  exact gy_vret hf hx hb hr hlocks hK Y (Nat.zero_le _) (Nat.zero_le _) d_En_append_40

def f_Vi_replaceMerged_74 (X : gX) (n : Nat) (m1 : Nat) (i2 : Int32) (i3 : Int32) (i4 : Int32) : Option ((gX × Int32 × Int32 × Int32) ⊕ (gR × gX)) := some (Sum.inl (X, i2, i3, i4 + 1))
def f_Vi_replaceMerged_7 (X : gX) (n : Nat) (m1 : Nat) (i2 : Int32) (i3 : Int32) (i4 : Int32) : Option ((gX × Int32 × Int32 × Int32) ⊕ (gR × gX)) := (if (X.I n 4) ≤ i4 then gB (X.w n 4 i2) (fun X3 => gLf (some (gR.v, X3))) else (if gIn i4 4096 then gCi (f_Me_covers X m1 (X.G (n + 1) (gn i4))) (fun x4 X4 => (if x4 = (0 : Int32) then (if gIn i4 4096 then (if gIn i4 4096 then gCv (f_Vi_put X4 n i2 (X4.G (n + 1) (gn i4)) (X4.G (n + 2) (gn i4))) (fun X8 => f_Vi_replaceMerged_74 X8 n m1 (i2 + 1) i3 i4) else none) else none) else (if i3 = (0 : Int32) then gCv (f_Vi_put X4 n i2 (X4.G m1 3) none) (fun X7 => f_Vi_replaceMerged_74 X7 n m1 (i2 + 1) 1 i4) else f_Vi_replaceMerged_74 X4 n m1 i2 i3 i4))) else none))
def f_Vi_replaceMerged (X0 : gX) (n : Nat) (m1 : Nat) : Option (gR × gX) := gI (fun s : gX × Int32 × Int32 × Int32 => f_Vi_replaceMerged_7 s.1 n m1 s.2.1 s.2.2.1 s.2.2.2) gK (X0, 0, 0, 0)
set_option maxHeartbeats 4000000 in
set_option maxRecDepth 100000 in
theorem K_Vi_replaceMerged (l : Launch) (htr : l.stackTraces = false) (D : va_G) (tys : List (ClassId × FieldType)) (z sz : Nat) (ws : va_W) (h : gm_M) (hM : gm_S h ws) (t : Nat → ClassId) (ht : gTy t tys) (b : Nat → Nat) (X0 : gX) (hw : gw D t b X0 h) (n : Nat) (hn : gVie n = true) (m1 : Nat) (hm1 : gMer m1 = true) (o : gR × gX) (hf : f_Vi_replaceMerged X0 n m1 = some o) : gx_Met l y_Vi_replaceMerged [Cond.code y_Vi_replaceMerged b_Vi_replaceMerged 5 none] { frames := 2, cells := 0, slots := 0, locals := 35 } (gx_P z sz D classes tys ws [Value.ref (b n), Value.ref (b m1)]) (gx_Q D classes tys (va_A ws sz) (gPo D t b X0 o)) (0) (0) (va_A ws sz) := by
  refine gx_ofW (cc := b_Vi_replaceMerged) (maxL := 5) (ret := none) (by decide) rfl ?_
  intro p e s m args below meth c s₁ B hml hv
  obtain ⟨rfl, hsz, hz, hP, hK, hD0, hY⟩ := hv
  have hx := B.exec
  have hb := B.bytes
  have hr := B.returns
  have hts := hY.hts (#[Value.ref (b n), Value.ref (b m1)] : Array Value)
  have hown : s.vm.findClass "CommitLedger$View" = some m.cls := findClass_of_methodNamed B.named
  have hlocks := B.notSynchronized
  subst hsz
  have hAz := gx_az hD0 hz
  have hD := hD0.self (sz := s.heap.size)
  have hA : ∀ q : Nat, s.heap.size ≤ q → va_A ws s.heap.size q := fun q h => Or.inr h
  generalize va_A ws s.heap.size = A at hD hA hAz ⊢
  have Y : gy D t b A s.heap X0 X0 s.heap [] := ⟨h, ⟨ws, hM, hP, hD, va_S.rf⟩, hw, gEq.rf⟩
  clear hP hD hM hD0 hw
  obtain ⟨ht0, ht1, ht2, ht3, ht4, ht5, ht6, ht7, ht8⟩ := id ht
  have hl := lv_entry ([Value.ref (b n), Value.ref (b m1)]) (n := 5) (Nat.le_of_ble_eq_true rfl)
  rw [lg_entry_eq]
  generalize (lg_sl ([Value.ref (b n), Value.ref (b m1)]) ++ List.replicate (5 - (lg_sl ([Value.ref (b n), Value.ref (b m1)])).length) Slot.unset).toArray = ls at hl ⊢
  have hl : lv_has ls 5 [(0, Value.ref (b n)), (1, Value.ref (b m1))] := hl
  unfold f_Vi_replaceMerged at hf
  refine lv_iconst (v := 0) hx hb d_Vi_replaceMerged_0 (by decide) ?_
  refine lv_istore_n (lv' := [(2, Value.int 0), (0, Value.ref (b n)), (1, Value.ref (b m1))]) hx hb d_Vi_replaceMerged_1 rfl hl (by decide) rfl (fun ls hl => ?_)
  refine lv_iconst (v := 0) hx hb d_Vi_replaceMerged_2 (by decide) ?_
  refine lv_istore_n (lv' := [(3, Value.int 0), (2, Value.int 0), (0, Value.ref (b n)), (1, Value.ref (b m1))]) hx hb d_Vi_replaceMerged_3 rfl hl (by decide) rfl (fun ls hl => ?_)
  refine lv_iconst (v := 0) hx hb d_Vi_replaceMerged_4 (by decide) ?_
  refine lv_istore (lv' := [(4, Value.int 0), (3, Value.int 0), (2, Value.int 0), (0, Value.ref (b n)), (1, Value.ref (b m1))]) hx hb d_Vi_replaceMerged_5 hl (by decide) rfl (fun ls hl => ?_)
  refine gy_iter (fun s : gX × Int32 × Int32 × Int32 => s.1) (fun (s : gX × Int32 × Int32 × Int32) ls => lv_has ls 5 [(2, Value.int s.2.1), (3, Value.int s.2.2.1), (4, Value.int s.2.2.2), (0, Value.ref (b n)), (1, Value.ref (b m1))]) ?_ gK (X0, 0, 0, 0) _ _ _ hf (lv_sub hl [2, 1, 0, 3, 4] rfl) Y
  rintro ⟨X17, i2_17, i3_17, i4_17⟩ u17 H locs ls hf hl Y hk17 ho17
  have hl : lv_has ls 5 [(2, Value.int i2_17), (3, Value.int i3_17), (4, Value.int i4_17), (0, Value.ref (b n)), (1, Value.ref (b m1))] := hl
  have Y : gy D t b A s.heap X0 X17 H locs := Y
  have hf : f_Vi_replaceMerged_7 X17 n m1 i2_17 i3_17 i4_17 = some u17 := hf
  refine gy_cut (pcJ := 74) Y (fun s : gX × Int32 × Int32 × Int32 => f_Vi_replaceMerged_74 s.1 n m1 s.2.1 s.2.2.1 s.2.2.2) u17 (fun s => s.1) (fun s ls => lv_has ls 5 [(2, Value.int s.2.1), (3, Value.int s.2.2.1), (4, Value.int s.2.2.2), (0, Value.ref (b n)), (1, Value.ref (b m1))]) (fun s => []) ?_ (fun J74 => ?_)
  · rintro ⟨X18, i2_18, i3_18, i4_18⟩ H locs ls hf hl Y
    have hl : lv_has ls 5 [(2, Value.int i2_18), (3, Value.int i3_18), (4, Value.int i4_18), (0, Value.ref (b n)), (1, Value.ref (b m1))] := hl
    have Y : gy D t b A s.heap X0 X18 H locs := Y
    have hf : f_Vi_replaceMerged_74 X18 n m1 i2_18 i3_18 i4_18 = some u17 := hf
    unfold f_Vi_replaceMerged_74 at hf
    refine lv_iinc (v := i4_18 + 1) (lv' := [(4, Value.int (i4_18 + 1)), (2, Value.int i2_18), (3, Value.int i3_18), (0, Value.ref (b n)), (1, Value.ref (b m1))]) hx hb d_Vi_replaceMerged_74 hl (k := 2) rfl (rfl) (by decide) rfl (fun ls hl => ?_)
    refine lv_goto (tgt := 7) hx hb d_Vi_replaceMerged_77 (by decide) ?_
    exact hk17 _ _ _ _ hf (lv_sub hl [1, 2, 0, 3, 4] rfl) Y
  unfold f_Vi_replaceMerged_7 at hf
  refine lv_iload hx hb d_Vi_replaceMerged_7 (lv_at hl 2 rfl) ?_
  refine lv_aload_n hx hb d_Vi_replaceMerged_9 rfl (lv_at hl 3 rfl) ?_
  refine gy_get (ci := 4) (v := Value.int (X17.I n 4)) (C := "CommitLedger$View") (T := F_Vi) (N := 6) hx hb hts i_Vi hown hK Y (gF_Vi hn) rfl 4 (by decide) kf_Vi_24 rfl d_Vi_replaceMerged_10 ?_
  refine lv_icmp_ge (tgt := 80) hx hb d_Vi_replaceMerged_13 (by decide) (fun c13_19 => ?_) (fun c13_19 => ?_)
  · replace hf := gp_t c13_19 hf
    refine lv_aload_n hx hb d_Vi_replaceMerged_80 rfl (lv_at hl 3 rfl) ?_
    refine lv_iload_n hx hb d_Vi_replaceMerged_81 rfl (lv_at hl 0 rfl) ?_
    refine gy_put hf (ci := 4) (ty := .int) (C := "CommitLedger$View") (T := F_Vi) (N := 6) hx hb hts i_Vi t_Vi_ok n_Vi hown hK Y (gF_Vi hn) rfl (by decide) kf_Vi_24 rfl (by decide +kernel) rfl rfl (Nat.le_of_ble_eq_true rfl) (gF_Vi hn) d_Vi_replaceMerged_82 (fun X20 H locs hf Y => ?_)
    replace hf := gU hf ho17
    exact gy_vret hf hx hb hr hlocks hK Y (Nat.zero_le _) (Nat.zero_le _) d_Vi_replaceMerged_85
  · replace hf := gp_f c13_19 hf
    refine lv_aload_n hx hb d_Vi_replaceMerged_16 rfl (lv_at hl 4 rfl) ?_
    refine lv_aload_n hx hb d_Vi_replaceMerged_17 rfl (lv_at hl 3 rfl) ?_
    refine gy_get (ci := 4) (v := Value.ref (b (n + 1))) (C := "CommitLedger$View") (T := F_Vi) (N := 6) hx hb hts i_Vi hown hK Y (gF_Vi hn) rfl 0 (by decide) kf_Vi_11 rfl d_Vi_replaceMerged_18 ?_
    refine lv_iload hx hb d_Vi_replaceMerged_21 (lv_at hl 2 rfl) ?_
    refine gy_aald hf hx hb hK Y 2 (gF_Vi1 hn) ht2 d_Vi_replaceMerged_23 (fun hf => ?_)
    obtain ⟨x21, X21, hF21, hf⟩ := gCi_el hf
    refine gy_callI (rm := { frames := 1, cells := 0, slots := 0, locals := 12 }) (ig := .invokevirtual 35) (av := [Value.ref (b m1), va_rf (Option.map b (X17.G (n + 1) (gn i4_17)))]) Y (fun ws h hS hw => K_Me_covers l htr D tys z _ ws h hS t ht b X17 hw m1 hm1 (X17.G (n + 1) (gn i4_17)) (gR.i x21, X21) hF21) (gx_invV (As := [va_rf (Option.map b (X17.G (n + 1) (gn i4_17)))]) (rest := []) hx hb hown hts km_Vi_35 kI_Me_covers kV_Me_covers kc_Me_covers (by decide) (show (parseMethodDescriptor y_Me_covers.desc).map (fun d => d.parameters.length) = some 1 by decide +kernel) (gy_recv (ci := 5) hK Y rfl (gF_Me hm1)) rfl rfl d_Vi_replaceMerged_24) (gx_cw (z := 0) hts kc_Me_covers kN_Me rfl rfl ⟨Nat.le_of_ble_eq_true rfl, Nat.le_of_ble_eq_true rfl⟩) hb hml hz hK hY hAz hA hl.1 (lv_room (Nat.le_of_ble_eq_true rfl)) d_Vi_replaceMerged_24 ⟨Nat.zero_le _, Nat.zero_le _⟩ (fun H locs Y => ?_)
    refine lv_if_ne (tgt := 55) hx hb d_Vi_replaceMerged_27 (by decide) (fun c27_22 => ?_) (fun c27_22 => ?_)
    · replace hf := gp_f c27_22 hf
      refine lv_iload_n hx hb d_Vi_replaceMerged_55 rfl (lv_at hl 1 rfl) ?_
      refine lv_if_ne (tgt := 74) hx hb d_Vi_replaceMerged_56 (by decide) (fun c56_23 => ?_) (fun c56_23 => ?_)
      · replace hf := gp_f c56_23 hf
        exact J74 (X21, i2_17, i3_17, i4_17) _ _ _ hf (lv_sub hl [0, 1, 2, 3, 4] rfl) Y
      · replace hf := gp_t c56_23 hf
        refine lv_aload_n hx hb d_Vi_replaceMerged_59 rfl (lv_at hl 3 rfl) ?_
        refine lv_iload_n hx hb d_Vi_replaceMerged_60 rfl (lv_at hl 0 rfl) ?_
        refine lv_aload_n hx hb d_Vi_replaceMerged_61 rfl (lv_at hl 4 rfl) ?_
        refine gy_get (ci := 5) (v := va_rf (Option.map b (X21.G m1 3))) (C := "CommitLedger$Merge") (T := F_Me) (N := 4) hx hb hts i_Me hown hK Y (gF_Me hm1) rfl 3 (by decide) kf_Vi_41 rfl d_Vi_replaceMerged_62 ?_
        refine lv_null hx hb d_Vi_replaceMerged_65 ?_
        obtain ⟨X24, hF24, hf⟩ := gCv_el hf
        refine gy_callV (rm := { frames := 1, cells := 0, slots := 0, locals := 12 }) (ig := .invokevirtual 31) (av := [Value.ref (b n), Value.int i2_17, va_rf (Option.map b (X21.G m1 3)), Value.null]) Y (fun ws h hS hw => K_Vi_put l htr D tys z _ ws h hS t ht b X21 hw n hn i2_17 (X21.G m1 3) none (gR.v, X24) hF24) (gx_invV (As := [Value.int i2_17, va_rf (Option.map b (X21.G m1 3)), Value.null]) (rest := []) hx hb hown hts km_Vi_31 kI_Vi_put kV_Vi_put kc_Vi_put (by decide) (show (parseMethodDescriptor y_Vi_put.desc).map (fun d => d.parameters.length) = some 3 by decide +kernel) (gy_recv (ci := 4) hK Y rfl (gF_Vi hn)) rfl rfl d_Vi_replaceMerged_66) (gx_cw (z := 0) hts kc_Vi_put kN_Vi rfl rfl ⟨Nat.le_of_ble_eq_true rfl, Nat.le_of_ble_eq_true rfl⟩) hb hml hz hK hY hAz hA hl.1 (lv_room (Nat.le_of_ble_eq_true rfl)) d_Vi_replaceMerged_66 ⟨Nat.zero_le _, Nat.zero_le _⟩ (fun H locs Y => ?_)
        refine lv_iinc (v := i2_17 + 1) (lv' := [(2, Value.int (i2_17 + 1)), (3, Value.int i3_17), (4, Value.int i4_17), (0, Value.ref (b n)), (1, Value.ref (b m1))]) hx hb d_Vi_replaceMerged_69 hl (k := 0) rfl (rfl) (by decide) rfl (fun ls hl => ?_)
        refine lv_iconst (v := 1) hx hb d_Vi_replaceMerged_72 (by decide) ?_
        refine lv_istore_n (lv' := [(3, Value.int 1), (2, Value.int (i2_17 + 1)), (4, Value.int i4_17), (0, Value.ref (b n)), (1, Value.ref (b m1))]) hx hb d_Vi_replaceMerged_73 rfl hl (by decide) rfl (fun ls hl => ?_)
        exact J74 (X24, i2_17 + 1, 1, i4_17) _ _ _ hf (lv_sub hl [1, 0, 2, 3, 4] rfl) Y
    · replace hf := gp_t c27_22 hf
      refine lv_aload_n hx hb d_Vi_replaceMerged_30 rfl (lv_at hl 3 rfl) ?_
      refine lv_iload_n hx hb d_Vi_replaceMerged_31 rfl (lv_at hl 0 rfl) ?_
      refine lv_aload_n hx hb d_Vi_replaceMerged_32 rfl (lv_at hl 3 rfl) ?_
      refine gy_get (ci := 4) (v := Value.ref (b (n + 1))) (C := "CommitLedger$View") (T := F_Vi) (N := 6) hx hb hts i_Vi hown hK Y (gF_Vi hn) rfl 0 (by decide) kf_Vi_11 rfl d_Vi_replaceMerged_33 ?_
      refine lv_iload hx hb d_Vi_replaceMerged_36 (lv_at hl 2 rfl) ?_
      refine gy_aald hf hx hb hK Y 2 (gF_Vi1 hn) ht2 d_Vi_replaceMerged_38 (fun hf => ?_)
      refine lv_aload_n hx hb d_Vi_replaceMerged_39 rfl (lv_at hl 3 rfl) ?_
      refine gy_get (ci := 4) (v := Value.ref (b (n + 2))) (C := "CommitLedger$View") (T := F_Vi) (N := 6) hx hb hts i_Vi hown hK Y (gF_Vi hn) rfl 1 (by decide) kf_Vi_17 rfl d_Vi_replaceMerged_40 ?_
      refine lv_iload hx hb d_Vi_replaceMerged_43 (lv_at hl 2 rfl) ?_
      refine gy_aald hf hx hb hK Y 2 (gF_Vi2 hn) ht2 d_Vi_replaceMerged_45 (fun hf => ?_)
      obtain ⟨X25, hF25, hf⟩ := gCv_el hf
      refine gy_callV (rm := { frames := 1, cells := 0, slots := 0, locals := 12 }) (ig := .invokevirtual 31) (av := [Value.ref (b n), Value.int i2_17, va_rf (Option.map b (X21.G (n + 1) (gn i4_17))), va_rf (Option.map b (X21.G (n + 2) (gn i4_17)))]) Y (fun ws h hS hw => K_Vi_put l htr D tys z _ ws h hS t ht b X21 hw n hn i2_17 (X21.G (n + 1) (gn i4_17)) (X21.G (n + 2) (gn i4_17)) (gR.v, X25) hF25) (gx_invV (As := [Value.int i2_17, va_rf (Option.map b (X21.G (n + 1) (gn i4_17))), va_rf (Option.map b (X21.G (n + 2) (gn i4_17)))]) (rest := []) hx hb hown hts km_Vi_31 kI_Vi_put kV_Vi_put kc_Vi_put (by decide) (show (parseMethodDescriptor y_Vi_put.desc).map (fun d => d.parameters.length) = some 3 by decide +kernel) (gy_recv (ci := 4) hK Y rfl (gF_Vi hn)) rfl rfl d_Vi_replaceMerged_46) (gx_cw (z := 0) hts kc_Vi_put kN_Vi rfl rfl ⟨Nat.le_of_ble_eq_true rfl, Nat.le_of_ble_eq_true rfl⟩) hb hml hz hK hY hAz hA hl.1 (lv_room (Nat.le_of_ble_eq_true rfl)) d_Vi_replaceMerged_46 ⟨Nat.zero_le _, Nat.zero_le _⟩ (fun H locs Y => ?_)
      refine lv_iinc (v := i2_17 + 1) (lv' := [(2, Value.int (i2_17 + 1)), (3, Value.int i3_17), (4, Value.int i4_17), (0, Value.ref (b n)), (1, Value.ref (b m1))]) hx hb d_Vi_replaceMerged_49 hl (k := 0) rfl (rfl) (by decide) rfl (fun ls hl => ?_)
      refine lv_goto (tgt := 74) hx hb d_Vi_replaceMerged_52 (by decide) ?_
      exact J74 (X25, i2_17 + 1, i3_17, i4_17) _ _ _ hf (lv_sub hl [0, 1, 2, 3, 4] rfl) Y

def f_Vi_listIsRight_24 (X : gX) (n : Nat) (i1 : Int32) (o1000 : Option Nat) : Option (gR × gX) := gM o1000 (fun n2 => (if gFile X.N n2 then (if gIn i1 4096 then gCi (f_Vi_liveIn X n (X.G (n + 1) (gn i1))) (fun x4 X4 => (if (X.I n2 4) = x4 then some (gR.i 1, X4) else some (gR.i 0, X4))) else none) else none))
def f_Vi_listIsRight (X0 : gX) (n : Nat) (a1 : Int32) : Option (gR × gX) := (if gIn a1 4096 then (gO (X0.G (n + 2) (gn a1)) (if gIn a1 4096 then f_Vi_listIsRight_24 X0 n a1 (X0.G (n + 1) (gn a1)) else none) (fun n1 => (if gIn a1 4096 then f_Vi_listIsRight_24 X0 n a1 (X0.G (n + 2) (gn a1)) else none))) else none)
set_option maxHeartbeats 4000000 in
set_option maxRecDepth 100000 in
theorem K_Vi_listIsRight (l : Launch) (htr : l.stackTraces = false) (D : va_G) (tys : List (ClassId × FieldType)) (z sz : Nat) (ws : va_W) (h : gm_M) (hM : gm_S h ws) (t : Nat → ClassId) (ht : gTy t tys) (b : Nat → Nat) (X0 : gX) (hw : gw D t b X0 h) (n : Nat) (hn : gVie n = true) (a1 : Int32) (o : gR × gX) (hf : f_Vi_listIsRight X0 n a1 = some o) : gx_Met l y_Vi_listIsRight [Cond.code y_Vi_listIsRight b_Vi_listIsRight 3 (some .boolean)] { frames := 3, cells := 0, slots := 0, locals := 57 } (gx_P z sz D classes tys ws [Value.ref (b n), Value.int a1]) (gx_Q D classes tys (va_A ws sz) (gPo D t b X0 o)) (0) (0) (va_A ws sz) := by
  refine gx_ofW (cc := b_Vi_listIsRight) (maxL := 3) (ret := (some .boolean)) (by decide) rfl ?_
  intro p e s m args below meth c s₁ B hml hv
  obtain ⟨rfl, hsz, hz, hP, hK, hD0, hY⟩ := hv
  have hx := B.exec
  have hb := B.bytes
  have hr := B.returns
  have hts := hY.hts (#[Value.ref (b n), Value.int a1] : Array Value)
  have hown : s.vm.findClass "CommitLedger$View" = some m.cls := findClass_of_methodNamed B.named
  have hlocks := B.notSynchronized
  subst hsz
  have hAz := gx_az hD0 hz
  have hD := hD0.self (sz := s.heap.size)
  have hA : ∀ q : Nat, s.heap.size ≤ q → va_A ws s.heap.size q := fun q h => Or.inr h
  generalize va_A ws s.heap.size = A at hD hA hAz ⊢
  have Y : gy D t b A s.heap X0 X0 s.heap [] := ⟨h, ⟨ws, hM, hP, hD, va_S.rf⟩, hw, gEq.rf⟩
  clear hP hD hM hD0 hw
  obtain ⟨ht0, ht1, ht2, ht3, ht4, ht5, ht6, ht7, ht8⟩ := id ht
  have hl := lv_entry ([Value.ref (b n), Value.int a1]) (n := 3) (Nat.le_of_ble_eq_true rfl)
  rw [lg_entry_eq]
  generalize (lg_sl ([Value.ref (b n), Value.int a1]) ++ List.replicate (3 - (lg_sl ([Value.ref (b n), Value.int a1])).length) Slot.unset).toArray = ls at hl ⊢
  have hl : lv_has ls 3 [(0, Value.ref (b n)), (1, Value.int a1)] := hl
  refine gy_cut (pcJ := 24) Y (fun s : gX × Option Nat => f_Vi_listIsRight_24 s.1 n a1 s.2) o (fun s => s.1) (fun s ls => lv_has ls 3 [(0, Value.ref (b n)), (1, Value.int a1)]) (fun s => [va_rf (Option.map b s.2)]) ?_ (fun J24 => ?_)
  · rintro ⟨X6, o1000_6⟩ H locs ls hf hl Y
    have hl : lv_has ls 3 [(0, Value.ref (b n)), (1, Value.int a1)] := hl
    have Y : gy D t b A s.heap X0 X6 H locs := Y
    have hf : f_Vi_listIsRight_24 X6 n a1 o1000_6 = some o := hf
    unfold f_Vi_listIsRight_24 at hf
    refine W.eq (g2 := F0 m 24 ls [va_rf (Option.map b o1000_6)]) rfl ?_
    refine lv_astore_nO (lv' := [(2, va_rf (Option.map b o1000_6)), (0, Value.ref (b n)), (1, Value.int a1)]) hx hb d_Vi_listIsRight_24 rfl hl (by decide) rfl (fun ls hl => ?_)
    refine lv_aload_nO hx hb d_Vi_listIsRight_25 rfl (lv_at hl 0 rfl) ?_
    obtain ⟨n7, e7, hf⟩ := gM_el hf
    refine W.eq (g2 := F0 m 26 ls [Value.ref (b n7)]) (by rw [e7] <;> rfl) ?_
    obtain ⟨hv8, hf⟩ := gp_g hf
    refine gy_get (ci := 7) (v := Value.int (X6.I n7 4)) (C := "CommitLedger$LedgerFile") (T := F_Fi) (N := 7) hx hb hts i_Fi hown hK Y (gF_Fi hv8) rfl 4 (by decide) kf_Vi_55 rfl d_Vi_listIsRight_26 ?_
    refine lv_aload_n hx hb d_Vi_listIsRight_29 rfl (lv_at hl 1 rfl) ?_
    refine lv_aload_n hx hb d_Vi_listIsRight_30 rfl (lv_at hl 1 rfl) ?_
    refine gy_get (ci := 4) (v := Value.ref (b (n + 1))) (C := "CommitLedger$View") (T := F_Vi) (N := 6) hx hb hts i_Vi hown hK Y (gF_Vi hn) rfl 0 (by decide) kf_Vi_11 rfl d_Vi_listIsRight_31 ?_
    refine lv_iload_n hx hb d_Vi_listIsRight_34 rfl (lv_at hl 2 rfl) ?_
    refine gy_aald hf hx hb hK Y 2 (gF_Vi1 hn) ht2 d_Vi_listIsRight_35 (fun hf => ?_)
    obtain ⟨x9, X9, hF9, hf⟩ := gCi_el hf
    refine gy_callI (rm := { frames := 2, cells := 0, slots := 0, locals := 36 }) (ig := .invokevirtual 58) (av := [Value.ref (b n), va_rf (Option.map b (X6.G (n + 1) (gn a1)))]) Y (fun ws h hS hw => K_Vi_liveIn l htr D tys z _ ws h hS t ht b X6 hw n hn (X6.G (n + 1) (gn a1)) (gR.i x9, X9) hF9) (gx_invV (As := [va_rf (Option.map b (X6.G (n + 1) (gn a1)))]) (rest := [Value.int (X6.I n7 4)]) hx hb hown hts km_Vi_58 kI_Vi_liveIn kV_Vi_liveIn kc_Vi_liveIn (by decide) (show (parseMethodDescriptor y_Vi_liveIn.desc).map (fun d => d.parameters.length) = some 1 by decide +kernel) (gy_recv (ci := 4) hK Y rfl (gF_Vi hn)) rfl rfl d_Vi_listIsRight_36) (gx_cw (z := 0) hts kc_Vi_liveIn kN_Vi rfl rfl ⟨Nat.le_of_ble_eq_true rfl, Nat.le_of_ble_eq_true rfl⟩) hb hml hz hK hY hAz hA hl.1 (lv_room (Nat.le_of_ble_eq_true rfl)) d_Vi_listIsRight_36 ⟨Nat.zero_le _, Nat.zero_le _⟩ (fun H locs Y => ?_)
    refine lv_icmp_ne (tgt := 46) hx hb d_Vi_listIsRight_39 (by decide) (fun c39_10 => ?_) (fun c39_10 => ?_)
    · replace hf := gp_f c39_10 hf
      refine lv_iconst (v := 0) hx hb d_Vi_listIsRight_46 (by decide) ?_
      exact gy_zret hf hx hb hr hlocks hK Y (Nat.zero_le _) (Nat.zero_le _) rfl d_Vi_listIsRight_47
    · replace hf := gp_t c39_10 hf
      refine lv_iconst (v := 1) hx hb d_Vi_listIsRight_42 (by decide) ?_
      refine lv_goto (tgt := 47) hx hb d_Vi_listIsRight_43 (by decide) ?_
      exact gy_zret hf hx hb hr hlocks hK Y (Nat.zero_le _) (Nat.zero_le _) rfl d_Vi_listIsRight_47
  unfold f_Vi_listIsRight at hf
  refine lv_aload_n hx hb d_Vi_listIsRight_0 rfl (lv_at hl 0 rfl) ?_
  refine gy_get (ci := 4) (v := Value.ref (b (n + 2))) (C := "CommitLedger$View") (T := F_Vi) (N := 6) hx hb hts i_Vi hown hK Y (gF_Vi hn) rfl 1 (by decide) kf_Vi_17 rfl d_Vi_listIsRight_1 ?_
  refine lv_iload_n hx hb d_Vi_listIsRight_4 rfl (lv_at hl 1 rfl) ?_
  refine gy_aald hf hx hb hK Y 2 (gF_Vi2 hn) ht2 d_Vi_listIsRight_5 (fun hf => ?_)
  rcases gO_el hf with ⟨e11, hf⟩ | ⟨n11, e11, hf⟩
  · refine W.eq (g2 := F0 m 6 ls [Value.null]) (by rw [e11] <;> rfl) ?_
    refine lv_ifnullN (tgt := 18) hx hb d_Vi_listIsRight_6 (by decide) ?_
    refine lv_aload_n hx hb d_Vi_listIsRight_18 rfl (lv_at hl 0 rfl) ?_
    refine gy_get (ci := 4) (v := Value.ref (b (n + 1))) (C := "CommitLedger$View") (T := F_Vi) (N := 6) hx hb hts i_Vi hown hK Y (gF_Vi hn) rfl 0 (by decide) kf_Vi_11 rfl d_Vi_listIsRight_19 ?_
    refine lv_iload_n hx hb d_Vi_listIsRight_22 rfl (lv_at hl 1 rfl) ?_
    refine gy_aald hf hx hb hK Y 2 (gF_Vi1 hn) ht2 d_Vi_listIsRight_23 (fun hf => ?_)
    exact J24 (X0, X0.G (n + 1) (gn a1)) _ _ _ hf (lv_sub hl [0, 1] rfl) Y
  · refine W.eq (g2 := F0 m 6 ls [Value.ref (b n11)]) (by rw [e11] <;> rfl) ?_
    refine lv_ifnull hx hb d_Vi_listIsRight_6 ?_
    refine lv_aload_n hx hb d_Vi_listIsRight_9 rfl (lv_at hl 0 rfl) ?_
    refine gy_get (ci := 4) (v := Value.ref (b (n + 2))) (C := "CommitLedger$View") (T := F_Vi) (N := 6) hx hb hts i_Vi hown hK Y (gF_Vi hn) rfl 1 (by decide) kf_Vi_17 rfl d_Vi_listIsRight_10 ?_
    refine lv_iload_n hx hb d_Vi_listIsRight_13 rfl (lv_at hl 1 rfl) ?_
    refine gy_aald hf hx hb hK Y 2 (gF_Vi2 hn) ht2 d_Vi_listIsRight_14 (fun hf => ?_)
    refine lv_goto (tgt := 24) hx hb d_Vi_listIsRight_15 (by decide) ?_
    exact J24 (X0, X0.G (n + 2) (gn a1)) _ _ _ hf (lv_sub hl [0, 1] rfl) Y

def f_Vi_entriesInSegments_4 (X : gX) (n : Nat) (i1 : Int32) (i2 : Int32) : Option ((Int32 × Int32) ⊕ (gR × gX)) := (if (X.I n 4) ≤ i2 then gLf (some (gR.i i1, X)) else (if gIn i2 4096 then gM (X.G (n + 1) (gn i2)) (fun n3 => (if gFile X.N n3 then some (Sum.inl (i1 + (X.I n3 4), i2 + 1)) else none)) else none))
def f_Vi_entriesInSegments (X0 : gX) (n : Nat) : Option (gR × gX) := gI (fun s : Int32 × Int32 => f_Vi_entriesInSegments_4 X0 n s.1 s.2) gK (0, 0)
set_option maxHeartbeats 4000000 in
set_option maxRecDepth 100000 in
theorem K_Vi_entriesInSegments (l : Launch) (htr : l.stackTraces = false) (D : va_G) (tys : List (ClassId × FieldType)) (z sz : Nat) (ws : va_W) (h : gm_M) (hM : gm_S h ws) (t : Nat → ClassId) (ht : gTy t tys) (b : Nat → Nat) (X0 : gX) (hw : gw D t b X0 h) (n : Nat) (hn : gVie n = true) (o : gR × gX) (hf : f_Vi_entriesInSegments X0 n = some o) : gx_Met l y_Vi_entriesInSegments [Cond.code y_Vi_entriesInSegments b_Vi_entriesInSegments 3 (some .int)] { frames := 1, cells := 0, slots := 0, locals := 12 } (gx_P z sz D classes tys ws [Value.ref (b n)]) (gx_Q D classes tys (va_A ws sz) (gPo D t b X0 o)) (0) (0) (va_A ws sz) := by
  refine gx_ofW (cc := b_Vi_entriesInSegments) (maxL := 3) (ret := (some .int)) (by decide) rfl ?_
  intro p e s m args below meth c s₁ B hml hv
  obtain ⟨rfl, hsz, hz, hP, hK, hD0, hY⟩ := hv
  have hx := B.exec
  have hb := B.bytes
  have hr := B.returns
  have hts := hY.hts (#[Value.ref (b n)] : Array Value)
  have hown : s.vm.findClass "CommitLedger$View" = some m.cls := findClass_of_methodNamed B.named
  have hlocks := B.notSynchronized
  subst hsz
  have hAz := gx_az hD0 hz
  have hD := hD0.self (sz := s.heap.size)
  have hA : ∀ q : Nat, s.heap.size ≤ q → va_A ws s.heap.size q := fun q h => Or.inr h
  generalize va_A ws s.heap.size = A at hD hA hAz ⊢
  have Y : gy D t b A s.heap X0 X0 s.heap [] := ⟨h, ⟨ws, hM, hP, hD, va_S.rf⟩, hw, gEq.rf⟩
  clear hP hD hM hD0 hw
  obtain ⟨ht0, ht1, ht2, ht3, ht4, ht5, ht6, ht7, ht8⟩ := id ht
  have hl := lv_entry ([Value.ref (b n)]) (n := 3) (Nat.le_of_ble_eq_true rfl)
  rw [lg_entry_eq]
  generalize (lg_sl ([Value.ref (b n)]) ++ List.replicate (3 - (lg_sl ([Value.ref (b n)])).length) Slot.unset).toArray = ls at hl ⊢
  have hl : lv_has ls 3 [(0, Value.ref (b n))] := hl
  unfold f_Vi_entriesInSegments at hf
  refine lv_iconst (v := 0) hx hb d_Vi_entriesInSegments_0 (by decide) ?_
  refine lv_istore_n (lv' := [(1, Value.int 0), (0, Value.ref (b n))]) hx hb d_Vi_entriesInSegments_1 rfl hl (by decide) rfl (fun ls hl => ?_)
  refine lv_iconst (v := 0) hx hb d_Vi_entriesInSegments_2 (by decide) ?_
  refine lv_istore_n (lv' := [(2, Value.int 0), (1, Value.int 0), (0, Value.ref (b n))]) hx hb d_Vi_entriesInSegments_3 rfl hl (by decide) rfl (fun ls hl => ?_)
  refine gy_iter (fun s : Int32 × Int32 => X0) (fun (s : Int32 × Int32) ls => lv_has ls 3 [(1, Value.int s.1), (2, Value.int s.2), (0, Value.ref (b n))]) ?_ gK (0, 0) _ _ _ hf (lv_sub hl [1, 0, 2] rfl) Y
  rintro ⟨i1_8, i2_8⟩ u8 H locs ls hf hl Y hk8 ho8
  have hl : lv_has ls 3 [(1, Value.int i1_8), (2, Value.int i2_8), (0, Value.ref (b n))] := hl
  have Y : gy D t b A s.heap X0 X0 H locs := Y
  have hf : f_Vi_entriesInSegments_4 X0 n i1_8 i2_8 = some u8 := hf
  unfold f_Vi_entriesInSegments_4 at hf
  refine lv_iload_n hx hb d_Vi_entriesInSegments_4 rfl (lv_at hl 1 rfl) ?_
  refine lv_aload_n hx hb d_Vi_entriesInSegments_5 rfl (lv_at hl 2 rfl) ?_
  refine gy_get (ci := 4) (v := Value.int (X0.I n 4)) (C := "CommitLedger$View") (T := F_Vi) (N := 6) hx hb hts i_Vi hown hK Y (gF_Vi hn) rfl 4 (by decide) kf_Vi_24 rfl d_Vi_entriesInSegments_6 ?_
  refine lv_icmp_ge (tgt := 30) hx hb d_Vi_entriesInSegments_9 (by decide) (fun c9_9 => ?_) (fun c9_9 => ?_)
  · replace hf := gp_t c9_9 hf
    refine lv_iload_n hx hb d_Vi_entriesInSegments_30 rfl (lv_at hl 0 rfl) ?_
    replace hf := gU hf ho8
    exact gy_iret hf hx hb hr hlocks hK Y (Nat.zero_le _) (Nat.zero_le _) d_Vi_entriesInSegments_31
  · replace hf := gp_f c9_9 hf
    refine lv_iload_n hx hb d_Vi_entriesInSegments_12 rfl (lv_at hl 0 rfl) ?_
    refine lv_aload_n hx hb d_Vi_entriesInSegments_13 rfl (lv_at hl 2 rfl) ?_
    refine gy_get (ci := 4) (v := Value.ref (b (n + 1))) (C := "CommitLedger$View") (T := F_Vi) (N := 6) hx hb hts i_Vi hown hK Y (gF_Vi hn) rfl 0 (by decide) kf_Vi_11 rfl d_Vi_entriesInSegments_14 ?_
    refine lv_iload_n hx hb d_Vi_entriesInSegments_17 rfl (lv_at hl 1 rfl) ?_
    refine gy_aald hf hx hb hK Y 2 (gF_Vi1 hn) ht2 d_Vi_entriesInSegments_18 (fun hf => ?_)
    obtain ⟨n10, e10, hf⟩ := gM_el hf
    refine W.eq (g2 := F0 m 19 ls [Value.ref (b n10), Value.int i1_8]) (by rw [e10] <;> rfl) ?_
    obtain ⟨hv11, hf⟩ := gp_g hf
    refine gy_get (ci := 7) (v := Value.int (X0.I n10 4)) (C := "CommitLedger$LedgerFile") (T := F_Fi) (N := 7) hx hb hts i_Fi hown hK Y (gF_Fi hv11) rfl 4 (by decide) kf_Vi_55 rfl d_Vi_entriesInSegments_19 ?_
    refine lv_iadd hx hb d_Vi_entriesInSegments_22 ?_
    refine lv_istore_n (lv' := [(1, Value.int (i1_8 + (X0.I n10 4))), (2, Value.int i2_8), (0, Value.ref (b n))]) hx hb d_Vi_entriesInSegments_23 rfl hl (by decide) rfl (fun ls hl => ?_)
    refine lv_iinc (v := i2_8 + 1) (lv' := [(2, Value.int (i2_8 + 1)), (1, Value.int (i1_8 + (X0.I n10 4))), (0, Value.ref (b n))]) hx hb d_Vi_entriesInSegments_24 hl (k := 1) rfl (rfl) (by decide) rfl (fun ls hl => ?_)
    refine lv_goto (tgt := 4) hx hb d_Vi_entriesInSegments_27 (by decide) ?_
    exact hk8 _ _ _ _ hf (lv_sub hl [1, 0, 2] rfl) Y

def f_Vi_hasHarmedFile_72 (X : gX) (n : Nat) : Option (gR × gX) := some (gR.i 0, X)
def f_Vi_hasHarmedFile_45 (X : gX) (n : Nat) (i1 : Int32) : Option ((Int32) ⊕ (gR × gX)) := some (Sum.inl (i1 + 1))
def f_Vi_hasHarmedFile_43 (X : gX) (n : Nat) : Option (gR × gX) := some (gR.i 1, X)
def f_Vi_hasHarmedFile_2 (X : gX) (n : Nat) (i1 : Int32) : Option ((Int32) ⊕ (gR × gX)) := (if (X.I n 4) ≤ i1 then (gO (X.G n 3) (gLf (f_Vi_hasHarmedFile_72 X n)) (fun n3 => gM (X.G n 3) (fun n4 => (if gFile X.N n4 then (if (X.I n4 2) = (0 : Int32) then gLf (f_Vi_hasHarmedFile_72 X n) else gLf (some (gR.i 1, X))) else none)))) else (if gIn i1 4096 then gM (X.G (n + 1) (gn i1)) (fun n7 => (if gFile X.N n7 then (if (X.I n7 2) = (0 : Int32) then (if gIn i1 4096 then (gO (X.G (n + 2) (gn i1)) (f_Vi_hasHarmedFile_45 X n i1) (fun n10 => (if gIn i1 4096 then gM (X.G (n + 2) (gn i1)) (fun n11 => (if gFile X.N n11 then (if (X.I n11 2) = (0 : Int32) then f_Vi_hasHarmedFile_45 X n i1 else gLf (f_Vi_hasHarmedFile_43 X n)) else none)) else none))) else none) else gLf (f_Vi_hasHarmedFile_43 X n)) else none)) else none))
def f_Vi_hasHarmedFile (X0 : gX) (n : Nat) : Option (gR × gX) := gI (fun s : Int32 => f_Vi_hasHarmedFile_2 X0 n s) gK 0
set_option maxHeartbeats 4000000 in
set_option maxRecDepth 100000 in
theorem K_Vi_hasHarmedFile (l : Launch) (htr : l.stackTraces = false) (D : va_G) (tys : List (ClassId × FieldType)) (z sz : Nat) (ws : va_W) (h : gm_M) (hM : gm_S h ws) (t : Nat → ClassId) (ht : gTy t tys) (b : Nat → Nat) (X0 : gX) (hw : gw D t b X0 h) (n : Nat) (hn : gVie n = true) (o : gR × gX) (hf : f_Vi_hasHarmedFile X0 n = some o) : gx_Met l y_Vi_hasHarmedFile [Cond.code y_Vi_hasHarmedFile b_Vi_hasHarmedFile 2 (some .boolean)] { frames := 1, cells := 0, slots := 0, locals := 12 } (gx_P z sz D classes tys ws [Value.ref (b n)]) (gx_Q D classes tys (va_A ws sz) (gPo D t b X0 o)) (0) (0) (va_A ws sz) := by
  refine gx_ofW (cc := b_Vi_hasHarmedFile) (maxL := 2) (ret := (some .boolean)) (by decide) rfl ?_
  intro p e s m args below meth c s₁ B hml hv
  obtain ⟨rfl, hsz, hz, hP, hK, hD0, hY⟩ := hv
  have hx := B.exec
  have hb := B.bytes
  have hr := B.returns
  have hts := hY.hts (#[Value.ref (b n)] : Array Value)
  have hown : s.vm.findClass "CommitLedger$View" = some m.cls := findClass_of_methodNamed B.named
  have hlocks := B.notSynchronized
  subst hsz
  have hAz := gx_az hD0 hz
  have hD := hD0.self (sz := s.heap.size)
  have hA : ∀ q : Nat, s.heap.size ≤ q → va_A ws s.heap.size q := fun q h => Or.inr h
  generalize va_A ws s.heap.size = A at hD hA hAz ⊢
  have Y : gy D t b A s.heap X0 X0 s.heap [] := ⟨h, ⟨ws, hM, hP, hD, va_S.rf⟩, hw, gEq.rf⟩
  clear hP hD hM hD0 hw
  obtain ⟨ht0, ht1, ht2, ht3, ht4, ht5, ht6, ht7, ht8⟩ := id ht
  have hl := lv_entry ([Value.ref (b n)]) (n := 2) (Nat.le_of_ble_eq_true rfl)
  rw [lg_entry_eq]
  generalize (lg_sl ([Value.ref (b n)]) ++ List.replicate (2 - (lg_sl ([Value.ref (b n)])).length) Slot.unset).toArray = ls at hl ⊢
  have hl : lv_has ls 2 [(0, Value.ref (b n))] := hl
  refine gy_cut (pcJ := 72) Y (fun s : Unit => f_Vi_hasHarmedFile_72 X0 n) o (fun s => X0) (fun s ls => lv_has ls 2 []) (fun s => []) ?_ (fun J72 => ?_)
  · rintro _ H locs ls hf hl Y
    have hl : lv_has ls 2 [] := hl
    have Y : gy D t b A s.heap X0 X0 H locs := Y
    have hf : f_Vi_hasHarmedFile_72 X0 n = some o := hf
    unfold f_Vi_hasHarmedFile_72 at hf
    refine lv_iconst (v := 0) hx hb d_Vi_hasHarmedFile_72 (by decide) ?_
    exact gy_zret hf hx hb hr hlocks hK Y (Nat.zero_le _) (Nat.zero_le _) rfl d_Vi_hasHarmedFile_73
  refine gy_cut (pcJ := 43) Y (fun s : Unit => f_Vi_hasHarmedFile_43 X0 n) o (fun s => X0) (fun s ls => lv_has ls 2 []) (fun s => []) ?_ (fun J43 => ?_)
  · rintro _ H locs ls hf hl Y
    have hl : lv_has ls 2 [] := hl
    have Y : gy D t b A s.heap X0 X0 H locs := Y
    have hf : f_Vi_hasHarmedFile_43 X0 n = some o := hf
    unfold f_Vi_hasHarmedFile_43 at hf
    refine lv_iconst (v := 1) hx hb d_Vi_hasHarmedFile_43 (by decide) ?_
    exact gy_zret hf hx hb hr hlocks hK Y (Nat.zero_le _) (Nat.zero_le _) rfl d_Vi_hasHarmedFile_44
  unfold f_Vi_hasHarmedFile at hf
  refine lv_iconst (v := 0) hx hb d_Vi_hasHarmedFile_0 (by decide) ?_
  refine lv_istore_n (lv' := [(1, Value.int 0), (0, Value.ref (b n))]) hx hb d_Vi_hasHarmedFile_1 rfl hl (by decide) rfl (fun ls hl => ?_)
  refine gy_iter (fun s : Int32 => X0) (fun (s : Int32) ls => lv_has ls 2 [(1, Value.int s), (0, Value.ref (b n))]) ?_ gK 0 _ _ _ hf (lv_sub hl [0, 1] rfl) Y
  rintro i1_29 u29 H locs ls hf hl Y hk29 ho29
  have hl : lv_has ls 2 [(1, Value.int i1_29), (0, Value.ref (b n))] := hl
  have Y : gy D t b A s.heap X0 X0 H locs := Y
  have hf : f_Vi_hasHarmedFile_2 X0 n i1_29 = some u29 := hf
  refine gy_cut (pcJ := 45) Y (fun s : Int32 => f_Vi_hasHarmedFile_45 X0 n s) u29 (fun s => X0) (fun s ls => lv_has ls 2 [(1, Value.int s), (0, Value.ref (b n))]) (fun s => []) ?_ (fun J45 => ?_)
  · rintro i1_30 H locs ls hf hl Y
    have hl : lv_has ls 2 [(1, Value.int i1_30), (0, Value.ref (b n))] := hl
    have Y : gy D t b A s.heap X0 X0 H locs := Y
    have hf : f_Vi_hasHarmedFile_45 X0 n i1_30 = some u29 := hf
    unfold f_Vi_hasHarmedFile_45 at hf
    refine lv_iinc (v := i1_30 + 1) (lv' := [(1, Value.int (i1_30 + 1)), (0, Value.ref (b n))]) hx hb d_Vi_hasHarmedFile_45 hl (k := 0) rfl (rfl) (by decide) rfl (fun ls hl => ?_)
    refine lv_goto (tgt := 2) hx hb d_Vi_hasHarmedFile_48 (by decide) ?_
    exact hk29 _ _ _ _ hf (lv_sub hl [0, 1] rfl) Y
  unfold f_Vi_hasHarmedFile_2 at hf
  refine lv_iload_n hx hb d_Vi_hasHarmedFile_2 rfl (lv_at hl 0 rfl) ?_
  refine lv_aload_n hx hb d_Vi_hasHarmedFile_3 rfl (lv_at hl 1 rfl) ?_
  refine gy_get (ci := 4) (v := Value.int (X0.I n 4)) (C := "CommitLedger$View") (T := F_Vi) (N := 6) hx hb hts i_Vi hown hK Y (gF_Vi hn) rfl 4 (by decide) kf_Vi_24 rfl d_Vi_hasHarmedFile_4 ?_
  refine lv_icmp_ge (tgt := 51) hx hb d_Vi_hasHarmedFile_7 (by decide) (fun c7_31 => ?_) (fun c7_31 => ?_)
  · replace hf := gp_t c7_31 hf
    refine lv_aload_n hx hb d_Vi_hasHarmedFile_51 rfl (lv_at hl 1 rfl) ?_
    refine gy_get (ci := 4) (v := va_rf (Option.map b (X0.G n 3))) (C := "CommitLedger$View") (T := F_Vi) (N := 6) hx hb hts i_Vi hown hK Y (gF_Vi hn) rfl 3 (by decide) kf_Vi_66 rfl d_Vi_hasHarmedFile_52 ?_
    rcases gO_el hf with ⟨e32, hf⟩ | ⟨n32, e32, hf⟩
    · refine W.eq (g2 := F0 m 55 ls [Value.null]) (by rw [e32] <;> rfl) ?_
      refine lv_ifnullN (tgt := 72) hx hb d_Vi_hasHarmedFile_55 (by decide) ?_
      replace hf := gU hf ho29
      exact J72 () _ _ _ hf (lv_sub hl [] rfl) Y
    · refine W.eq (g2 := F0 m 55 ls [Value.ref (b n32)]) (by rw [e32] <;> rfl) ?_
      refine lv_ifnull hx hb d_Vi_hasHarmedFile_55 ?_
      refine lv_aload_n hx hb d_Vi_hasHarmedFile_58 rfl (lv_at hl 1 rfl) ?_
      refine gy_get (ci := 4) (v := va_rf (Option.map b (X0.G n 3))) (C := "CommitLedger$View") (T := F_Vi) (N := 6) hx hb hts i_Vi hown hK Y (gF_Vi hn) rfl 3 (by decide) kf_Vi_66 rfl d_Vi_hasHarmedFile_59 ?_
      obtain ⟨n33, e33, hf⟩ := gM_el hf
      refine W.eq (g2 := F0 m 62 ls [Value.ref (b n33)]) (by rw [e33] <;> rfl) ?_
      obtain ⟨hv34, hf⟩ := gp_g hf
      refine gy_get (ci := 7) (v := Value.int (X0.I n33 2)) (C := "CommitLedger$LedgerFile") (T := F_Fi) (N := 7) hx hb hts i_Fi hown hK Y (gF_Fi hv34) rfl 2 (by decide) kf_Vi_62 rfl d_Vi_hasHarmedFile_62 ?_
      refine lv_if_eq (tgt := 72) hx hb d_Vi_hasHarmedFile_65 (by decide) (fun c65_35 => ?_) (fun c65_35 => ?_)
      · replace hf := gp_t c65_35 hf
        replace hf := gU hf ho29
        exact J72 () _ _ _ hf (lv_sub hl [] rfl) Y
      · replace hf := gp_f c65_35 hf
        refine lv_iconst (v := 1) hx hb d_Vi_hasHarmedFile_68 (by decide) ?_
        refine lv_goto (tgt := 73) hx hb d_Vi_hasHarmedFile_69 (by decide) ?_
        replace hf := gU hf ho29
        exact gy_zret hf hx hb hr hlocks hK Y (Nat.zero_le _) (Nat.zero_le _) rfl d_Vi_hasHarmedFile_73
  · replace hf := gp_f c7_31 hf
    refine lv_aload_n hx hb d_Vi_hasHarmedFile_10 rfl (lv_at hl 1 rfl) ?_
    refine gy_get (ci := 4) (v := Value.ref (b (n + 1))) (C := "CommitLedger$View") (T := F_Vi) (N := 6) hx hb hts i_Vi hown hK Y (gF_Vi hn) rfl 0 (by decide) kf_Vi_11 rfl d_Vi_hasHarmedFile_11 ?_
    refine lv_iload_n hx hb d_Vi_hasHarmedFile_14 rfl (lv_at hl 0 rfl) ?_
    refine gy_aald hf hx hb hK Y 2 (gF_Vi1 hn) ht2 d_Vi_hasHarmedFile_15 (fun hf => ?_)
    obtain ⟨n36, e36, hf⟩ := gM_el hf
    refine W.eq (g2 := F0 m 16 ls [Value.ref (b n36)]) (by rw [e36] <;> rfl) ?_
    obtain ⟨hv37, hf⟩ := gp_g hf
    refine gy_get (ci := 7) (v := Value.int (X0.I n36 2)) (C := "CommitLedger$LedgerFile") (T := F_Fi) (N := 7) hx hb hts i_Fi hown hK Y (gF_Fi hv37) rfl 2 (by decide) kf_Vi_62 rfl d_Vi_hasHarmedFile_16 ?_
    refine lv_if_ne (tgt := 43) hx hb d_Vi_hasHarmedFile_19 (by decide) (fun c19_38 => ?_) (fun c19_38 => ?_)
    · replace hf := gp_f c19_38 hf
      replace hf := gU hf ho29
      exact J43 () _ _ _ hf (lv_sub hl [] rfl) Y
    · replace hf := gp_t c19_38 hf
      refine lv_aload_n hx hb d_Vi_hasHarmedFile_22 rfl (lv_at hl 1 rfl) ?_
      refine gy_get (ci := 4) (v := Value.ref (b (n + 2))) (C := "CommitLedger$View") (T := F_Vi) (N := 6) hx hb hts i_Vi hown hK Y (gF_Vi hn) rfl 1 (by decide) kf_Vi_17 rfl d_Vi_hasHarmedFile_23 ?_
      refine lv_iload_n hx hb d_Vi_hasHarmedFile_26 rfl (lv_at hl 0 rfl) ?_
      refine gy_aald hf hx hb hK Y 2 (gF_Vi2 hn) ht2 d_Vi_hasHarmedFile_27 (fun hf => ?_)
      rcases gO_el hf with ⟨e39, hf⟩ | ⟨n39, e39, hf⟩
      · refine W.eq (g2 := F0 m 28 ls [Value.null]) (by rw [e39] <;> rfl) ?_
        refine lv_ifnullN (tgt := 45) hx hb d_Vi_hasHarmedFile_28 (by decide) ?_
        exact J45 i1_29 _ _ _ hf (lv_sub hl [0, 1] rfl) Y
      · refine W.eq (g2 := F0 m 28 ls [Value.ref (b n39)]) (by rw [e39] <;> rfl) ?_
        refine lv_ifnull hx hb d_Vi_hasHarmedFile_28 ?_
        refine lv_aload_n hx hb d_Vi_hasHarmedFile_31 rfl (lv_at hl 1 rfl) ?_
        refine gy_get (ci := 4) (v := Value.ref (b (n + 2))) (C := "CommitLedger$View") (T := F_Vi) (N := 6) hx hb hts i_Vi hown hK Y (gF_Vi hn) rfl 1 (by decide) kf_Vi_17 rfl d_Vi_hasHarmedFile_32 ?_
        refine lv_iload_n hx hb d_Vi_hasHarmedFile_35 rfl (lv_at hl 0 rfl) ?_
        refine gy_aald hf hx hb hK Y 2 (gF_Vi2 hn) ht2 d_Vi_hasHarmedFile_36 (fun hf => ?_)
        obtain ⟨n40, e40, hf⟩ := gM_el hf
        refine W.eq (g2 := F0 m 37 ls [Value.ref (b n40)]) (by rw [e40] <;> rfl) ?_
        obtain ⟨hv41, hf⟩ := gp_g hf
        refine gy_get (ci := 7) (v := Value.int (X0.I n40 2)) (C := "CommitLedger$LedgerFile") (T := F_Fi) (N := 7) hx hb hts i_Fi hown hK Y (gF_Fi hv41) rfl 2 (by decide) kf_Vi_62 rfl d_Vi_hasHarmedFile_37 ?_
        refine lv_if_eq (tgt := 45) hx hb d_Vi_hasHarmedFile_40 (by decide) (fun c40_42 => ?_) (fun c40_42 => ?_)
        · replace hf := gp_t c40_42 hf
          exact J45 i1_29 _ _ _ hf (lv_sub hl [0, 1] rfl) Y
        · replace hf := gp_f c40_42 hf
          replace hf := gU hf ho29
          exact J43 () _ _ _ hf (lv_sub hl [] rfl) Y

def f_Le_need (X0 : gX) (m0 : Option Nat) : Option (gR × gX) := (gO m0 (some (gR.v, X0)) (fun n1 => (if gFile X0.N n1 then gB (X0.w n1 3 1) (fun X3 => some (gR.v, X3)) else none)))
set_option maxHeartbeats 4000000 in
set_option maxRecDepth 100000 in
theorem K_Le_need (l : Launch) (htr : l.stackTraces = false) (D : va_G) (tys : List (ClassId × FieldType)) (z sz : Nat) (ws : va_W) (h : gm_M) (hM : gm_S h ws) (t : Nat → ClassId) (ht : gTy t tys) (b : Nat → Nat) (X0 : gX) (hw : gw D t b X0 h) (m0 : Option Nat) (o : gR × gX) (hf : f_Le_need X0 m0 = some o) : gx_Met l y_Le_need [Cond.code y_Le_need b_Le_need 1 none] { frames := 1, cells := 0, slots := 0, locals := 12 } (gx_P z sz D classes tys ws [va_rf (Option.map b m0)]) (gx_Q D classes tys (va_A ws sz) (gPo D t b X0 o)) (0) (0) (va_A ws sz) := by
  refine gx_ofW (cc := b_Le_need) (maxL := 1) (ret := none) (by decide) rfl ?_
  intro p e s m args below meth c s₁ B hml hv
  obtain ⟨rfl, hsz, hz, hP, hK, hD0, hY⟩ := hv
  have hx := B.exec
  have hb := B.bytes
  have hr := B.returns
  have hts := hY.hts (#[va_rf (Option.map b m0)] : Array Value)
  have hown : s.vm.findClass "CommitLedger" = some m.cls := findClass_of_methodNamed B.named
  have hlocks := B.notSynchronized
  subst hsz
  have hAz := gx_az hD0 hz
  have hD := hD0.self (sz := s.heap.size)
  have hA : ∀ q : Nat, s.heap.size ≤ q → va_A ws s.heap.size q := fun q h => Or.inr h
  generalize va_A ws s.heap.size = A at hD hA hAz ⊢
  have Y : gy D t b A s.heap X0 X0 s.heap [] := ⟨h, ⟨ws, hM, hP, hD, va_S.rf⟩, hw, gEq.rf⟩
  clear hP hD hM hD0 hw
  obtain ⟨ht0, ht1, ht2, ht3, ht4, ht5, ht6, ht7, ht8⟩ := id ht
  have hl := lv_entry ([va_rf (Option.map b m0)]) (n := 1) (by cases m0 <;> exact Nat.le_of_ble_eq_true rfl)
  rw [lg_entry_eq]
  generalize (lg_sl ([va_rf (Option.map b m0)]) ++ List.replicate (1 - (lg_sl ([va_rf (Option.map b m0)])).length) Slot.unset).toArray = ls at hl ⊢
  have hl : lv_has ls 1 [(0, va_rf (Option.map b m0))] := by cases m0 <;> exact hl
  unfold f_Le_need at hf
  refine lv_aload_nO hx hb d_Le_need_0 rfl (lv_at hl 0 rfl) ?_
  rcases gO_el hf with ⟨e4, hf⟩ | ⟨n4, e4, hf⟩
  · refine W.eq (g2 := F0 m 1 ls [Value.null]) (by rw [e4] <;> rfl) ?_
    replace hl : lv_has ls 1 [(0, Value.null)] := by rw [e4] at hl; exact hl
    refine lv_ifnullN (tgt := 9) hx hb d_Le_need_1 (by decide) ?_
    exact gy_vret hf hx hb hr hlocks hK Y (Nat.zero_le _) (Nat.zero_le _) d_Le_need_9
  · refine W.eq (g2 := F0 m 1 ls [Value.ref (b n4)]) (by rw [e4] <;> rfl) ?_
    replace hl : lv_has ls 1 [(0, Value.ref (b n4))] := by rw [e4] at hl; exact hl
    refine lv_ifnull hx hb d_Le_need_1 ?_
    refine lv_aload_n hx hb d_Le_need_4 rfl (lv_at hl 0 rfl) ?_
    refine lv_iconst (v := 1) hx hb d_Le_need_5 (by decide) ?_
    obtain ⟨hv5, hf⟩ := gp_g hf
    refine gy_put hf (ci := 7) (ty := .boolean) (C := "CommitLedger$LedgerFile") (T := F_Fi) (N := 7) hx hb hts i_Fi t_Fi_ok n_Fi hown hK Y (gF_Fi hv5) rfl (by decide) kf_Le_394 rfl (by decide +kernel) rfl rfl (Nat.le_of_ble_eq_true rfl) (gF_Fi hv5) d_Le_need_6 (fun X6 H locs hf Y => ?_)
    exact gy_vret hf hx hb hr hlocks hK Y (Nat.zero_le _) (Nat.zero_le _) d_Le_need_9

def f_Vi_needSegments_2 (X : gX) (n : Nat) (i1 : Int32) : Option ((gX × Int32) ⊕ (gR × gX)) := (if (X.I n 4) ≤ i1 then gLf (some (gR.v, X)) else (if gIn i1 4096 then gCv (f_Le_need X (X.G (n + 1) (gn i1))) (fun X3 => some (Sum.inl (X3, i1 + 1))) else none))
def f_Vi_needSegments (X0 : gX) (n : Nat) : Option (gR × gX) := gI (fun s : gX × Int32 => f_Vi_needSegments_2 s.1 n s.2) gK (X0, 0)
set_option maxHeartbeats 4000000 in
set_option maxRecDepth 100000 in
theorem K_Vi_needSegments (l : Launch) (htr : l.stackTraces = false) (D : va_G) (tys : List (ClassId × FieldType)) (z sz : Nat) (ws : va_W) (h : gm_M) (hM : gm_S h ws) (t : Nat → ClassId) (ht : gTy t tys) (b : Nat → Nat) (X0 : gX) (hw : gw D t b X0 h) (n : Nat) (hn : gVie n = true) (o : gR × gX) (hf : f_Vi_needSegments X0 n = some o) : gx_Met l y_Vi_needSegments [Cond.code y_Vi_needSegments b_Vi_needSegments 2 none] { frames := 2, cells := 0, slots := 0, locals := 32 } (gx_P z sz D classes tys ws [Value.ref (b n)]) (gx_Q D classes tys (va_A ws sz) (gPo D t b X0 o)) (0) (0) (va_A ws sz) := by
  refine gx_ofW (cc := b_Vi_needSegments) (maxL := 2) (ret := none) (by decide) rfl ?_
  intro p e s m args below meth c s₁ B hml hv
  obtain ⟨rfl, hsz, hz, hP, hK, hD0, hY⟩ := hv
  have hx := B.exec
  have hb := B.bytes
  have hr := B.returns
  have hts := hY.hts (#[Value.ref (b n)] : Array Value)
  have hown : s.vm.findClass "CommitLedger$View" = some m.cls := findClass_of_methodNamed B.named
  have hlocks := B.notSynchronized
  subst hsz
  have hAz := gx_az hD0 hz
  have hD := hD0.self (sz := s.heap.size)
  have hA : ∀ q : Nat, s.heap.size ≤ q → va_A ws s.heap.size q := fun q h => Or.inr h
  generalize va_A ws s.heap.size = A at hD hA hAz ⊢
  have Y : gy D t b A s.heap X0 X0 s.heap [] := ⟨h, ⟨ws, hM, hP, hD, va_S.rf⟩, hw, gEq.rf⟩
  clear hP hD hM hD0 hw
  obtain ⟨ht0, ht1, ht2, ht3, ht4, ht5, ht6, ht7, ht8⟩ := id ht
  have hl := lv_entry ([Value.ref (b n)]) (n := 2) (Nat.le_of_ble_eq_true rfl)
  rw [lg_entry_eq]
  generalize (lg_sl ([Value.ref (b n)]) ++ List.replicate (2 - (lg_sl ([Value.ref (b n)])).length) Slot.unset).toArray = ls at hl ⊢
  have hl : lv_has ls 2 [(0, Value.ref (b n))] := hl
  unfold f_Vi_needSegments at hf
  refine lv_iconst (v := 0) hx hb d_Vi_needSegments_0 (by decide) ?_
  refine lv_istore_n (lv' := [(1, Value.int 0), (0, Value.ref (b n))]) hx hb d_Vi_needSegments_1 rfl hl (by decide) rfl (fun ls hl => ?_)
  refine gy_iter (fun s : gX × Int32 => s.1) (fun (s : gX × Int32) ls => lv_has ls 2 [(1, Value.int s.2), (0, Value.ref (b n))]) ?_ gK (X0, 0) _ _ _ hf (lv_sub hl [0, 1] rfl) Y
  rintro ⟨X6, i1_6⟩ u6 H locs ls hf hl Y hk6 ho6
  have hl : lv_has ls 2 [(1, Value.int i1_6), (0, Value.ref (b n))] := hl
  have Y : gy D t b A s.heap X0 X6 H locs := Y
  have hf : f_Vi_needSegments_2 X6 n i1_6 = some u6 := hf
  unfold f_Vi_needSegments_2 at hf
  refine lv_iload_n hx hb d_Vi_needSegments_2 rfl (lv_at hl 0 rfl) ?_
  refine lv_aload_n hx hb d_Vi_needSegments_3 rfl (lv_at hl 1 rfl) ?_
  refine gy_get (ci := 4) (v := Value.int (X6.I n 4)) (C := "CommitLedger$View") (T := F_Vi) (N := 6) hx hb hts i_Vi hown hK Y (gF_Vi hn) rfl 4 (by decide) kf_Vi_24 rfl d_Vi_needSegments_4 ?_
  refine lv_icmp_ge (tgt := 25) hx hb d_Vi_needSegments_7 (by decide) (fun c7_7 => ?_) (fun c7_7 => ?_)
  · replace hf := gp_t c7_7 hf
    replace hf := gU hf ho6
    exact gy_vret hf hx hb hr hlocks hK Y (Nat.zero_le _) (Nat.zero_le _) d_Vi_needSegments_25
  · replace hf := gp_f c7_7 hf
    refine lv_aload_n hx hb d_Vi_needSegments_10 rfl (lv_at hl 1 rfl) ?_
    refine gy_get (ci := 4) (v := Value.ref (b (n + 1))) (C := "CommitLedger$View") (T := F_Vi) (N := 6) hx hb hts i_Vi hown hK Y (gF_Vi hn) rfl 0 (by decide) kf_Vi_11 rfl d_Vi_needSegments_11 ?_
    refine lv_iload_n hx hb d_Vi_needSegments_14 rfl (lv_at hl 0 rfl) ?_
    refine gy_aald hf hx hb hK Y 2 (gF_Vi1 hn) ht2 d_Vi_needSegments_15 (fun hf => ?_)
    obtain ⟨X8, hF8, hf⟩ := gCv_el hf
    refine gy_callV (rm := { frames := 1, cells := 0, slots := 0, locals := 12 }) (ig := .invokestatic 69) (av := [va_rf (Option.map b (X6.G (n + 1) (gn i1_6)))]) Y (fun ws h hS hw => K_Le_need l htr D tys z _ ws h hS t ht b X6 hw (X6.G (n + 1) (gn i1_6)) (gR.v, X8) hF8) (gx_invSN (As := [va_rf (Option.map b (X6.G (n + 1) (gn i1_6)))]) (rest := []) hx hb hown hts km_Vi_69 kS_Le_need kN_Le kc_Le_need (by decide) (show (parseMethodDescriptor y_Le_need.desc).map (fun d => d.parameters.length) = some 1 by decide +kernel) rfl rfl d_Vi_needSegments_16) (gx_cw (z := 0) hts kc_Le_need kN_Le rfl rfl ⟨Nat.le_of_ble_eq_true rfl, Nat.le_of_ble_eq_true rfl⟩) hb hml hz hK hY hAz hA hl.1 (lv_room (Nat.le_of_ble_eq_true rfl)) d_Vi_needSegments_16 ⟨Nat.zero_le _, Nat.zero_le _⟩ (fun H locs Y => ?_)
    refine lv_iinc (v := i1_6 + 1) (lv' := [(1, Value.int (i1_6 + 1)), (0, Value.ref (b n))]) hx hb d_Vi_needSegments_19 hl (k := 0) rfl (rfl) (by decide) rfl (fun ls hl => ?_)
    refine lv_goto (tgt := 2) hx hb d_Vi_needSegments_22 (by decide) ?_
    exact hk6 _ _ _ _ hf (lv_sub hl [0, 1] rfl) Y

def f_Vi_needListsAndOwn_2 (X : gX) (n : Nat) (i1 : Int32) : Option ((gX × Int32) ⊕ (gR × gX)) := (if (X.I n 4) ≤ i1 then gCv (f_Le_need X (X.G n 3)) (fun X3 => gLf (some (gR.v, X3))) else (if gIn i1 4096 then gCv (f_Le_need X (X.G (n + 2) (gn i1))) (fun X4 => some (Sum.inl (X4, i1 + 1))) else none))
def f_Vi_needListsAndOwn (X0 : gX) (n : Nat) : Option (gR × gX) := gI (fun s : gX × Int32 => f_Vi_needListsAndOwn_2 s.1 n s.2) gK (X0, 0)
set_option maxHeartbeats 4000000 in
set_option maxRecDepth 100000 in
theorem K_Vi_needListsAndOwn (l : Launch) (htr : l.stackTraces = false) (D : va_G) (tys : List (ClassId × FieldType)) (z sz : Nat) (ws : va_W) (h : gm_M) (hM : gm_S h ws) (t : Nat → ClassId) (ht : gTy t tys) (b : Nat → Nat) (X0 : gX) (hw : gw D t b X0 h) (n : Nat) (hn : gVie n = true) (o : gR × gX) (hf : f_Vi_needListsAndOwn X0 n = some o) : gx_Met l y_Vi_needListsAndOwn [Cond.code y_Vi_needListsAndOwn b_Vi_needListsAndOwn 2 none] { frames := 2, cells := 0, slots := 0, locals := 32 } (gx_P z sz D classes tys ws [Value.ref (b n)]) (gx_Q D classes tys (va_A ws sz) (gPo D t b X0 o)) (0) (0) (va_A ws sz) := by
  refine gx_ofW (cc := b_Vi_needListsAndOwn) (maxL := 2) (ret := none) (by decide) rfl ?_
  intro p e s m args below meth c s₁ B hml hv
  obtain ⟨rfl, hsz, hz, hP, hK, hD0, hY⟩ := hv
  have hx := B.exec
  have hb := B.bytes
  have hr := B.returns
  have hts := hY.hts (#[Value.ref (b n)] : Array Value)
  have hown : s.vm.findClass "CommitLedger$View" = some m.cls := findClass_of_methodNamed B.named
  have hlocks := B.notSynchronized
  subst hsz
  have hAz := gx_az hD0 hz
  have hD := hD0.self (sz := s.heap.size)
  have hA : ∀ q : Nat, s.heap.size ≤ q → va_A ws s.heap.size q := fun q h => Or.inr h
  generalize va_A ws s.heap.size = A at hD hA hAz ⊢
  have Y : gy D t b A s.heap X0 X0 s.heap [] := ⟨h, ⟨ws, hM, hP, hD, va_S.rf⟩, hw, gEq.rf⟩
  clear hP hD hM hD0 hw
  obtain ⟨ht0, ht1, ht2, ht3, ht4, ht5, ht6, ht7, ht8⟩ := id ht
  have hl := lv_entry ([Value.ref (b n)]) (n := 2) (Nat.le_of_ble_eq_true rfl)
  rw [lg_entry_eq]
  generalize (lg_sl ([Value.ref (b n)]) ++ List.replicate (2 - (lg_sl ([Value.ref (b n)])).length) Slot.unset).toArray = ls at hl ⊢
  have hl : lv_has ls 2 [(0, Value.ref (b n))] := hl
  unfold f_Vi_needListsAndOwn at hf
  refine lv_iconst (v := 0) hx hb d_Vi_needListsAndOwn_0 (by decide) ?_
  refine lv_istore_n (lv' := [(1, Value.int 0), (0, Value.ref (b n))]) hx hb d_Vi_needListsAndOwn_1 rfl hl (by decide) rfl (fun ls hl => ?_)
  refine gy_iter (fun s : gX × Int32 => s.1) (fun (s : gX × Int32) ls => lv_has ls 2 [(1, Value.int s.2), (0, Value.ref (b n))]) ?_ gK (X0, 0) _ _ _ hf (lv_sub hl [0, 1] rfl) Y
  rintro ⟨X8, i1_8⟩ u8 H locs ls hf hl Y hk8 ho8
  have hl : lv_has ls 2 [(1, Value.int i1_8), (0, Value.ref (b n))] := hl
  have Y : gy D t b A s.heap X0 X8 H locs := Y
  have hf : f_Vi_needListsAndOwn_2 X8 n i1_8 = some u8 := hf
  unfold f_Vi_needListsAndOwn_2 at hf
  refine lv_iload_n hx hb d_Vi_needListsAndOwn_2 rfl (lv_at hl 0 rfl) ?_
  refine lv_aload_n hx hb d_Vi_needListsAndOwn_3 rfl (lv_at hl 1 rfl) ?_
  refine gy_get (ci := 4) (v := Value.int (X8.I n 4)) (C := "CommitLedger$View") (T := F_Vi) (N := 6) hx hb hts i_Vi hown hK Y (gF_Vi hn) rfl 4 (by decide) kf_Vi_24 rfl d_Vi_needListsAndOwn_4 ?_
  refine lv_icmp_ge (tgt := 25) hx hb d_Vi_needListsAndOwn_7 (by decide) (fun c7_9 => ?_) (fun c7_9 => ?_)
  · replace hf := gp_t c7_9 hf
    refine lv_aload_n hx hb d_Vi_needListsAndOwn_25 rfl (lv_at hl 1 rfl) ?_
    refine gy_get (ci := 4) (v := va_rf (Option.map b (X8.G n 3))) (C := "CommitLedger$View") (T := F_Vi) (N := 6) hx hb hts i_Vi hown hK Y (gF_Vi hn) rfl 3 (by decide) kf_Vi_66 rfl d_Vi_needListsAndOwn_26 ?_
    obtain ⟨X10, hF10, hf⟩ := gCv_el hf
    refine gy_callV (rm := { frames := 1, cells := 0, slots := 0, locals := 12 }) (ig := .invokestatic 69) (av := [va_rf (Option.map b (X8.G n 3))]) Y (fun ws h hS hw => K_Le_need l htr D tys z _ ws h hS t ht b X8 hw (X8.G n 3) (gR.v, X10) hF10) (gx_invSN (As := [va_rf (Option.map b (X8.G n 3))]) (rest := []) hx hb hown hts km_Vi_69 kS_Le_need kN_Le kc_Le_need (by decide) (show (parseMethodDescriptor y_Le_need.desc).map (fun d => d.parameters.length) = some 1 by decide +kernel) rfl rfl d_Vi_needListsAndOwn_29) (gx_cw (z := 0) hts kc_Le_need kN_Le rfl rfl ⟨Nat.le_of_ble_eq_true rfl, Nat.le_of_ble_eq_true rfl⟩) hb hml hz hK hY hAz hA hl.1 (lv_room (Nat.le_of_ble_eq_true rfl)) d_Vi_needListsAndOwn_29 ⟨Nat.zero_le _, Nat.zero_le _⟩ (fun H locs Y => ?_)
    replace hf := gU hf ho8
    exact gy_vret hf hx hb hr hlocks hK Y (Nat.zero_le _) (Nat.zero_le _) d_Vi_needListsAndOwn_32
  · replace hf := gp_f c7_9 hf
    refine lv_aload_n hx hb d_Vi_needListsAndOwn_10 rfl (lv_at hl 1 rfl) ?_
    refine gy_get (ci := 4) (v := Value.ref (b (n + 2))) (C := "CommitLedger$View") (T := F_Vi) (N := 6) hx hb hts i_Vi hown hK Y (gF_Vi hn) rfl 1 (by decide) kf_Vi_17 rfl d_Vi_needListsAndOwn_11 ?_
    refine lv_iload_n hx hb d_Vi_needListsAndOwn_14 rfl (lv_at hl 0 rfl) ?_
    refine gy_aald hf hx hb hK Y 2 (gF_Vi2 hn) ht2 d_Vi_needListsAndOwn_15 (fun hf => ?_)
    obtain ⟨X11, hF11, hf⟩ := gCv_el hf
    refine gy_callV (rm := { frames := 1, cells := 0, slots := 0, locals := 12 }) (ig := .invokestatic 69) (av := [va_rf (Option.map b (X8.G (n + 2) (gn i1_8)))]) Y (fun ws h hS hw => K_Le_need l htr D tys z _ ws h hS t ht b X8 hw (X8.G (n + 2) (gn i1_8)) (gR.v, X11) hF11) (gx_invSN (As := [va_rf (Option.map b (X8.G (n + 2) (gn i1_8)))]) (rest := []) hx hb hown hts km_Vi_69 kS_Le_need kN_Le kc_Le_need (by decide) (show (parseMethodDescriptor y_Le_need.desc).map (fun d => d.parameters.length) = some 1 by decide +kernel) rfl rfl d_Vi_needListsAndOwn_16) (gx_cw (z := 0) hts kc_Le_need kN_Le rfl rfl ⟨Nat.le_of_ble_eq_true rfl, Nat.le_of_ble_eq_true rfl⟩) hb hml hz hK hY hAz hA hl.1 (lv_room (Nat.le_of_ble_eq_true rfl)) d_Vi_needListsAndOwn_16 ⟨Nat.zero_le _, Nat.zero_le _⟩ (fun H locs Y => ?_)
    refine lv_iinc (v := i1_8 + 1) (lv' := [(1, Value.int (i1_8 + 1)), (0, Value.ref (b n))]) hx hb d_Vi_needListsAndOwn_19 hl (k := 0) rfl (rfl) (by decide) rfl (fun ls hl => ?_)
    refine lv_goto (tgt := 2) hx hb d_Vi_needListsAndOwn_22 (by decide) ?_
    exact hk8 _ _ _ _ hf (lv_sub hl [0, 1] rfl) Y
