/-! THE THIRD LAYER, the reference: Version: programs of numbers and the proof that the machine does what they say; printed by an own text program -/
def f_Ve_docs (X0 : gX) (n : Nat) : Option (gR × gX) := (if gIn (X0.I n 7) 4098 then some (gR.i (X0.I (n + 3) (gn (X0.I n 7))), X0) else none)
set_option maxHeartbeats 4000000 in
set_option maxRecDepth 100000 in
theorem K_Ve_docs (l : Launch) (htr : l.stackTraces = false) (D : va_G) (tys : List (ClassId × FieldType)) (z sz : Nat) (ws : va_W) (h : gm_M) (hM : gm_S h ws) (t : Nat → ClassId) (ht : gTy t tys) (b : Nat → Nat) (X0 : gX) (hw : gw D t b X0 h) (n : Nat) (hn : gVer n = true) (o : gR × gX) (hf : f_Ve_docs X0 n = some o) : gx_Met l y_Ve_docs [Cond.code y_Ve_docs b_Ve_docs 1 (some .int)] { frames := 1, cells := 0, slots := 0, locals := 12 } (gx_P z sz D classes tys ws [Value.ref (b n)]) (gx_Q D classes tys (va_A ws sz) (gPo D t b X0 o)) (0) (0) (va_A ws sz) := by
  refine gx_ofW (cc := b_Ve_docs) (maxL := 1) (ret := (some .int)) (by decide) rfl ?_
  intro p e s m args below meth c s₁ B hml hv
  obtain ⟨rfl, hsz, hz, hP, hK, hD0, hY⟩ := hv
  have hx := B.exec
  have hb := B.bytes
  have hr := B.returns
  have hts := hY.hts (#[Value.ref (b n)] : Array Value)
  have hown : s.vm.findClass "CommitLedgerModel$Version" = some m.cls := findClass_of_methodNamed B.named
  have hlocks := B.notSynchronized
  subst hsz
  have hAz := gx_az hD0 hz
  have hD := hD0.self (sz := s.heap.size)
  have hA : ∀ q : Nat, s.heap.size ≤ q → va_A ws s.heap.size q := fun q h => Or.inr h
  generalize va_A ws s.heap.size = A at hD hA hAz ⊢
  have Y : gy D t b A s.heap X0 X0 s.heap [] := ⟨h, ⟨ws, hM, hP, hD, va_S.rf⟩, hw, gEq.rf⟩
  clear hP hD hM hD0 hw
  obtain ⟨ht0, ht1, ht2, ht3, ht4, ht5, ht6, ht7, ht8⟩ := id ht
  have hl := lv_entry ([Value.ref (b n)]) (n := 1) (Nat.le_of_ble_eq_true rfl)
  rw [lg_entry_eq]
  generalize (lg_sl ([Value.ref (b n)]) ++ List.replicate (1 - (lg_sl ([Value.ref (b n)])).length) Slot.unset).toArray = ls at hl ⊢
  have hl : lv_has ls 1 [(0, Value.ref (b n))] := hl
  unfold f_Ve_docs at hf
  refine lv_aload_n hx hb d_Ve_docs_0 rfl (lv_at hl 0 rfl) ?_
  refine gy_get (ci := 9) (v := Value.ref (b (n + 3))) (C := "CommitLedgerModel$Version") (T := F_Ve) (N := 11) hx hb hts i_Ve hown hK Y (gF_Ve hn) rfl 2 (by decide) kf_Ve_18 rfl d_Ve_docs_1 ?_
  refine lv_aload_n hx hb d_Ve_docs_4 rfl (lv_at hl 0 rfl) ?_
  refine gy_get (ci := 9) (v := Value.int (X0.I n 7)) (C := "CommitLedgerModel$Version") (T := F_Ve) (N := 11) hx hb hts i_Ve hown hK Y (gF_Ve hn) rfl 7 (by decide) kf_Ve_34 rfl d_Ve_docs_5 ?_
  refine gy_iald hf hx hb hK Y 0 (fun _ => (gF_Ve3 hn)) ht0 d_Ve_docs_8 (fun _ hf => ?_)
  exact gy_iret hf hx hb hr hlocks hK Y (Nat.zero_le _) (Nat.zero_le _) d_Ve_docs_9

def f_Ve_liveIn_33 (X : gX) (n : Nat) (i1 : Int32) (i2 : Int32) (i3 : Int32) : Option ((Int32 × Int32) ⊕ (gR × gX)) := some (Sum.inl (i2, i3 + 1))
def f_Ve_liveIn_9 (X : gX) (n : Nat) (i1 : Int32) (i2 : Int32) (i3 : Int32) : Option ((Int32 × Int32) ⊕ (gR × gX)) := (if gIn (i1 + 1) 4098 then (if (X.I (n + 3) (gn (i1 + 1))) ≤ i3 then gLf (some (gR.i i2, X)) else (if gIn i3 4096 then (if (X.I (n + 6) (gn i3)) = (0 : Int32) then f_Ve_liveIn_33 X n i1 i2 i3 else f_Ve_liveIn_33 X n i1 (i2 + 1) i3) else none)) else none)
def f_Ve_liveIn (X0 : gX) (n : Nat) (a1 : Int32) : Option (gR × gX) := (if gIn a1 4098 then gI (fun s : Int32 × Int32 => f_Ve_liveIn_9 X0 n a1 s.1 s.2) gK (0, X0.I (n + 3) (gn a1)) else none)
set_option maxHeartbeats 4000000 in
set_option maxRecDepth 100000 in
theorem K_Ve_liveIn (l : Launch) (htr : l.stackTraces = false) (D : va_G) (tys : List (ClassId × FieldType)) (z sz : Nat) (ws : va_W) (h : gm_M) (hM : gm_S h ws) (t : Nat → ClassId) (ht : gTy t tys) (b : Nat → Nat) (X0 : gX) (hw : gw D t b X0 h) (n : Nat) (hn : gVer n = true) (a1 : Int32) (o : gR × gX) (hf : f_Ve_liveIn X0 n a1 = some o) : gx_Met l y_Ve_liveIn [Cond.code y_Ve_liveIn b_Ve_liveIn 4 (some .int)] { frames := 1, cells := 0, slots := 0, locals := 12 } (gx_P z sz D classes tys ws [Value.ref (b n), Value.int a1]) (gx_Q D classes tys (va_A ws sz) (gPo D t b X0 o)) (0) (0) (va_A ws sz) := by
  refine gx_ofW (cc := b_Ve_liveIn) (maxL := 4) (ret := (some .int)) (by decide) rfl ?_
  intro p e s m args below meth c s₁ B hml hv
  obtain ⟨rfl, hsz, hz, hP, hK, hD0, hY⟩ := hv
  have hx := B.exec
  have hb := B.bytes
  have hr := B.returns
  have hts := hY.hts (#[Value.ref (b n), Value.int a1] : Array Value)
  have hown : s.vm.findClass "CommitLedgerModel$Version" = some m.cls := findClass_of_methodNamed B.named
  have hlocks := B.notSynchronized
  subst hsz
  have hAz := gx_az hD0 hz
  have hD := hD0.self (sz := s.heap.size)
  have hA : ∀ q : Nat, s.heap.size ≤ q → va_A ws s.heap.size q := fun q h => Or.inr h
  generalize va_A ws s.heap.size = A at hD hA hAz ⊢
  have Y : gy D t b A s.heap X0 X0 s.heap [] := ⟨h, ⟨ws, hM, hP, hD, va_S.rf⟩, hw, gEq.rf⟩
  clear hP hD hM hD0 hw
  obtain ⟨ht0, ht1, ht2, ht3, ht4, ht5, ht6, ht7, ht8⟩ := id ht
  have hl := lv_entry ([Value.ref (b n), Value.int a1]) (n := 4) (Nat.le_of_ble_eq_true rfl)
  rw [lg_entry_eq]
  generalize (lg_sl ([Value.ref (b n), Value.int a1]) ++ List.replicate (4 - (lg_sl ([Value.ref (b n), Value.int a1])).length) Slot.unset).toArray = ls at hl ⊢
  have hl : lv_has ls 4 [(0, Value.ref (b n)), (1, Value.int a1)] := hl
  unfold f_Ve_liveIn at hf
  refine lv_iconst (v := 0) hx hb d_Ve_liveIn_0 (by decide) ?_
  refine lv_istore_n (lv' := [(2, Value.int 0), (0, Value.ref (b n)), (1, Value.int a1)]) hx hb d_Ve_liveIn_1 rfl hl (by decide) rfl (fun ls hl => ?_)
  refine lv_aload_n hx hb d_Ve_liveIn_2 rfl (lv_at hl 1 rfl) ?_
  refine gy_get (ci := 9) (v := Value.ref (b (n + 3))) (C := "CommitLedgerModel$Version") (T := F_Ve) (N := 11) hx hb hts i_Ve hown hK Y (gF_Ve hn) rfl 2 (by decide) kf_Ve_18 rfl d_Ve_liveIn_3 ?_
  refine lv_iload_n hx hb d_Ve_liveIn_6 rfl (lv_at hl 2 rfl) ?_
  refine gy_iald hf hx hb hK Y 0 (fun _ => (gF_Ve3 hn)) ht0 d_Ve_liveIn_7 (fun _ hf => ?_)
  refine lv_istore_n (lv' := [(3, Value.int (X0.I (n + 3) (gn a1))), (2, Value.int 0), (0, Value.ref (b n)), (1, Value.int a1)]) hx hb d_Ve_liveIn_8 rfl hl (by decide) rfl (fun ls hl => ?_)
  refine gy_iter (fun s : Int32 × Int32 => X0) (fun (s : Int32 × Int32) ls => lv_has ls 4 [(2, Value.int s.1), (3, Value.int s.2), (0, Value.ref (b n)), (1, Value.int a1)]) ?_ gK (0, X0.I (n + 3) (gn a1)) _ _ _ hf (lv_sub hl [1, 0, 2, 3] rfl) Y
  rintro ⟨i2_7, i3_7⟩ u7 H locs ls hf hl Y hk7 ho7
  have hl : lv_has ls 4 [(2, Value.int i2_7), (3, Value.int i3_7), (0, Value.ref (b n)), (1, Value.int a1)] := hl
  have Y : gy D t b A s.heap X0 X0 H locs := Y
  have hf : f_Ve_liveIn_9 X0 n a1 i2_7 i3_7 = some u7 := hf
  refine gy_cut (pcJ := 33) Y (fun s : Int32 × Int32 => f_Ve_liveIn_33 X0 n a1 s.1 s.2) u7 (fun s => X0) (fun s ls => lv_has ls 4 [(2, Value.int s.1), (3, Value.int s.2), (0, Value.ref (b n)), (1, Value.int a1)]) (fun s => []) ?_ (fun J33 => ?_)
  · rintro ⟨i2_8, i3_8⟩ H locs ls hf hl Y
    have hl : lv_has ls 4 [(2, Value.int i2_8), (3, Value.int i3_8), (0, Value.ref (b n)), (1, Value.int a1)] := hl
    have Y : gy D t b A s.heap X0 X0 H locs := Y
    have hf : f_Ve_liveIn_33 X0 n a1 i2_8 i3_8 = some u7 := hf
    unfold f_Ve_liveIn_33 at hf
    refine lv_iinc (v := i3_8 + 1) (lv' := [(3, Value.int (i3_8 + 1)), (2, Value.int i2_8), (0, Value.ref (b n)), (1, Value.int a1)]) hx hb d_Ve_liveIn_33 hl (k := 1) rfl (rfl) (by decide) rfl (fun ls hl => ?_)
    refine lv_goto (tgt := 9) hx hb d_Ve_liveIn_36 (by decide) ?_
    exact hk7 _ _ _ _ hf (lv_sub hl [1, 0, 2, 3] rfl) Y
  unfold f_Ve_liveIn_9 at hf
  refine lv_iload_n hx hb d_Ve_liveIn_9 rfl (lv_at hl 1 rfl) ?_
  refine lv_aload_n hx hb d_Ve_liveIn_10 rfl (lv_at hl 2 rfl) ?_
  refine gy_get (ci := 9) (v := Value.ref (b (n + 3))) (C := "CommitLedgerModel$Version") (T := F_Ve) (N := 11) hx hb hts i_Ve hown hK Y (gF_Ve hn) rfl 2 (by decide) kf_Ve_18 rfl d_Ve_liveIn_11 ?_
  refine lv_iload_n hx hb d_Ve_liveIn_14 rfl (lv_at hl 3 rfl) ?_
  refine lv_iconst (v := 1) hx hb d_Ve_liveIn_15 (by decide) ?_
  refine lv_iadd hx hb d_Ve_liveIn_16 ?_
  refine gy_iald hf hx hb hK Y 0 (fun _ => (gF_Ve3 hn)) ht0 d_Ve_liveIn_17 (fun _ hf => ?_)
  refine lv_icmp_ge (tgt := 39) hx hb d_Ve_liveIn_18 (by decide) (fun c18_9 => ?_) (fun c18_9 => ?_)
  · replace hf := gp_t c18_9 hf
    refine lv_iload_n hx hb d_Ve_liveIn_39 rfl (lv_at hl 0 rfl) ?_
    replace hf := gU hf ho7
    exact gy_iret hf hx hb hr hlocks hK Y (Nat.zero_le _) (Nat.zero_le _) d_Ve_liveIn_40
  · replace hf := gp_f c18_9 hf
    refine lv_aload_n hx hb d_Ve_liveIn_21 rfl (lv_at hl 2 rfl) ?_
    refine gy_get (ci := 9) (v := Value.ref (b (n + 6))) (C := "CommitLedgerModel$Version") (T := F_Ve) (N := 11) hx hb hts i_Ve hown hK Y (gF_Ve hn) rfl 5 (by decide) kf_Ve_27 rfl d_Ve_liveIn_22 ?_
    refine lv_iload_n hx hb d_Ve_liveIn_25 rfl (lv_at hl 1 rfl) ?_
    refine gy_zald hf hx hb hK Y 1 (fun _ => (gF_Ve6 hn)) ht1 d_Ve_liveIn_26 (fun _ hf => ?_)
    refine lv_if_eq (tgt := 33) hx hb d_Ve_liveIn_27 (by decide) (fun c27_10 => ?_) (fun c27_10 => ?_)
    · replace hf := gp_t c27_10 hf
      exact J33 (i2_7, i3_7) _ _ _ hf (lv_sub hl [0, 1, 2, 3] rfl) Y
    · replace hf := gp_f c27_10 hf
      refine lv_iinc (v := i2_7 + 1) (lv' := [(2, Value.int (i2_7 + 1)), (3, Value.int i3_7), (0, Value.ref (b n)), (1, Value.int a1)]) hx hb d_Ve_liveIn_30 hl (k := 0) rfl (rfl) (by decide) rfl (fun ls hl => ?_)
      exact J33 (i2_7 + 1, i3_7) _ _ _ hf (lv_sub hl [0, 1, 2, 3] rfl) Y

def f_Ve_live_24 (X : gX) (n : Nat) (i1 : Int32) (i2 : Int32) : Option ((gX × Int32 × Int32) ⊕ (gR × gX)) := some (Sum.inl (X, i1, i2 + 1))
def f_Ve_live_4 (X : gX) (n : Nat) (i1 : Int32) (i2 : Int32) : Option ((gX × Int32 × Int32) ⊕ (gR × gX)) := gCi (f_Ve_docs X n) (fun x2 X2 => (if x2 ≤ i2 then gLf (some (gR.i i1, X2)) else (if gIn i2 4096 then (if (X2.I (n + 6) (gn i2)) = (0 : Int32) then f_Ve_live_24 X2 n i1 i2 else f_Ve_live_24 X2 n (i1 + 1) i2) else none)))
def f_Ve_live (X0 : gX) (n : Nat) : Option (gR × gX) := gI (fun s : gX × Int32 × Int32 => f_Ve_live_4 s.1 n s.2.1 s.2.2) gK (X0, 0, 0)
set_option maxHeartbeats 4000000 in
set_option maxRecDepth 100000 in
theorem K_Ve_live (l : Launch) (htr : l.stackTraces = false) (D : va_G) (tys : List (ClassId × FieldType)) (z sz : Nat) (ws : va_W) (h : gm_M) (hM : gm_S h ws) (t : Nat → ClassId) (ht : gTy t tys) (b : Nat → Nat) (X0 : gX) (hw : gw D t b X0 h) (n : Nat) (hn : gVer n = true) (o : gR × gX) (hf : f_Ve_live X0 n = some o) : gx_Met l y_Ve_live [Cond.code y_Ve_live b_Ve_live 3 (some .int)] { frames := 2, cells := 0, slots := 0, locals := 32 } (gx_P z sz D classes tys ws [Value.ref (b n)]) (gx_Q D classes tys (va_A ws sz) (gPo D t b X0 o)) (0) (0) (va_A ws sz) := by
  refine gx_ofW (cc := b_Ve_live) (maxL := 3) (ret := (some .int)) (by decide) rfl ?_
  intro p e s m args below meth c s₁ B hml hv
  obtain ⟨rfl, hsz, hz, hP, hK, hD0, hY⟩ := hv
  have hx := B.exec
  have hb := B.bytes
  have hr := B.returns
  have hts := hY.hts (#[Value.ref (b n)] : Array Value)
  have hown : s.vm.findClass "CommitLedgerModel$Version" = some m.cls := findClass_of_methodNamed B.named
  have hlocks := B.notSynchronized
  subst hsz
  have hAz := gx_az hD0 hz
  have hD := hD0.self (sz := s.heap.size)
  have hA : ∀ q : Nat, s.heap.size ≤ q → va_A ws s.heap.size q := fun q h => Or.inr h
  generalize va_A ws s.heap.size = A at hD hA hAz ⊢
  have Y : gy D t b A s.heap X0 X0 s.heap [] := ⟨h, ⟨ws, hM, hP, hD, va_S.rf⟩, hw, gEq.rf⟩
  clear hP hD hM hD0 hw
  obtain ⟨ht0, ht1, ht2, ht3, ht4, ht5, ht6, ht7, ht8⟩ := id ht
  have hl := lv_entry ([Value.ref (b n)]) (n := 3) (Nat.le_of_ble_eq_true rfl)
  rw [lg_entry_eq]
  generalize (lg_sl ([Value.ref (b n)]) ++ List.replicate (3 - (lg_sl ([Value.ref (b n)])).length) Slot.unset).toArray = ls at hl ⊢
  have hl : lv_has ls 3 [(0, Value.ref (b n))] := hl
  unfold f_Ve_live at hf
  refine lv_iconst (v := 0) hx hb d_Ve_live_0 (by decide) ?_
  refine lv_istore_n (lv' := [(1, Value.int 0), (0, Value.ref (b n))]) hx hb d_Ve_live_1 rfl hl (by decide) rfl (fun ls hl => ?_)
  refine lv_iconst (v := 0) hx hb d_Ve_live_2 (by decide) ?_
  refine lv_istore_n (lv' := [(2, Value.int 0), (1, Value.int 0), (0, Value.ref (b n))]) hx hb d_Ve_live_3 rfl hl (by decide) rfl (fun ls hl => ?_)
  refine gy_iter (fun s : gX × Int32 × Int32 => s.1) (fun (s : gX × Int32 × Int32) ls => lv_has ls 3 [(1, Value.int s.2.1), (2, Value.int s.2.2), (0, Value.ref (b n))]) ?_ gK (X0, 0, 0) _ _ _ hf (lv_sub hl [1, 0, 2] rfl) Y
  rintro ⟨X9, i1_9, i2_9⟩ u9 H locs ls hf hl Y hk9 ho9
  have hl : lv_has ls 3 [(1, Value.int i1_9), (2, Value.int i2_9), (0, Value.ref (b n))] := hl
  have Y : gy D t b A s.heap X0 X9 H locs := Y
  have hf : f_Ve_live_4 X9 n i1_9 i2_9 = some u9 := hf
  refine gy_cut (pcJ := 24) Y (fun s : gX × Int32 × Int32 => f_Ve_live_24 s.1 n s.2.1 s.2.2) u9 (fun s => s.1) (fun s ls => lv_has ls 3 [(1, Value.int s.2.1), (2, Value.int s.2.2), (0, Value.ref (b n))]) (fun s => []) ?_ (fun J24 => ?_)
  · rintro ⟨X10, i1_10, i2_10⟩ H locs ls hf hl Y
    have hl : lv_has ls 3 [(1, Value.int i1_10), (2, Value.int i2_10), (0, Value.ref (b n))] := hl
    have Y : gy D t b A s.heap X0 X10 H locs := Y
    have hf : f_Ve_live_24 X10 n i1_10 i2_10 = some u9 := hf
    unfold f_Ve_live_24 at hf
    refine lv_iinc (v := i2_10 + 1) (lv' := [(2, Value.int (i2_10 + 1)), (1, Value.int i1_10), (0, Value.ref (b n))]) hx hb d_Ve_live_24 hl (k := 1) rfl (rfl) (by decide) rfl (fun ls hl => ?_)
    refine lv_goto (tgt := 4) hx hb d_Ve_live_27 (by decide) ?_
    exact hk9 _ _ _ _ hf (lv_sub hl [1, 0, 2] rfl) Y
  unfold f_Ve_live_4 at hf
  refine lv_iload_n hx hb d_Ve_live_4 rfl (lv_at hl 1 rfl) ?_
  refine lv_aload_n hx hb d_Ve_live_5 rfl (lv_at hl 2 rfl) ?_
  obtain ⟨x11, X11, hF11, hf⟩ := gCi_el hf
  refine gy_callI (rm := { frames := 1, cells := 0, slots := 0, locals := 12 }) (ig := .invokevirtual 44) (av := [Value.ref (b n)]) Y (fun ws h hS hw => K_Ve_docs l htr D tys z _ ws h hS t ht b X9 hw n hn (gR.i x11, X11) hF11) (gx_invV (As := []) (rest := [Value.int i2_9]) hx hb hown hts km_Ve_44 kI_Ve_docs kV_Ve_docs kc_Ve_docs (by decide) (show (parseMethodDescriptor y_Ve_docs.desc).map (fun d => d.parameters.length) = some 0 by decide +kernel) (gy_recv (ci := 9) hK Y rfl (gF_Ve hn)) rfl rfl d_Ve_live_6) (gx_cw (z := 0) hts kc_Ve_docs kN_Ve rfl rfl ⟨Nat.le_of_ble_eq_true rfl, Nat.le_of_ble_eq_true rfl⟩) hb hml hz hK hY hAz hA hl.1 (lv_room (Nat.le_of_ble_eq_true rfl)) d_Ve_live_6 ⟨Nat.zero_le _, Nat.zero_le _⟩ (fun H locs Y => ?_)
  refine lv_icmp_ge (tgt := 30) hx hb d_Ve_live_9 (by decide) (fun c9_12 => ?_) (fun c9_12 => ?_)
  · replace hf := gp_t c9_12 hf
    refine lv_iload_n hx hb d_Ve_live_30 rfl (lv_at hl 0 rfl) ?_
    replace hf := gU hf ho9
    exact gy_iret hf hx hb hr hlocks hK Y (Nat.zero_le _) (Nat.zero_le _) d_Ve_live_31
  · replace hf := gp_f c9_12 hf
    refine lv_aload_n hx hb d_Ve_live_12 rfl (lv_at hl 2 rfl) ?_
    refine gy_get (ci := 9) (v := Value.ref (b (n + 6))) (C := "CommitLedgerModel$Version") (T := F_Ve) (N := 11) hx hb hts i_Ve hown hK Y (gF_Ve hn) rfl 5 (by decide) kf_Ve_27 rfl d_Ve_live_13 ?_
    refine lv_iload_n hx hb d_Ve_live_16 rfl (lv_at hl 1 rfl) ?_
    refine gy_zald hf hx hb hK Y 1 (fun _ => (gF_Ve6 hn)) ht1 d_Ve_live_17 (fun _ hf => ?_)
    refine lv_if_eq (tgt := 24) hx hb d_Ve_live_18 (by decide) (fun c18_13 => ?_) (fun c18_13 => ?_)
    · replace hf := gp_t c18_13 hf
      exact J24 (X11, i1_9, i2_9) _ _ _ hf (lv_sub hl [0, 1, 2] rfl) Y
    · replace hf := gp_f c18_13 hf
      refine lv_iinc (v := i1_9 + 1) (lv' := [(1, Value.int (i1_9 + 1)), (2, Value.int i2_9), (0, Value.ref (b n))]) hx hb d_Ve_live_21 hl (k := 0) rfl (rfl) (by decide) rfl (fun ls hl => ?_)
      exact J24 (X11, i1_9 + 1, i2_9) _ _ _ hf (lv_sub hl [0, 1, 2] rfl) Y

def f_Ve_copy_106 (X : gX) (n : Nat) (m1 : Nat) (i2 : Int32) : Option ((gX × Int32) ⊕ (gR × gX)) := gCi (f_Ve_docs X n) (fun x9 X9 => (if x9 ≤ i2 then gLf (some (gR.v, X9)) else (if gIn i2 4096 then (if gIn i2 4096 then gB (X9.w (n + 5) (gn i2) (X9.I (m1 + 5) (gn i2))) (fun X11 => (if gIn i2 4096 then (if gIn i2 4096 then gB (X11.w (n + 6) (gn i2) (vp_nar .boolean (X11.I (m1 + 6) (gn i2)))) (fun X12 => (if gIn i2 4096 then (if gIn i2 4096 then gB (X12.w (n + 7) (gn i2) (vp_nar .boolean (X12.I (m1 + 7) (gn i2)))) (fun X13 => some (Sum.inl (X13, i2 + 1))) else none) else none)) else none) else none)) else none) else none)))
def f_Ve_copy_78 (X : gX) (n : Nat) (m1 : Nat) (i2 : Int32) : Option ((gX × Int32) ⊕ (gR × gX)) := (if (X.I n 7) < i2 then gLf (gI (fun s : gX × Int32 => f_Ve_copy_106 s.1 n m1 s.2) gK (X, 0)) else (if gIn i2 4098 then (if gIn i2 4098 then gB (X.w (n + 3) (gn i2) (X.I (m1 + 3) (gn i2))) (fun X19 => some (Sum.inl (X19, i2 + 1))) else none) else none))
def f_Ve_copy_26 (X : gX) (n : Nat) (m1 : Nat) (i2 : Int32) : Option ((gX × Int32) ⊕ (gR × gX)) := (if (X.I n 7) ≤ i2 then gLf (gI (fun s : gX × Int32 => f_Ve_copy_78 s.1 n m1 s.2) gK (X, 0)) else (if gIn i2 4097 then (if gIn i2 4097 then gB (X.w (n + 1) (gn i2) (X.I (m1 + 1) (gn i2))) (fun X28 => (if gIn i2 4097 then (if gIn i2 4097 then gB (X28.w (n + 2) (gn i2) (X28.I (m1 + 2) (gn i2))) (fun X29 => (if gIn i2 4097 then (if gIn i2 4097 then gB (X29.w (n + 4) (gn i2) (X29.I (m1 + 4) (gn i2))) (fun X30 => some (Sum.inl (X30, i2 + 1))) else none) else none)) else none) else none)) else none) else none))
def f_Ve_copy (X0 : gX) (n : Nat) (m1 : Nat) : Option (gR × gX) := gB (X0.w n 7 (X0.I m1 7)) (fun X1 => gB (X1.w n 8 (X1.I m1 8)) (fun X2 => gB (X2.w n 9 (X2.I m1 9)) (fun X3 => gI (fun s : gX × Int32 => f_Ve_copy_26 s.1 n m1 s.2) gK (X3, 0))))
set_option maxHeartbeats 4000000 in
set_option maxRecDepth 100000 in
theorem K_Ve_copy (l : Launch) (htr : l.stackTraces = false) (D : va_G) (tys : List (ClassId × FieldType)) (z sz : Nat) (ws : va_W) (h : gm_M) (hM : gm_S h ws) (t : Nat → ClassId) (ht : gTy t tys) (b : Nat → Nat) (X0 : gX) (hw : gw D t b X0 h) (n : Nat) (hn : gVer n = true) (m1 : Nat) (hm1 : gVer m1 = true) (o : gR × gX) (hf : f_Ve_copy X0 n m1 = some o) : gx_Met l y_Ve_copy [Cond.code y_Ve_copy b_Ve_copy 3 none] { frames := 2, cells := 0, slots := 0, locals := 32 } (gx_P z sz D classes tys ws [Value.ref (b n), Value.ref (b m1)]) (gx_Q D classes tys (va_A ws sz) (gPo D t b X0 o)) (0) (0) (va_A ws sz) := by
  refine gx_ofW (cc := b_Ve_copy) (maxL := 3) (ret := none) (by decide) rfl ?_
  intro p e s m args below meth c s₁ B hml hv
  obtain ⟨rfl, hsz, hz, hP, hK, hD0, hY⟩ := hv
  have hx := B.exec
  have hb := B.bytes
  have hr := B.returns
  have hts := hY.hts (#[Value.ref (b n), Value.ref (b m1)] : Array Value)
  have hown : s.vm.findClass "CommitLedgerModel$Version" = some m.cls := findClass_of_methodNamed B.named
  have hlocks := B.notSynchronized
  subst hsz
  have hAz := gx_az hD0 hz
  have hD := hD0.self (sz := s.heap.size)
  have hA : ∀ q : Nat, s.heap.size ≤ q → va_A ws s.heap.size q := fun q h => Or.inr h
  generalize va_A ws s.heap.size = A at hD hA hAz ⊢
  have Y : gy D t b A s.heap X0 X0 s.heap [] := ⟨h, ⟨ws, hM, hP, hD, va_S.rf⟩, hw, gEq.rf⟩
  clear hP hD hM hD0 hw
  obtain ⟨ht0, ht1, ht2, ht3, ht4, ht5, ht6, ht7, ht8⟩ := id ht
  have hl := lv_entry ([Value.ref (b n), Value.ref (b m1)]) (n := 3) (Nat.le_of_ble_eq_true rfl)
  rw [lg_entry_eq]
  generalize (lg_sl ([Value.ref (b n), Value.ref (b m1)]) ++ List.replicate (3 - (lg_sl ([Value.ref (b n), Value.ref (b m1)])).length) Slot.unset).toArray = ls at hl ⊢
  have hl : lv_has ls 3 [(0, Value.ref (b n)), (1, Value.ref (b m1))] := hl
  unfold f_Ve_copy at hf
  refine lv_aload_n hx hb d_Ve_copy_0 rfl (lv_at hl 0 rfl) ?_
  refine lv_aload_n hx hb d_Ve_copy_1 rfl (lv_at hl 1 rfl) ?_
  refine gy_get (ci := 9) (v := Value.int (X0.I m1 7)) (C := "CommitLedgerModel$Version") (T := F_Ve) (N := 11) hx hb hts i_Ve hown hK Y (gF_Ve hm1) rfl 7 (by decide) kf_Ve_34 rfl d_Ve_copy_2 ?_
  refine gy_put hf (ci := 9) (ty := .int) (C := "CommitLedgerModel$Version") (T := F_Ve) (N := 11) hx hb hts i_Ve t_Ve_ok n_Ve hown hK Y (gF_Ve hn) rfl (by decide) kf_Ve_34 rfl (by decide +kernel) rfl rfl (Nat.le_of_ble_eq_true rfl) (gF_Ve hn) d_Ve_copy_5 (fun X44 H locs hf Y => ?_)
  refine lv_aload_n hx hb d_Ve_copy_8 rfl (lv_at hl 0 rfl) ?_
  refine lv_aload_n hx hb d_Ve_copy_9 rfl (lv_at hl 1 rfl) ?_
  refine gy_get (ci := 9) (v := Value.int (X44.I m1 8)) (C := "CommitLedgerModel$Version") (T := F_Ve) (N := 11) hx hb hts i_Ve hown hK Y (gF_Ve hm1) rfl 8 (by decide) kf_Ve_38 rfl d_Ve_copy_10 ?_
  refine gy_put hf (ci := 9) (ty := .int) (C := "CommitLedgerModel$Version") (T := F_Ve) (N := 11) hx hb hts i_Ve t_Ve_ok n_Ve hown hK Y (gF_Ve hn) rfl (by decide) kf_Ve_38 rfl (by decide +kernel) rfl rfl (Nat.le_of_ble_eq_true rfl) (gF_Ve hn) d_Ve_copy_13 (fun X45 H locs hf Y => ?_)
  refine lv_aload_n hx hb d_Ve_copy_16 rfl (lv_at hl 0 rfl) ?_
  refine lv_aload_n hx hb d_Ve_copy_17 rfl (lv_at hl 1 rfl) ?_
  refine gy_get (ci := 9) (v := Value.int (X45.I m1 9)) (C := "CommitLedgerModel$Version") (T := F_Ve) (N := 11) hx hb hts i_Ve hown hK Y (gF_Ve hm1) rfl 9 (by decide) kf_Ve_41 rfl d_Ve_copy_18 ?_
  refine gy_put hf (ci := 9) (ty := .int) (C := "CommitLedgerModel$Version") (T := F_Ve) (N := 11) hx hb hts i_Ve t_Ve_ok n_Ve hown hK Y (gF_Ve hn) rfl (by decide) kf_Ve_41 rfl (by decide +kernel) rfl rfl (Nat.le_of_ble_eq_true rfl) (gF_Ve hn) d_Ve_copy_21 (fun X46 H locs hf Y => ?_)
  refine lv_iconst (v := 0) hx hb d_Ve_copy_24 (by decide) ?_
  refine lv_istore_n (lv' := [(2, Value.int 0), (0, Value.ref (b n)), (1, Value.ref (b m1))]) hx hb d_Ve_copy_25 rfl hl (by decide) rfl (fun ls hl => ?_)
  refine gy_iter (fun s : gX × Int32 => s.1) (fun (s : gX × Int32) ls => lv_has ls 3 [(2, Value.int s.2), (0, Value.ref (b n)), (1, Value.ref (b m1))]) ?_ gK (X46, 0) _ _ _ hf (lv_sub hl [0, 1, 2] rfl) Y
  rintro ⟨X47, i2_47⟩ u47 H locs ls hf hl Y hk47 ho47
  have hl : lv_has ls 3 [(2, Value.int i2_47), (0, Value.ref (b n)), (1, Value.ref (b m1))] := hl
  have Y : gy D t b A s.heap X0 X47 H locs := Y
  have hf : f_Ve_copy_26 X47 n m1 i2_47 = some u47 := hf
  unfold f_Ve_copy_26 at hf
  refine lv_iload_n hx hb d_Ve_copy_26 rfl (lv_at hl 0 rfl) ?_
  refine lv_aload_n hx hb d_Ve_copy_27 rfl (lv_at hl 1 rfl) ?_
  refine gy_get (ci := 9) (v := Value.int (X47.I n 7)) (C := "CommitLedgerModel$Version") (T := F_Ve) (N := 11) hx hb hts i_Ve hown hK Y (gF_Ve hn) rfl 7 (by decide) kf_Ve_34 rfl d_Ve_copy_28 ?_
  refine lv_icmp_ge (tgt := 76) hx hb d_Ve_copy_31 (by decide) (fun c31_48 => ?_) (fun c31_48 => ?_)
  · replace hf := gp_t c31_48 hf
    refine lv_iconst (v := 0) hx hb d_Ve_copy_76 (by decide) ?_
    refine lv_istore_n (lv' := [(2, Value.int 0), (0, Value.ref (b n)), (1, Value.ref (b m1))]) hx hb d_Ve_copy_77 rfl hl (by decide) rfl (fun ls hl => ?_)
    replace hf := gU hf ho47
    refine gy_iter (fun s : gX × Int32 => s.1) (fun (s : gX × Int32) ls => lv_has ls 3 [(2, Value.int s.2), (0, Value.ref (b n)), (1, Value.ref (b m1))]) ?_ gK (X47, 0) _ _ _ hf (lv_sub hl [0, 1, 2] rfl) Y
    rintro ⟨X49, i2_49⟩ u49 H locs ls hf hl Y hk49 ho49
    have hl : lv_has ls 3 [(2, Value.int i2_49), (0, Value.ref (b n)), (1, Value.ref (b m1))] := hl
    have Y : gy D t b A s.heap X0 X49 H locs := Y
    have hf : f_Ve_copy_78 X49 n m1 i2_49 = some u49 := hf
    unfold f_Ve_copy_78 at hf
    refine lv_iload_n hx hb d_Ve_copy_78 rfl (lv_at hl 0 rfl) ?_
    refine lv_aload_n hx hb d_Ve_copy_79 rfl (lv_at hl 1 rfl) ?_
    refine gy_get (ci := 9) (v := Value.int (X49.I n 7)) (C := "CommitLedgerModel$Version") (T := F_Ve) (N := 11) hx hb hts i_Ve hown hK Y (gF_Ve hn) rfl 7 (by decide) kf_Ve_34 rfl d_Ve_copy_80 ?_
    refine lv_icmp_gt (tgt := 104) hx hb d_Ve_copy_83 (by decide) (fun c83_50 => ?_) (fun c83_50 => ?_)
    · replace hf := gp_t c83_50 hf
      refine lv_iconst (v := 0) hx hb d_Ve_copy_104 (by decide) ?_
      refine lv_istore_n (lv' := [(2, Value.int 0), (0, Value.ref (b n)), (1, Value.ref (b m1))]) hx hb d_Ve_copy_105 rfl hl (by decide) rfl (fun ls hl => ?_)
      replace hf := gU hf ho49
      refine gy_iter (fun s : gX × Int32 => s.1) (fun (s : gX × Int32) ls => lv_has ls 3 [(2, Value.int s.2), (0, Value.ref (b n)), (1, Value.ref (b m1))]) ?_ gK (X49, 0) _ _ _ hf (lv_sub hl [0, 1, 2] rfl) Y
      rintro ⟨X51, i2_51⟩ u51 H locs ls hf hl Y hk51 ho51
      have hl : lv_has ls 3 [(2, Value.int i2_51), (0, Value.ref (b n)), (1, Value.ref (b m1))] := hl
      have Y : gy D t b A s.heap X0 X51 H locs := Y
      have hf : f_Ve_copy_106 X51 n m1 i2_51 = some u51 := hf
      unfold f_Ve_copy_106 at hf
      refine lv_iload_n hx hb d_Ve_copy_106 rfl (lv_at hl 0 rfl) ?_
      refine lv_aload_n hx hb d_Ve_copy_107 rfl (lv_at hl 1 rfl) ?_
      obtain ⟨x52, X52, hF52, hf⟩ := gCi_el hf
      refine gy_callI (rm := { frames := 1, cells := 0, slots := 0, locals := 12 }) (ig := .invokevirtual 44) (av := [Value.ref (b n)]) Y (fun ws h hS hw => K_Ve_docs l htr D tys z _ ws h hS t ht b X51 hw n hn (gR.i x52, X52) hF52) (gx_invV (As := []) (rest := [Value.int i2_51]) hx hb hown hts km_Ve_44 kI_Ve_docs kV_Ve_docs kc_Ve_docs (by decide) (show (parseMethodDescriptor y_Ve_docs.desc).map (fun d => d.parameters.length) = some 0 by decide +kernel) (gy_recv (ci := 9) hK Y rfl (gF_Ve hn)) rfl rfl d_Ve_copy_108) (gx_cw (z := 0) hts kc_Ve_docs kN_Ve rfl rfl ⟨Nat.le_of_ble_eq_true rfl, Nat.le_of_ble_eq_true rfl⟩) hb hml hz hK hY hAz hA hl.1 (lv_room (Nat.le_of_ble_eq_true rfl)) d_Ve_copy_108 ⟨Nat.zero_le _, Nat.zero_le _⟩ (fun H locs Y => ?_)
      refine lv_icmp_ge (tgt := 156) hx hb d_Ve_copy_111 (by decide) (fun c111_53 => ?_) (fun c111_53 => ?_)
      · replace hf := gp_t c111_53 hf
        replace hf := gU hf ho51
        exact gy_vret hf hx hb hr hlocks hK Y (Nat.zero_le _) (Nat.zero_le _) d_Ve_copy_156
      · replace hf := gp_f c111_53 hf
        refine lv_aload_n hx hb d_Ve_copy_114 rfl (lv_at hl 1 rfl) ?_
        refine gy_get (ci := 9) (v := Value.ref (b (n + 5))) (C := "CommitLedgerModel$Version") (T := F_Ve) (N := 11) hx hb hts i_Ve hown hK Y (gF_Ve hn) rfl 4 (by decide) kf_Ve_24 rfl d_Ve_copy_115 ?_
        refine lv_iload_n hx hb d_Ve_copy_118 rfl (lv_at hl 0 rfl) ?_
        refine lv_aload_n hx hb d_Ve_copy_119 rfl (lv_at hl 2 rfl) ?_
        refine gy_get (ci := 9) (v := Value.ref (b (m1 + 5))) (C := "CommitLedgerModel$Version") (T := F_Ve) (N := 11) hx hb hts i_Ve hown hK Y (gF_Ve hm1) rfl 4 (by decide) kf_Ve_24 rfl d_Ve_copy_120 ?_
        refine lv_iload_n hx hb d_Ve_copy_123 rfl (lv_at hl 0 rfl) ?_
        refine gy_iald hf hx hb hK Y 0 (fun _ => (gF_Ve5 hm1)) ht0 d_Ve_copy_124 (fun _ hf => ?_)
        refine gy_iast hf hx hb hK Y 0 (fun _ => (gF_Ve5 hn)) ht0 d_Ve_copy_125 (fun X54 H locs hf Y => ?_)
        refine lv_aload_n hx hb d_Ve_copy_126 rfl (lv_at hl 1 rfl) ?_
        refine gy_get (ci := 9) (v := Value.ref (b (n + 6))) (C := "CommitLedgerModel$Version") (T := F_Ve) (N := 11) hx hb hts i_Ve hown hK Y (gF_Ve hn) rfl 5 (by decide) kf_Ve_27 rfl d_Ve_copy_127 ?_
        refine lv_iload_n hx hb d_Ve_copy_130 rfl (lv_at hl 0 rfl) ?_
        refine lv_aload_n hx hb d_Ve_copy_131 rfl (lv_at hl 2 rfl) ?_
        refine gy_get (ci := 9) (v := Value.ref (b (m1 + 6))) (C := "CommitLedgerModel$Version") (T := F_Ve) (N := 11) hx hb hts i_Ve hown hK Y (gF_Ve hm1) rfl 5 (by decide) kf_Ve_27 rfl d_Ve_copy_132 ?_
        refine lv_iload_n hx hb d_Ve_copy_135 rfl (lv_at hl 0 rfl) ?_
        refine gy_zald hf hx hb hK Y 1 (fun _ => (gF_Ve6 hm1)) ht1 d_Ve_copy_136 (fun _ hf => ?_)
        refine gy_zast hf hx hb hK Y 1 (fun _ => (gF_Ve6 hn)) ht1 d_Ve_copy_137 (fun X55 H locs hf Y => ?_)
        refine lv_aload_n hx hb d_Ve_copy_138 rfl (lv_at hl 1 rfl) ?_
        refine gy_get (ci := 9) (v := Value.ref (b (n + 7))) (C := "CommitLedgerModel$Version") (T := F_Ve) (N := 11) hx hb hts i_Ve hown hK Y (gF_Ve hn) rfl 6 (by decide) kf_Ve_31 rfl d_Ve_copy_139 ?_
        refine lv_iload_n hx hb d_Ve_copy_142 rfl (lv_at hl 0 rfl) ?_
        refine lv_aload_n hx hb d_Ve_copy_143 rfl (lv_at hl 2 rfl) ?_
        refine gy_get (ci := 9) (v := Value.ref (b (m1 + 7))) (C := "CommitLedgerModel$Version") (T := F_Ve) (N := 11) hx hb hts i_Ve hown hK Y (gF_Ve hm1) rfl 6 (by decide) kf_Ve_31 rfl d_Ve_copy_144 ?_
        refine lv_iload_n hx hb d_Ve_copy_147 rfl (lv_at hl 0 rfl) ?_
        refine gy_zald hf hx hb hK Y 1 (fun _ => (gF_Ve7 hm1)) ht1 d_Ve_copy_148 (fun _ hf => ?_)
        refine gy_zast hf hx hb hK Y 1 (fun _ => (gF_Ve7 hn)) ht1 d_Ve_copy_149 (fun X56 H locs hf Y => ?_)
        refine lv_iinc (v := i2_51 + 1) (lv' := [(2, Value.int (i2_51 + 1)), (0, Value.ref (b n)), (1, Value.ref (b m1))]) hx hb d_Ve_copy_150 hl (k := 0) rfl (rfl) (by decide) rfl (fun ls hl => ?_)
        refine lv_goto (tgt := 106) hx hb d_Ve_copy_153 (by decide) ?_
        exact hk51 _ _ _ _ hf (lv_sub hl [0, 1, 2] rfl) Y
    · replace hf := gp_f c83_50 hf
      refine lv_aload_n hx hb d_Ve_copy_86 rfl (lv_at hl 1 rfl) ?_
      refine gy_get (ci := 9) (v := Value.ref (b (n + 3))) (C := "CommitLedgerModel$Version") (T := F_Ve) (N := 11) hx hb hts i_Ve hown hK Y (gF_Ve hn) rfl 2 (by decide) kf_Ve_18 rfl d_Ve_copy_87 ?_
      refine lv_iload_n hx hb d_Ve_copy_90 rfl (lv_at hl 0 rfl) ?_
      refine lv_aload_n hx hb d_Ve_copy_91 rfl (lv_at hl 2 rfl) ?_
      refine gy_get (ci := 9) (v := Value.ref (b (m1 + 3))) (C := "CommitLedgerModel$Version") (T := F_Ve) (N := 11) hx hb hts i_Ve hown hK Y (gF_Ve hm1) rfl 2 (by decide) kf_Ve_18 rfl d_Ve_copy_92 ?_
      refine lv_iload_n hx hb d_Ve_copy_95 rfl (lv_at hl 0 rfl) ?_
      refine gy_iald hf hx hb hK Y 0 (fun _ => (gF_Ve3 hm1)) ht0 d_Ve_copy_96 (fun _ hf => ?_)
      refine gy_iast hf hx hb hK Y 0 (fun _ => (gF_Ve3 hn)) ht0 d_Ve_copy_97 (fun X57 H locs hf Y => ?_)
      refine lv_iinc (v := i2_49 + 1) (lv' := [(2, Value.int (i2_49 + 1)), (0, Value.ref (b n)), (1, Value.ref (b m1))]) hx hb d_Ve_copy_98 hl (k := 0) rfl (rfl) (by decide) rfl (fun ls hl => ?_)
      refine lv_goto (tgt := 78) hx hb d_Ve_copy_101 (by decide) ?_
      exact hk49 _ _ _ _ hf (lv_sub hl [0, 1, 2] rfl) Y
  · replace hf := gp_f c31_48 hf
    refine lv_aload_n hx hb d_Ve_copy_34 rfl (lv_at hl 1 rfl) ?_
    refine gy_get (ci := 9) (v := Value.ref (b (n + 1))) (C := "CommitLedgerModel$Version") (T := F_Ve) (N := 11) hx hb hts i_Ve hown hK Y (gF_Ve hn) rfl 0 (by decide) kf_Ve_9 rfl d_Ve_copy_35 ?_
    refine lv_iload_n hx hb d_Ve_copy_38 rfl (lv_at hl 0 rfl) ?_
    refine lv_aload_n hx hb d_Ve_copy_39 rfl (lv_at hl 2 rfl) ?_
    refine gy_get (ci := 9) (v := Value.ref (b (m1 + 1))) (C := "CommitLedgerModel$Version") (T := F_Ve) (N := 11) hx hb hts i_Ve hown hK Y (gF_Ve hm1) rfl 0 (by decide) kf_Ve_9 rfl d_Ve_copy_40 ?_
    refine lv_iload_n hx hb d_Ve_copy_43 rfl (lv_at hl 0 rfl) ?_
    refine gy_iald hf hx hb hK Y 0 (fun _ => (gF_Ve1 hm1)) ht0 d_Ve_copy_44 (fun _ hf => ?_)
    refine gy_iast hf hx hb hK Y 0 (fun _ => (gF_Ve1 hn)) ht0 d_Ve_copy_45 (fun X58 H locs hf Y => ?_)
    refine lv_aload_n hx hb d_Ve_copy_46 rfl (lv_at hl 1 rfl) ?_
    refine gy_get (ci := 9) (v := Value.ref (b (n + 2))) (C := "CommitLedgerModel$Version") (T := F_Ve) (N := 11) hx hb hts i_Ve hown hK Y (gF_Ve hn) rfl 1 (by decide) kf_Ve_15 rfl d_Ve_copy_47 ?_
    refine lv_iload_n hx hb d_Ve_copy_50 rfl (lv_at hl 0 rfl) ?_
    refine lv_aload_n hx hb d_Ve_copy_51 rfl (lv_at hl 2 rfl) ?_
    refine gy_get (ci := 9) (v := Value.ref (b (m1 + 2))) (C := "CommitLedgerModel$Version") (T := F_Ve) (N := 11) hx hb hts i_Ve hown hK Y (gF_Ve hm1) rfl 1 (by decide) kf_Ve_15 rfl d_Ve_copy_52 ?_
    refine lv_iload_n hx hb d_Ve_copy_55 rfl (lv_at hl 0 rfl) ?_
    refine gy_iald hf hx hb hK Y 0 (fun _ => (gF_Ve2 hm1)) ht0 d_Ve_copy_56 (fun _ hf => ?_)
    refine gy_iast hf hx hb hK Y 0 (fun _ => (gF_Ve2 hn)) ht0 d_Ve_copy_57 (fun X59 H locs hf Y => ?_)
    refine lv_aload_n hx hb d_Ve_copy_58 rfl (lv_at hl 1 rfl) ?_
    refine gy_get (ci := 9) (v := Value.ref (b (n + 4))) (C := "CommitLedgerModel$Version") (T := F_Ve) (N := 11) hx hb hts i_Ve hown hK Y (gF_Ve hn) rfl 3 (by decide) kf_Ve_21 rfl d_Ve_copy_59 ?_
    refine lv_iload_n hx hb d_Ve_copy_62 rfl (lv_at hl 0 rfl) ?_
    refine lv_aload_n hx hb d_Ve_copy_63 rfl (lv_at hl 2 rfl) ?_
    refine gy_get (ci := 9) (v := Value.ref (b (m1 + 4))) (C := "CommitLedgerModel$Version") (T := F_Ve) (N := 11) hx hb hts i_Ve hown hK Y (gF_Ve hm1) rfl 3 (by decide) kf_Ve_21 rfl d_Ve_copy_64 ?_
    refine lv_iload_n hx hb d_Ve_copy_67 rfl (lv_at hl 0 rfl) ?_
    refine gy_iald hf hx hb hK Y 0 (fun _ => (gF_Ve4 hm1)) ht0 d_Ve_copy_68 (fun _ hf => ?_)
    refine gy_iast hf hx hb hK Y 0 (fun _ => (gF_Ve4 hn)) ht0 d_Ve_copy_69 (fun X60 H locs hf Y => ?_)
    refine lv_iinc (v := i2_47 + 1) (lv' := [(2, Value.int (i2_47 + 1)), (0, Value.ref (b n)), (1, Value.ref (b m1))]) hx hb d_Ve_copy_70 hl (k := 0) rfl (rfl) (by decide) rfl (fun ls hl => ?_)
    refine lv_goto (tgt := 26) hx hb d_Ve_copy_73 (by decide) ?_
    exact hk47 _ _ _ _ hf (lv_sub hl [0, 1, 2] rfl) Y

def f_Ve_drop_145 (X : gX) (n : Nat) (i2 : Int32) (i3 : Int32) : Option ((gX × Int32) ⊕ (gR × gX)) := (if (X.I n 7) ≤ i3 then gB (X.w n 7 ((X.I n 7) - 1)) (fun X8 => gLf (some (gR.v, X8))) else (if gIn (i3 + 1) 4098 then (if gIn i3 4098 then gB (X.w (n + 3) (gn i3) ((X.I (n + 3) (gn (i3 + 1))) - i2)) (fun X9 => some (Sum.inl (X9, i3 + 1))) else none) else none))
def f_Ve_drop_83 (X : gX) (n : Nat) (i1 : Int32) (i2 : Int32) (i3 : Int32) : Option ((gX × Int32) ⊕ (gR × gX)) := (if (X.I n 7) ≤ (i3 + 1) then gLf (gI (fun s : gX × Int32 => f_Ve_drop_145 s.1 n i2 s.2) gK (X, i1 + 1)) else (if gIn (i3 + 1) 4097 then (if gIn i3 4097 then gB (X.w (n + 1) (gn i3) (X.I (n + 1) (gn (i3 + 1)))) (fun X13 => (if gIn (i3 + 1) 4097 then (if gIn i3 4097 then gB (X13.w (n + 2) (gn i3) (X13.I (n + 2) (gn (i3 + 1)))) (fun X14 => (if gIn (i3 + 1) 4097 then (if gIn i3 4097 then gB (X14.w (n + 4) (gn i3) (X14.I (n + 4) (gn (i3 + 1)))) (fun X15 => some (Sum.inl (X15, i3 + 1))) else none) else none)) else none) else none)) else none) else none))
def f_Ve_drop_23 (X : gX) (n : Nat) (i1 : Int32) (i2 : Int32) (i3 : Int32) : Option ((gX × Int32) ⊕ (gR × gX)) := gCi (f_Ve_docs X n) (fun x2 X2 => (if x2 ≤ (i3 + i2) then gLf (gI (fun s : gX × Int32 => f_Ve_drop_83 s.1 n i1 i2 s.2) gK (X2, i1)) else (if gIn (i3 + i2) 4096 then (if gIn i3 4096 then gB (X2.w (n + 5) (gn i3) (X2.I (n + 5) (gn (i3 + i2)))) (fun X24 => (if gIn (i3 + i2) 4096 then (if gIn i3 4096 then gB (X24.w (n + 6) (gn i3) (vp_nar .boolean (X24.I (n + 6) (gn (i3 + i2))))) (fun X25 => (if gIn (i3 + i2) 4096 then (if gIn i3 4096 then gB (X25.w (n + 7) (gn i3) (vp_nar .boolean (X25.I (n + 7) (gn (i3 + i2))))) (fun X26 => some (Sum.inl (X26, i3 + 1))) else none) else none)) else none) else none)) else none) else none)))
def f_Ve_drop (X0 : gX) (n : Nat) (a1 : Int32) : Option (gR × gX) := (if gIn (a1 + 1) 4098 then (if gIn a1 4098 then (if gIn a1 4098 then gI (fun s : gX × Int32 => f_Ve_drop_23 s.1 n a1 ((X0.I (n + 3) (gn (a1 + 1))) - (X0.I (n + 3) (gn a1))) s.2) gK (X0, X0.I (n + 3) (gn a1)) else none) else none) else none)
set_option maxHeartbeats 4000000 in
set_option maxRecDepth 100000 in
theorem K_Ve_drop (l : Launch) (htr : l.stackTraces = false) (D : va_G) (tys : List (ClassId × FieldType)) (z sz : Nat) (ws : va_W) (h : gm_M) (hM : gm_S h ws) (t : Nat → ClassId) (ht : gTy t tys) (b : Nat → Nat) (X0 : gX) (hw : gw D t b X0 h) (n : Nat) (hn : gVer n = true) (a1 : Int32) (o : gR × gX) (hf : f_Ve_drop X0 n a1 = some o) : gx_Met l y_Ve_drop [Cond.code y_Ve_drop b_Ve_drop 4 none] { frames := 2, cells := 0, slots := 0, locals := 32 } (gx_P z sz D classes tys ws [Value.ref (b n), Value.int a1]) (gx_Q D classes tys (va_A ws sz) (gPo D t b X0 o)) (0) (0) (va_A ws sz) := by
  refine gx_ofW (cc := b_Ve_drop) (maxL := 4) (ret := none) (by decide) rfl ?_
  intro p e s m args below meth c s₁ B hml hv
  obtain ⟨rfl, hsz, hz, hP, hK, hD0, hY⟩ := hv
  have hx := B.exec
  have hb := B.bytes
  have hr := B.returns
  have hts := hY.hts (#[Value.ref (b n), Value.int a1] : Array Value)
  have hown : s.vm.findClass "CommitLedgerModel$Version" = some m.cls := findClass_of_methodNamed B.named
  have hlocks := B.notSynchronized
  subst hsz
  have hAz := gx_az hD0 hz
  have hD := hD0.self (sz := s.heap.size)
  have hA : ∀ q : Nat, s.heap.size ≤ q → va_A ws s.heap.size q := fun q h => Or.inr h
  generalize va_A ws s.heap.size = A at hD hA hAz ⊢
  have Y : gy D t b A s.heap X0 X0 s.heap [] := ⟨h, ⟨ws, hM, hP, hD, va_S.rf⟩, hw, gEq.rf⟩
  clear hP hD hM hD0 hw
  obtain ⟨ht0, ht1, ht2, ht3, ht4, ht5, ht6, ht7, ht8⟩ := id ht
  have hl := lv_entry ([Value.ref (b n), Value.int a1]) (n := 4) (Nat.le_of_ble_eq_true rfl)
  rw [lg_entry_eq]
  generalize (lg_sl ([Value.ref (b n), Value.int a1]) ++ List.replicate (4 - (lg_sl ([Value.ref (b n), Value.int a1])).length) Slot.unset).toArray = ls at hl ⊢
  have hl : lv_has ls 4 [(0, Value.ref (b n)), (1, Value.int a1)] := hl
  unfold f_Ve_drop at hf
  refine lv_aload_n hx hb d_Ve_drop_0 rfl (lv_at hl 0 rfl) ?_
  refine gy_get (ci := 9) (v := Value.ref (b (n + 3))) (C := "CommitLedgerModel$Version") (T := F_Ve) (N := 11) hx hb hts i_Ve hown hK Y (gF_Ve hn) rfl 2 (by decide) kf_Ve_18 rfl d_Ve_drop_1 ?_
  refine lv_iload_n hx hb d_Ve_drop_4 rfl (lv_at hl 1 rfl) ?_
  refine lv_iconst (v := 1) hx hb d_Ve_drop_5 (by decide) ?_
  refine lv_iadd hx hb d_Ve_drop_6 ?_
  refine gy_iald hf hx hb hK Y 0 (fun _ => (gF_Ve3 hn)) ht0 d_Ve_drop_7 (fun _ hf => ?_)
  refine lv_aload_n hx hb d_Ve_drop_8 rfl (lv_at hl 0 rfl) ?_
  refine gy_get (ci := 9) (v := Value.ref (b (n + 3))) (C := "CommitLedgerModel$Version") (T := F_Ve) (N := 11) hx hb hts i_Ve hown hK Y (gF_Ve hn) rfl 2 (by decide) kf_Ve_18 rfl d_Ve_drop_9 ?_
  refine lv_iload_n hx hb d_Ve_drop_12 rfl (lv_at hl 1 rfl) ?_
  refine gy_iald hf hx hb hK Y 0 (fun _ => (gF_Ve3 hn)) ht0 d_Ve_drop_13 (fun _ hf => ?_)
  refine lv_isub hx hb d_Ve_drop_14 ?_
  refine lv_istore_n (lv' := [(2, Value.int ((X0.I (n + 3) (gn (a1 + 1))) - (X0.I (n + 3) (gn a1)))), (0, Value.ref (b n)), (1, Value.int a1)]) hx hb d_Ve_drop_15 rfl hl (by decide) rfl (fun ls hl => ?_)
  refine lv_aload_n hx hb d_Ve_drop_16 rfl (lv_at hl 1 rfl) ?_
  refine gy_get (ci := 9) (v := Value.ref (b (n + 3))) (C := "CommitLedgerModel$Version") (T := F_Ve) (N := 11) hx hb hts i_Ve hown hK Y (gF_Ve hn) rfl 2 (by decide) kf_Ve_18 rfl d_Ve_drop_17 ?_
  refine lv_iload_n hx hb d_Ve_drop_20 rfl (lv_at hl 2 rfl) ?_
  refine gy_iald hf hx hb hK Y 0 (fun _ => (gF_Ve3 hn)) ht0 d_Ve_drop_21 (fun _ hf => ?_)
  refine lv_istore_n (lv' := [(3, Value.int (X0.I (n + 3) (gn a1))), (2, Value.int ((X0.I (n + 3) (gn (a1 + 1))) - (X0.I (n + 3) (gn a1)))), (0, Value.ref (b n)), (1, Value.int a1)]) hx hb d_Ve_drop_22 rfl hl (by decide) rfl (fun ls hl => ?_)
  refine gy_iter (fun s : gX × Int32 => s.1) (fun (s : gX × Int32) ls => lv_has ls 4 [(3, Value.int s.2), (0, Value.ref (b n)), (1, Value.int a1), (2, Value.int ((X0.I (n + 3) (gn (a1 + 1))) - (X0.I (n + 3) (gn a1))))]) ?_ gK (X0, X0.I (n + 3) (gn a1)) _ _ _ hf (lv_sub hl [0, 2, 3, 1] rfl) Y
  rintro ⟨X41, i3_41⟩ u41 H locs ls hf hl Y hk41 ho41
  have hl : lv_has ls 4 [(3, Value.int i3_41), (0, Value.ref (b n)), (1, Value.int a1), (2, Value.int ((X0.I (n + 3) (gn (a1 + 1))) - (X0.I (n + 3) (gn a1))))] := hl
  have Y : gy D t b A s.heap X0 X41 H locs := Y
  have hf : f_Ve_drop_23 X41 n a1 ((X0.I (n + 3) (gn (a1 + 1))) - (X0.I (n + 3) (gn a1))) i3_41 = some u41 := hf
  unfold f_Ve_drop_23 at hf
  refine lv_iload_n hx hb d_Ve_drop_23 rfl (lv_at hl 0 rfl) ?_
  refine lv_iload_n hx hb d_Ve_drop_24 rfl (lv_at hl 3 rfl) ?_
  refine lv_iadd hx hb d_Ve_drop_25 ?_
  refine lv_aload_n hx hb d_Ve_drop_26 rfl (lv_at hl 1 rfl) ?_
  obtain ⟨x42, X42, hF42, hf⟩ := gCi_el hf
  refine gy_callI (rm := { frames := 1, cells := 0, slots := 0, locals := 12 }) (ig := .invokevirtual 44) (av := [Value.ref (b n)]) Y (fun ws h hS hw => K_Ve_docs l htr D tys z _ ws h hS t ht b X41 hw n hn (gR.i x42, X42) hF42) (gx_invV (As := []) (rest := [Value.int (i3_41 + ((X0.I (n + 3) (gn (a1 + 1))) - (X0.I (n + 3) (gn a1))))]) hx hb hown hts km_Ve_44 kI_Ve_docs kV_Ve_docs kc_Ve_docs (by decide) (show (parseMethodDescriptor y_Ve_docs.desc).map (fun d => d.parameters.length) = some 0 by decide +kernel) (gy_recv (ci := 9) hK Y rfl (gF_Ve hn)) rfl rfl d_Ve_drop_27) (gx_cw (z := 0) hts kc_Ve_docs kN_Ve rfl rfl ⟨Nat.le_of_ble_eq_true rfl, Nat.le_of_ble_eq_true rfl⟩) hb hml hz hK hY hAz hA hl.1 (lv_room (Nat.le_of_ble_eq_true rfl)) d_Ve_drop_27 ⟨Nat.zero_le _, Nat.zero_le _⟩ (fun H locs Y => ?_)
  refine lv_icmp_ge (tgt := 81) hx hb d_Ve_drop_30 (by decide) (fun c30_43 => ?_) (fun c30_43 => ?_)
  · replace hf := gp_t c30_43 hf
    refine lv_iload_n hx hb d_Ve_drop_81 rfl (lv_at hl 2 rfl) ?_
    refine lv_istore_n (lv' := [(3, Value.int a1), (0, Value.ref (b n)), (1, Value.int a1), (2, Value.int ((X0.I (n + 3) (gn (a1 + 1))) - (X0.I (n + 3) (gn a1))))]) hx hb d_Ve_drop_82 rfl hl (by decide) rfl (fun ls hl => ?_)
    replace hf := gU hf ho41
    refine gy_iter (fun s : gX × Int32 => s.1) (fun (s : gX × Int32) ls => lv_has ls 4 [(3, Value.int s.2), (0, Value.ref (b n)), (1, Value.int a1), (2, Value.int ((X0.I (n + 3) (gn (a1 + 1))) - (X0.I (n + 3) (gn a1))))]) ?_ gK (X42, a1) _ _ _ hf (lv_sub hl [0, 1, 2, 3] rfl) Y
    rintro ⟨X44, i3_44⟩ u44 H locs ls hf hl Y hk44 ho44
    have hl : lv_has ls 4 [(3, Value.int i3_44), (0, Value.ref (b n)), (1, Value.int a1), (2, Value.int ((X0.I (n + 3) (gn (a1 + 1))) - (X0.I (n + 3) (gn a1))))] := hl
    have Y : gy D t b A s.heap X0 X44 H locs := Y
    have hf : f_Ve_drop_83 X44 n a1 ((X0.I (n + 3) (gn (a1 + 1))) - (X0.I (n + 3) (gn a1))) i3_44 = some u44 := hf
    unfold f_Ve_drop_83 at hf
    refine lv_iload_n hx hb d_Ve_drop_83 rfl (lv_at hl 0 rfl) ?_
    refine lv_iconst (v := 1) hx hb d_Ve_drop_84 (by decide) ?_
    refine lv_iadd hx hb d_Ve_drop_85 ?_
    refine lv_aload_n hx hb d_Ve_drop_86 rfl (lv_at hl 1 rfl) ?_
    refine gy_get (ci := 9) (v := Value.int (X44.I n 7)) (C := "CommitLedgerModel$Version") (T := F_Ve) (N := 11) hx hb hts i_Ve hown hK Y (gF_Ve hn) rfl 7 (by decide) kf_Ve_34 rfl d_Ve_drop_87 ?_
    refine lv_icmp_ge (tgt := 141) hx hb d_Ve_drop_90 (by decide) (fun c90_45 => ?_) (fun c90_45 => ?_)
    · replace hf := gp_t c90_45 hf
      refine lv_iload_n hx hb d_Ve_drop_141 rfl (lv_at hl 2 rfl) ?_
      refine lv_iconst (v := 1) hx hb d_Ve_drop_142 (by decide) ?_
      refine lv_iadd hx hb d_Ve_drop_143 ?_
      refine lv_istore_n (lv' := [(3, Value.int (a1 + 1)), (0, Value.ref (b n)), (1, Value.int a1), (2, Value.int ((X0.I (n + 3) (gn (a1 + 1))) - (X0.I (n + 3) (gn a1))))]) hx hb d_Ve_drop_144 rfl hl (by decide) rfl (fun ls hl => ?_)
      replace hf := gU hf ho44
      refine gy_iter (fun s : gX × Int32 => s.1) (fun (s : gX × Int32) ls => lv_has ls 4 [(3, Value.int s.2), (0, Value.ref (b n)), (2, Value.int ((X0.I (n + 3) (gn (a1 + 1))) - (X0.I (n + 3) (gn a1))))]) ?_ gK (X44, a1 + 1) _ _ _ hf (lv_sub hl [0, 1, 3] rfl) Y
      rintro ⟨X46, i3_46⟩ u46 H locs ls hf hl Y hk46 ho46
      have hl : lv_has ls 4 [(3, Value.int i3_46), (0, Value.ref (b n)), (2, Value.int ((X0.I (n + 3) (gn (a1 + 1))) - (X0.I (n + 3) (gn a1))))] := hl
      have Y : gy D t b A s.heap X0 X46 H locs := Y
      have hf : f_Ve_drop_145 X46 n ((X0.I (n + 3) (gn (a1 + 1))) - (X0.I (n + 3) (gn a1))) i3_46 = some u46 := hf
      unfold f_Ve_drop_145 at hf
      refine lv_iload_n hx hb d_Ve_drop_145 rfl (lv_at hl 0 rfl) ?_
      refine lv_aload_n hx hb d_Ve_drop_146 rfl (lv_at hl 1 rfl) ?_
      refine gy_get (ci := 9) (v := Value.int (X46.I n 7)) (C := "CommitLedgerModel$Version") (T := F_Ve) (N := 11) hx hb hts i_Ve hown hK Y (gF_Ve hn) rfl 7 (by decide) kf_Ve_34 rfl d_Ve_drop_147 ?_
      refine lv_icmp_ge (tgt := 175) hx hb d_Ve_drop_150 (by decide) (fun c150_47 => ?_) (fun c150_47 => ?_)
      · replace hf := gp_t c150_47 hf
        refine lv_aload_n hx hb d_Ve_drop_175 rfl (lv_at hl 1 rfl) ?_
        refine lv_dup hx hb d_Ve_drop_176 rfl ?_
        refine gy_get (ci := 9) (v := Value.int (X46.I n 7)) (C := "CommitLedgerModel$Version") (T := F_Ve) (N := 11) hx hb hts i_Ve hown hK Y (gF_Ve hn) rfl 7 (by decide) kf_Ve_34 rfl d_Ve_drop_177 ?_
        refine lv_iconst (v := 1) hx hb d_Ve_drop_180 (by decide) ?_
        refine lv_isub hx hb d_Ve_drop_181 ?_
        refine gy_put hf (ci := 9) (ty := .int) (C := "CommitLedgerModel$Version") (T := F_Ve) (N := 11) hx hb hts i_Ve t_Ve_ok n_Ve hown hK Y (gF_Ve hn) rfl (by decide) kf_Ve_34 rfl (by decide +kernel) rfl rfl (Nat.le_of_ble_eq_true rfl) (gF_Ve hn) d_Ve_drop_182 (fun X48 H locs hf Y => ?_)
        replace hf := gU hf ho46
        exact gy_vret hf hx hb hr hlocks hK Y (Nat.zero_le _) (Nat.zero_le _) d_Ve_drop_185
      · replace hf := gp_f c150_47 hf
        refine lv_aload_n hx hb d_Ve_drop_153 rfl (lv_at hl 1 rfl) ?_
        refine gy_get (ci := 9) (v := Value.ref (b (n + 3))) (C := "CommitLedgerModel$Version") (T := F_Ve) (N := 11) hx hb hts i_Ve hown hK Y (gF_Ve hn) rfl 2 (by decide) kf_Ve_18 rfl d_Ve_drop_154 ?_
        refine lv_iload_n hx hb d_Ve_drop_157 rfl (lv_at hl 0 rfl) ?_
        refine lv_aload_n hx hb d_Ve_drop_158 rfl (lv_at hl 1 rfl) ?_
        refine gy_get (ci := 9) (v := Value.ref (b (n + 3))) (C := "CommitLedgerModel$Version") (T := F_Ve) (N := 11) hx hb hts i_Ve hown hK Y (gF_Ve hn) rfl 2 (by decide) kf_Ve_18 rfl d_Ve_drop_159 ?_
        refine lv_iload_n hx hb d_Ve_drop_162 rfl (lv_at hl 0 rfl) ?_
        refine lv_iconst (v := 1) hx hb d_Ve_drop_163 (by decide) ?_
        refine lv_iadd hx hb d_Ve_drop_164 ?_
        refine gy_iald hf hx hb hK Y 0 (fun _ => (gF_Ve3 hn)) ht0 d_Ve_drop_165 (fun _ hf => ?_)
        refine lv_iload_n hx hb d_Ve_drop_166 rfl (lv_at hl 2 rfl) ?_
        refine lv_isub hx hb d_Ve_drop_167 ?_
        refine gy_iast hf hx hb hK Y 0 (fun _ => (gF_Ve3 hn)) ht0 d_Ve_drop_168 (fun X49 H locs hf Y => ?_)
        refine lv_iinc (v := i3_46 + 1) (lv' := [(3, Value.int (i3_46 + 1)), (0, Value.ref (b n)), (2, Value.int ((X0.I (n + 3) (gn (a1 + 1))) - (X0.I (n + 3) (gn a1))))]) hx hb d_Ve_drop_169 hl (k := 0) rfl (rfl) (by decide) rfl (fun ls hl => ?_)
        refine lv_goto (tgt := 145) hx hb d_Ve_drop_172 (by decide) ?_
        exact hk46 _ _ _ _ hf (lv_sub hl [0, 1, 2] rfl) Y
    · replace hf := gp_f c90_45 hf
      refine lv_aload_n hx hb d_Ve_drop_93 rfl (lv_at hl 1 rfl) ?_
      refine gy_get (ci := 9) (v := Value.ref (b (n + 1))) (C := "CommitLedgerModel$Version") (T := F_Ve) (N := 11) hx hb hts i_Ve hown hK Y (gF_Ve hn) rfl 0 (by decide) kf_Ve_9 rfl d_Ve_drop_94 ?_
      refine lv_iload_n hx hb d_Ve_drop_97 rfl (lv_at hl 0 rfl) ?_
      refine lv_aload_n hx hb d_Ve_drop_98 rfl (lv_at hl 1 rfl) ?_
      refine gy_get (ci := 9) (v := Value.ref (b (n + 1))) (C := "CommitLedgerModel$Version") (T := F_Ve) (N := 11) hx hb hts i_Ve hown hK Y (gF_Ve hn) rfl 0 (by decide) kf_Ve_9 rfl d_Ve_drop_99 ?_
      refine lv_iload_n hx hb d_Ve_drop_102 rfl (lv_at hl 0 rfl) ?_
      refine lv_iconst (v := 1) hx hb d_Ve_drop_103 (by decide) ?_
      refine lv_iadd hx hb d_Ve_drop_104 ?_
      refine gy_iald hf hx hb hK Y 0 (fun _ => (gF_Ve1 hn)) ht0 d_Ve_drop_105 (fun _ hf => ?_)
      refine gy_iast hf hx hb hK Y 0 (fun _ => (gF_Ve1 hn)) ht0 d_Ve_drop_106 (fun X50 H locs hf Y => ?_)
      refine lv_aload_n hx hb d_Ve_drop_107 rfl (lv_at hl 1 rfl) ?_
      refine gy_get (ci := 9) (v := Value.ref (b (n + 2))) (C := "CommitLedgerModel$Version") (T := F_Ve) (N := 11) hx hb hts i_Ve hown hK Y (gF_Ve hn) rfl 1 (by decide) kf_Ve_15 rfl d_Ve_drop_108 ?_
      refine lv_iload_n hx hb d_Ve_drop_111 rfl (lv_at hl 0 rfl) ?_
      refine lv_aload_n hx hb d_Ve_drop_112 rfl (lv_at hl 1 rfl) ?_
      refine gy_get (ci := 9) (v := Value.ref (b (n + 2))) (C := "CommitLedgerModel$Version") (T := F_Ve) (N := 11) hx hb hts i_Ve hown hK Y (gF_Ve hn) rfl 1 (by decide) kf_Ve_15 rfl d_Ve_drop_113 ?_
      refine lv_iload_n hx hb d_Ve_drop_116 rfl (lv_at hl 0 rfl) ?_
      refine lv_iconst (v := 1) hx hb d_Ve_drop_117 (by decide) ?_
      refine lv_iadd hx hb d_Ve_drop_118 ?_
      refine gy_iald hf hx hb hK Y 0 (fun _ => (gF_Ve2 hn)) ht0 d_Ve_drop_119 (fun _ hf => ?_)
      refine gy_iast hf hx hb hK Y 0 (fun _ => (gF_Ve2 hn)) ht0 d_Ve_drop_120 (fun X51 H locs hf Y => ?_)
      refine lv_aload_n hx hb d_Ve_drop_121 rfl (lv_at hl 1 rfl) ?_
      refine gy_get (ci := 9) (v := Value.ref (b (n + 4))) (C := "CommitLedgerModel$Version") (T := F_Ve) (N := 11) hx hb hts i_Ve hown hK Y (gF_Ve hn) rfl 3 (by decide) kf_Ve_21 rfl d_Ve_drop_122 ?_
      refine lv_iload_n hx hb d_Ve_drop_125 rfl (lv_at hl 0 rfl) ?_
      refine lv_aload_n hx hb d_Ve_drop_126 rfl (lv_at hl 1 rfl) ?_
      refine gy_get (ci := 9) (v := Value.ref (b (n + 4))) (C := "CommitLedgerModel$Version") (T := F_Ve) (N := 11) hx hb hts i_Ve hown hK Y (gF_Ve hn) rfl 3 (by decide) kf_Ve_21 rfl d_Ve_drop_127 ?_
      refine lv_iload_n hx hb d_Ve_drop_130 rfl (lv_at hl 0 rfl) ?_
      refine lv_iconst (v := 1) hx hb d_Ve_drop_131 (by decide) ?_
      refine lv_iadd hx hb d_Ve_drop_132 ?_
      refine gy_iald hf hx hb hK Y 0 (fun _ => (gF_Ve4 hn)) ht0 d_Ve_drop_133 (fun _ hf => ?_)
      refine gy_iast hf hx hb hK Y 0 (fun _ => (gF_Ve4 hn)) ht0 d_Ve_drop_134 (fun X52 H locs hf Y => ?_)
      refine lv_iinc (v := i3_44 + 1) (lv' := [(3, Value.int (i3_44 + 1)), (0, Value.ref (b n)), (1, Value.int a1), (2, Value.int ((X0.I (n + 3) (gn (a1 + 1))) - (X0.I (n + 3) (gn a1))))]) hx hb d_Ve_drop_135 hl (k := 0) rfl (rfl) (by decide) rfl (fun ls hl => ?_)
      refine lv_goto (tgt := 83) hx hb d_Ve_drop_138 (by decide) ?_
      exact hk44 _ _ _ _ hf (lv_sub hl [0, 1, 2, 3] rfl) Y
  · replace hf := gp_f c30_43 hf
    refine lv_aload_n hx hb d_Ve_drop_33 rfl (lv_at hl 1 rfl) ?_
    refine gy_get (ci := 9) (v := Value.ref (b (n + 5))) (C := "CommitLedgerModel$Version") (T := F_Ve) (N := 11) hx hb hts i_Ve hown hK Y (gF_Ve hn) rfl 4 (by decide) kf_Ve_24 rfl d_Ve_drop_34 ?_
    refine lv_iload_n hx hb d_Ve_drop_37 rfl (lv_at hl 0 rfl) ?_
    refine lv_aload_n hx hb d_Ve_drop_38 rfl (lv_at hl 1 rfl) ?_
    refine gy_get (ci := 9) (v := Value.ref (b (n + 5))) (C := "CommitLedgerModel$Version") (T := F_Ve) (N := 11) hx hb hts i_Ve hown hK Y (gF_Ve hn) rfl 4 (by decide) kf_Ve_24 rfl d_Ve_drop_39 ?_
    refine lv_iload_n hx hb d_Ve_drop_42 rfl (lv_at hl 0 rfl) ?_
    refine lv_iload_n hx hb d_Ve_drop_43 rfl (lv_at hl 3 rfl) ?_
    refine lv_iadd hx hb d_Ve_drop_44 ?_
    refine gy_iald hf hx hb hK Y 0 (fun _ => (gF_Ve5 hn)) ht0 d_Ve_drop_45 (fun _ hf => ?_)
    refine gy_iast hf hx hb hK Y 0 (fun _ => (gF_Ve5 hn)) ht0 d_Ve_drop_46 (fun X53 H locs hf Y => ?_)
    refine lv_aload_n hx hb d_Ve_drop_47 rfl (lv_at hl 1 rfl) ?_
    refine gy_get (ci := 9) (v := Value.ref (b (n + 6))) (C := "CommitLedgerModel$Version") (T := F_Ve) (N := 11) hx hb hts i_Ve hown hK Y (gF_Ve hn) rfl 5 (by decide) kf_Ve_27 rfl d_Ve_drop_48 ?_
    refine lv_iload_n hx hb d_Ve_drop_51 rfl (lv_at hl 0 rfl) ?_
    refine lv_aload_n hx hb d_Ve_drop_52 rfl (lv_at hl 1 rfl) ?_
    refine gy_get (ci := 9) (v := Value.ref (b (n + 6))) (C := "CommitLedgerModel$Version") (T := F_Ve) (N := 11) hx hb hts i_Ve hown hK Y (gF_Ve hn) rfl 5 (by decide) kf_Ve_27 rfl d_Ve_drop_53 ?_
    refine lv_iload_n hx hb d_Ve_drop_56 rfl (lv_at hl 0 rfl) ?_
    refine lv_iload_n hx hb d_Ve_drop_57 rfl (lv_at hl 3 rfl) ?_
    refine lv_iadd hx hb d_Ve_drop_58 ?_
    refine gy_zald hf hx hb hK Y 1 (fun _ => (gF_Ve6 hn)) ht1 d_Ve_drop_59 (fun _ hf => ?_)
    refine gy_zast hf hx hb hK Y 1 (fun _ => (gF_Ve6 hn)) ht1 d_Ve_drop_60 (fun X54 H locs hf Y => ?_)
    refine lv_aload_n hx hb d_Ve_drop_61 rfl (lv_at hl 1 rfl) ?_
    refine gy_get (ci := 9) (v := Value.ref (b (n + 7))) (C := "CommitLedgerModel$Version") (T := F_Ve) (N := 11) hx hb hts i_Ve hown hK Y (gF_Ve hn) rfl 6 (by decide) kf_Ve_31 rfl d_Ve_drop_62 ?_
    refine lv_iload_n hx hb d_Ve_drop_65 rfl (lv_at hl 0 rfl) ?_
    refine lv_aload_n hx hb d_Ve_drop_66 rfl (lv_at hl 1 rfl) ?_
    refine gy_get (ci := 9) (v := Value.ref (b (n + 7))) (C := "CommitLedgerModel$Version") (T := F_Ve) (N := 11) hx hb hts i_Ve hown hK Y (gF_Ve hn) rfl 6 (by decide) kf_Ve_31 rfl d_Ve_drop_67 ?_
    refine lv_iload_n hx hb d_Ve_drop_70 rfl (lv_at hl 0 rfl) ?_
    refine lv_iload_n hx hb d_Ve_drop_71 rfl (lv_at hl 3 rfl) ?_
    refine lv_iadd hx hb d_Ve_drop_72 ?_
    refine gy_zald hf hx hb hK Y 1 (fun _ => (gF_Ve7 hn)) ht1 d_Ve_drop_73 (fun _ hf => ?_)
    refine gy_zast hf hx hb hK Y 1 (fun _ => (gF_Ve7 hn)) ht1 d_Ve_drop_74 (fun X55 H locs hf Y => ?_)
    refine lv_iinc (v := i3_41 + 1) (lv' := [(3, Value.int (i3_41 + 1)), (0, Value.ref (b n)), (1, Value.int a1), (2, Value.int ((X0.I (n + 3) (gn (a1 + 1))) - (X0.I (n + 3) (gn a1))))]) hx hb d_Ve_drop_75 hl (k := 0) rfl (rfl) (by decide) rfl (fun ls hl => ?_)
    refine lv_goto (tgt := 23) hx hb d_Ve_drop_78 (by decide) ?_
    exact hk41 _ _ _ _ hf (lv_sub hl [0, 1, 2, 3] rfl) Y

def f_Ve_tidy_33 (X : gX) (n : Nat) (i1 : Int32) : Option ((gX × Int32) ⊕ (gR × gX)) := some (Sum.inl (X, i1 + (-1)))
def f_Ve_tidy_7 (X : gX) (n : Nat) (i1 : Int32) : Option ((gX × Int32) ⊕ (gR × gX)) := (if i1 < (0 : Int32) then gLf (some (gR.v, X)) else (if gIn i1 4097 then (if (X.I (n + 4) (gn i1)) = (0 : Int32) then gCi (f_Ve_liveIn X n i1) (fun x4 X4 => (if x4 = (0 : Int32) then gCv (f_Ve_drop X4 n i1) (fun X6 => f_Ve_tidy_33 X6 n i1) else f_Ve_tidy_33 X4 n i1)) else f_Ve_tidy_33 X n i1) else none))
def f_Ve_tidy (X0 : gX) (n : Nat) : Option (gR × gX) := gI (fun s : gX × Int32 => f_Ve_tidy_7 s.1 n s.2) gK (X0, (X0.I n 7) - 1)
set_option maxHeartbeats 4000000 in
set_option maxRecDepth 100000 in
theorem K_Ve_tidy (l : Launch) (htr : l.stackTraces = false) (D : va_G) (tys : List (ClassId × FieldType)) (z sz : Nat) (ws : va_W) (h : gm_M) (hM : gm_S h ws) (t : Nat → ClassId) (ht : gTy t tys) (b : Nat → Nat) (X0 : gX) (hw : gw D t b X0 h) (n : Nat) (hn : gVer n = true) (o : gR × gX) (hf : f_Ve_tidy X0 n = some o) : gx_Met l y_Ve_tidy [Cond.code y_Ve_tidy b_Ve_tidy 2 none] { frames := 3, cells := 0, slots := 0, locals := 55 } (gx_P z sz D classes tys ws [Value.ref (b n)]) (gx_Q D classes tys (va_A ws sz) (gPo D t b X0 o)) (0) (0) (va_A ws sz) := by
  refine gx_ofW (cc := b_Ve_tidy) (maxL := 2) (ret := none) (by decide) rfl ?_
  intro p e s m args below meth c s₁ B hml hv
  obtain ⟨rfl, hsz, hz, hP, hK, hD0, hY⟩ := hv
  have hx := B.exec
  have hb := B.bytes
  have hr := B.returns
  have hts := hY.hts (#[Value.ref (b n)] : Array Value)
  have hown : s.vm.findClass "CommitLedgerModel$Version" = some m.cls := findClass_of_methodNamed B.named
  have hlocks := B.notSynchronized
  subst hsz
  have hAz := gx_az hD0 hz
  have hD := hD0.self (sz := s.heap.size)
  have hA : ∀ q : Nat, s.heap.size ≤ q → va_A ws s.heap.size q := fun q h => Or.inr h
  generalize va_A ws s.heap.size = A at hD hA hAz ⊢
  have Y : gy D t b A s.heap X0 X0 s.heap [] := ⟨h, ⟨ws, hM, hP, hD, va_S.rf⟩, hw, gEq.rf⟩
  clear hP hD hM hD0 hw
  obtain ⟨ht0, ht1, ht2, ht3, ht4, ht5, ht6, ht7, ht8⟩ := id ht
  have hl := lv_entry ([Value.ref (b n)]) (n := 2) (Nat.le_of_ble_eq_true rfl)
  rw [lg_entry_eq]
  generalize (lg_sl ([Value.ref (b n)]) ++ List.replicate (2 - (lg_sl ([Value.ref (b n)])).length) Slot.unset).toArray = ls at hl ⊢
  have hl : lv_has ls 2 [(0, Value.ref (b n))] := hl
  unfold f_Ve_tidy at hf
  refine lv_aload_n hx hb d_Ve_tidy_0 rfl (lv_at hl 0 rfl) ?_
  refine gy_get (ci := 9) (v := Value.int (X0.I n 7)) (C := "CommitLedgerModel$Version") (T := F_Ve) (N := 11) hx hb hts i_Ve hown hK Y (gF_Ve hn) rfl 7 (by decide) kf_Ve_34 rfl d_Ve_tidy_1 ?_
  refine lv_iconst (v := 1) hx hb d_Ve_tidy_4 (by decide) ?_
  refine lv_isub hx hb d_Ve_tidy_5 ?_
  refine lv_istore_n (lv' := [(1, Value.int ((X0.I n 7) - 1)), (0, Value.ref (b n))]) hx hb d_Ve_tidy_6 rfl hl (by decide) rfl (fun ls hl => ?_)
  refine gy_iter (fun s : gX × Int32 => s.1) (fun (s : gX × Int32) ls => lv_has ls 2 [(1, Value.int s.2), (0, Value.ref (b n))]) ?_ gK (X0, (X0.I n 7) - 1) _ _ _ hf (lv_sub hl [0, 1] rfl) Y
  rintro ⟨X13, i1_13⟩ u13 H locs ls hf hl Y hk13 ho13
  have hl : lv_has ls 2 [(1, Value.int i1_13), (0, Value.ref (b n))] := hl
  have Y : gy D t b A s.heap X0 X13 H locs := Y
  have hf : f_Ve_tidy_7 X13 n i1_13 = some u13 := hf
  refine gy_cut (pcJ := 33) Y (fun s : gX × Int32 => f_Ve_tidy_33 s.1 n s.2) u13 (fun s => s.1) (fun s ls => lv_has ls 2 [(1, Value.int s.2), (0, Value.ref (b n))]) (fun s => []) ?_ (fun J33 => ?_)
  · rintro ⟨X14, i1_14⟩ H locs ls hf hl Y
    have hl : lv_has ls 2 [(1, Value.int i1_14), (0, Value.ref (b n))] := hl
    have Y : gy D t b A s.heap X0 X14 H locs := Y
    have hf : f_Ve_tidy_33 X14 n i1_14 = some u13 := hf
    unfold f_Ve_tidy_33 at hf
    refine lv_iinc (v := i1_14 + (-1)) (lv' := [(1, Value.int (i1_14 + (-1))), (0, Value.ref (b n))]) hx hb d_Ve_tidy_33 hl (k := 0) rfl (rfl) (by decide) rfl (fun ls hl => ?_)
    refine lv_goto (tgt := 7) hx hb d_Ve_tidy_36 (by decide) ?_
    exact hk13 _ _ _ _ hf (lv_sub hl [0, 1] rfl) Y
  unfold f_Ve_tidy_7 at hf
  refine lv_iload_n hx hb d_Ve_tidy_7 rfl (lv_at hl 0 rfl) ?_
  refine lv_if_lt (tgt := 39) hx hb d_Ve_tidy_8 (by decide) (fun c8_15 => ?_) (fun c8_15 => ?_)
  · replace hf := gp_t c8_15 hf
    replace hf := gU hf ho13
    exact gy_vret hf hx hb hr hlocks hK Y (Nat.zero_le _) (Nat.zero_le _) d_Ve_tidy_39
  · replace hf := gp_f c8_15 hf
    refine lv_aload_n hx hb d_Ve_tidy_11 rfl (lv_at hl 1 rfl) ?_
    refine gy_get (ci := 9) (v := Value.ref (b (n + 4))) (C := "CommitLedgerModel$Version") (T := F_Ve) (N := 11) hx hb hts i_Ve hown hK Y (gF_Ve hn) rfl 3 (by decide) kf_Ve_21 rfl d_Ve_tidy_12 ?_
    refine lv_iload_n hx hb d_Ve_tidy_15 rfl (lv_at hl 0 rfl) ?_
    refine gy_iald hf hx hb hK Y 0 (fun _ => (gF_Ve4 hn)) ht0 d_Ve_tidy_16 (fun _ hf => ?_)
    refine lv_if_ne (tgt := 33) hx hb d_Ve_tidy_17 (by decide) (fun c17_16 => ?_) (fun c17_16 => ?_)
    · replace hf := gp_f c17_16 hf
      exact J33 (X13, i1_13) _ _ _ hf (lv_sub hl [0, 1] rfl) Y
    · replace hf := gp_t c17_16 hf
      refine lv_aload_n hx hb d_Ve_tidy_20 rfl (lv_at hl 1 rfl) ?_
      refine lv_iload_n hx hb d_Ve_tidy_21 rfl (lv_at hl 0 rfl) ?_
      obtain ⟨x17, X17, hF17, hf⟩ := gCi_el hf
      refine gy_callI (rm := { frames := 1, cells := 0, slots := 0, locals := 12 }) (ig := .invokevirtual 48) (av := [Value.ref (b n), Value.int i1_13]) Y (fun ws h hS hw => K_Ve_liveIn l htr D tys z _ ws h hS t ht b X13 hw n hn i1_13 (gR.i x17, X17) hF17) (gx_invV (As := [Value.int i1_13]) (rest := []) hx hb hown hts km_Ve_48 kI_Ve_liveIn kV_Ve_liveIn kc_Ve_liveIn (by decide) (show (parseMethodDescriptor y_Ve_liveIn.desc).map (fun d => d.parameters.length) = some 1 by decide +kernel) (gy_recv (ci := 9) hK Y rfl (gF_Ve hn)) rfl rfl d_Ve_tidy_22) (gx_cw (z := 0) hts kc_Ve_liveIn kN_Ve rfl rfl ⟨Nat.le_of_ble_eq_true rfl, Nat.le_of_ble_eq_true rfl⟩) hb hml hz hK hY hAz hA hl.1 (lv_room (Nat.le_of_ble_eq_true rfl)) d_Ve_tidy_22 ⟨Nat.zero_le _, Nat.zero_le _⟩ (fun H locs Y => ?_)
      refine lv_if_ne (tgt := 33) hx hb d_Ve_tidy_25 (by decide) (fun c25_18 => ?_) (fun c25_18 => ?_)
      · replace hf := gp_f c25_18 hf
        exact J33 (X17, i1_13) _ _ _ hf (lv_sub hl [0, 1] rfl) Y
      · replace hf := gp_t c25_18 hf
        refine lv_aload_n hx hb d_Ve_tidy_28 rfl (lv_at hl 1 rfl) ?_
        refine lv_iload_n hx hb d_Ve_tidy_29 rfl (lv_at hl 0 rfl) ?_
        obtain ⟨X19, hF19, hf⟩ := gCv_el hf
        refine gy_callV (rm := { frames := 2, cells := 0, slots := 0, locals := 32 }) (ig := .invokevirtual 52) (av := [Value.ref (b n), Value.int i1_13]) Y (fun ws h hS hw => K_Ve_drop l htr D tys z _ ws h hS t ht b X17 hw n hn i1_13 (gR.v, X19) hF19) (gx_invV (As := [Value.int i1_13]) (rest := []) hx hb hown hts km_Ve_52 kI_Ve_drop kV_Ve_drop kc_Ve_drop (by decide) (show (parseMethodDescriptor y_Ve_drop.desc).map (fun d => d.parameters.length) = some 1 by decide +kernel) (gy_recv (ci := 9) hK Y rfl (gF_Ve hn)) rfl rfl d_Ve_tidy_30) (gx_cw (z := 0) hts kc_Ve_drop kN_Ve rfl rfl ⟨Nat.le_of_ble_eq_true rfl, Nat.le_of_ble_eq_true rfl⟩) hb hml hz hK hY hAz hA hl.1 (lv_room (Nat.le_of_ble_eq_true rfl)) d_Ve_tidy_30 ⟨Nat.zero_le _, Nat.zero_le _⟩ (fun H locs Y => ?_)
        exact J33 (X19, i1_13) _ _ _ hf (lv_sub hl [0, 1] rfl) Y
