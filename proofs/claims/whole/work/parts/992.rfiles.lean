/-! THE THIRD LAYER, the reference: files: programs of numbers and the proof that the machine does what they say; printed by an own text program -/
def f_Mo_done_50 (X : gX) (i1 : Int32) (i2 : Int32) (i3 : Int32) (i4 : Int32) : Option ((gX × Int32 × Int32) ⊕ (gR × gX)) := some (Sum.inl (X, i3, i4 / 10))
def f_Mo_done_11 (X : gX) (i1 : Int32) (i2 : Int32) (i3 : Int32) (i4 : Int32) : Option ((gX × Int32 × Int32) ⊕ (gR × gX)) := (if i4 ≤ (0 : Int32) then gB (X.w 46 0 0) (fun X4 => (if (X4.I 46 1) ≤ (0 : Int32) then gLf (some (gR.i i1, X4)) else gLf (some (gR.i 0, X4)))) else (if ¬ i4 = 0 then (if ((i2 / i4) - (i2 / i4) / 10 * 10) = (0 : Int32) then f_Mo_done_50 X i1 i2 i3 i4 else (if ((i2 / i4) - (i2 / i4) / 10 * 10) = (X.I 46 0) then gB (X.w 46 1 (i3 + 1)) (fun X9 => f_Mo_done_50 X9 i1 i2 (i3 + 1) i4) else f_Mo_done_50 X i1 i2 (i3 + 1) i4)) else none))
def f_Mo_done (X0 : gX) (a1 : Int32) (a2 : Int32) : Option (gR × gX) := gB (X0.w 46 1 0) (fun X1 => gI (fun s : gX × Int32 × Int32 => f_Mo_done_11 s.1 a1 a2 s.2.1 s.2.2) gK (X1, 0, 100000))
set_option maxHeartbeats 4000000 in
set_option maxRecDepth 100000 in
theorem K_Mo_done (l : Launch) (htr : l.stackTraces = false) (D : va_G) (tys : List (ClassId × FieldType)) (z sz : Nat) (ws : va_W) (h : gm_M) (hM : gm_S h ws) (t : Nat → ClassId) (ht : gTy t tys) (b : Nat → Nat) (X0 : gX) (hw : gw D t b X0 h) (a1 : Int32) (a2 : Int32) (o : gR × gX) (hf : f_Mo_done X0 a1 a2 = some o) : gx_Met l y_Mo_done [Cond.code y_Mo_done b_Mo_done 6 (some .int)] { frames := 1, cells := 0, slots := 0, locals := 12 } (gx_P z sz D classes tys ws [Value.ref (b 46), Value.int a1, Value.int a2]) (gx_Q D classes tys (va_A ws sz) (gPo D t b X0 o)) (0) (0) (va_A ws sz) := by
  refine gx_ofW (cc := b_Mo_done) (maxL := 6) (ret := (some .int)) (by decide) rfl ?_
  intro p e s m args below meth c s₁ B hml hv
  obtain ⟨rfl, hsz, hz, hP, hK, hD0, hY⟩ := hv
  have hx := B.exec
  have hb := B.bytes
  have hr := B.returns
  have hts := hY.hts (#[Value.ref (b 46), Value.int a1, Value.int a2] : Array Value)
  have hown : s.vm.findClass "CommitLedgerModel" = some m.cls := findClass_of_methodNamed B.named
  have hlocks := B.notSynchronized
  subst hsz
  have hAz := gx_az hD0 hz
  have hD := hD0.self (sz := s.heap.size)
  have hA : ∀ q : Nat, s.heap.size ≤ q → va_A ws s.heap.size q := fun q h => Or.inr h
  generalize va_A ws s.heap.size = A at hD hA hAz ⊢
  have Y : gy D t b A s.heap X0 X0 s.heap [] := ⟨h, ⟨ws, hM, hP, hD, va_S.rf⟩, hw, gEq.rf⟩
  clear hP hD hM hD0 hw
  obtain ⟨ht0, ht1, ht2, ht3, ht4, ht5, ht6, ht7, ht8⟩ := id ht
  have hl := lv_entry ([Value.ref (b 46), Value.int a1, Value.int a2]) (n := 6) (Nat.le_of_ble_eq_true rfl)
  rw [lg_entry_eq]
  generalize (lg_sl ([Value.ref (b 46), Value.int a1, Value.int a2]) ++ List.replicate (6 - (lg_sl ([Value.ref (b 46), Value.int a1, Value.int a2])).length) Slot.unset).toArray = ls at hl ⊢
  have hl : lv_has ls 6 [(0, Value.ref (b 46)), (1, Value.int a1), (2, Value.int a2)] := hl
  unfold f_Mo_done at hf
  refine lv_aload_n hx hb d_Mo_done_0 rfl (lv_at hl 0 rfl) ?_
  refine lv_iconst (v := 0) hx hb d_Mo_done_1 (by decide) ?_
  refine gy_put hf (ci := 8) (ty := .int) (C := "CommitLedgerModel") (T := F_Mo) (N := 35) hx hb hts i_Mo t_Mo_ok n_Mo hown hK Y gF_46 rfl (by decide) kf_Mo_80 rfl (by decide +kernel) rfl rfl (Nat.le_of_ble_eq_true rfl) gF_46 d_Mo_done_2 (fun X18 H locs hf Y => ?_)
  refine lv_iconst (v := 0) hx hb d_Mo_done_5 (by decide) ?_
  refine lv_istore_n (lv' := [(3, Value.int 0), (0, Value.ref (b 46)), (1, Value.int a1), (2, Value.int a2)]) hx hb d_Mo_done_6 rfl hl (by decide) rfl (fun ls hl => ?_)
  refine lv_ldc (v := 100000) hx hb hown (hts _ ki_Mo_83) d_Mo_done_7 ?_
  refine lv_istore (lv' := [(4, Value.int 100000), (3, Value.int 0), (0, Value.ref (b 46)), (1, Value.int a1), (2, Value.int a2)]) hx hb d_Mo_done_9 hl (by decide) rfl (fun ls hl => ?_)
  refine gy_iter (fun s : gX × Int32 × Int32 => s.1) (fun (s : gX × Int32 × Int32) ls => lv_has ls 6 [(3, Value.int s.2.1), (4, Value.int s.2.2), (0, Value.ref (b 46)), (1, Value.int a1), (2, Value.int a2)]) ?_ gK (X18, 0, 100000) _ _ _ hf (lv_sub hl [1, 0, 2, 3, 4] rfl) Y
  rintro ⟨X19, i3_19, i4_19⟩ u19 H locs ls hf hl Y hk19 ho19
  have hl : lv_has ls 6 [(3, Value.int i3_19), (4, Value.int i4_19), (0, Value.ref (b 46)), (1, Value.int a1), (2, Value.int a2)] := hl
  have Y : gy D t b A s.heap X0 X19 H locs := Y
  have hf : f_Mo_done_11 X19 a1 a2 i3_19 i4_19 = some u19 := hf
  refine gy_cut (pcJ := 50) Y (fun s : gX × Int32 × Int32 => f_Mo_done_50 s.1 a1 a2 s.2.1 s.2.2) u19 (fun s => s.1) (fun s ls => lv_has ls 6 [(3, Value.int s.2.1), (4, Value.int s.2.2), (0, Value.ref (b 46)), (1, Value.int a1), (2, Value.int a2)]) (fun s => []) ?_ (fun J50 => ?_)
  · rintro ⟨X20, i3_20, i4_20⟩ H locs ls hf hl Y
    have hl : lv_has ls 6 [(3, Value.int i3_20), (4, Value.int i4_20), (0, Value.ref (b 46)), (1, Value.int a1), (2, Value.int a2)] := hl
    have Y : gy D t b A s.heap X0 X20 H locs := Y
    have hf : f_Mo_done_50 X20 a1 a2 i3_20 i4_20 = some u19 := hf
    unfold f_Mo_done_50 at hf
    refine lv_iload hx hb d_Mo_done_50 (lv_at hl 1 rfl) ?_
    refine lv_bipush (v := 10) hx hb d_Mo_done_52 (by decide) ?_
    refine lv_idiv hx hb d_Mo_done_54 (by decide) ?_
    refine lv_istore (lv' := [(4, Value.int (i4_20 / 10)), (3, Value.int i3_20), (0, Value.ref (b 46)), (1, Value.int a1), (2, Value.int a2)]) hx hb d_Mo_done_55 hl (by decide) rfl (fun ls hl => ?_)
    refine lv_goto (tgt := 11) hx hb d_Mo_done_57 (by decide) ?_
    exact hk19 _ _ _ _ hf (lv_sub hl [1, 0, 2, 3, 4] rfl) Y
  unfold f_Mo_done_11 at hf
  refine lv_iload hx hb d_Mo_done_11 (lv_at hl 1 rfl) ?_
  refine lv_if_le (tgt := 60) hx hb d_Mo_done_13 (by decide) (fun c13_21 => ?_) (fun c13_21 => ?_)
  · replace hf := gp_t c13_21 hf
    refine lv_aload_n hx hb d_Mo_done_60 rfl (lv_at hl 2 rfl) ?_
    refine lv_iconst (v := 0) hx hb d_Mo_done_61 (by decide) ?_
    refine gy_put hf (ci := 8) (ty := .int) (C := "CommitLedgerModel") (T := F_Mo) (N := 35) hx hb hts i_Mo t_Mo_ok n_Mo hown hK Y gF_46 rfl (by decide) kf_Mo_84 rfl (by decide +kernel) rfl rfl (Nat.le_of_ble_eq_true rfl) gF_46 d_Mo_done_62 (fun X22 H locs hf Y => ?_)
    refine lv_aload_n hx hb d_Mo_done_65 rfl (lv_at hl 2 rfl) ?_
    refine gy_get (ci := 8) (v := Value.int (X22.I 46 1)) (C := "CommitLedgerModel") (T := F_Mo) (N := 35) hx hb hts i_Mo hown hK Y gF_46 rfl 1 (by decide) kf_Mo_80 rfl d_Mo_done_66 ?_
    refine lv_if_le (tgt := 76) hx hb d_Mo_done_69 (by decide) (fun c69_23 => ?_) (fun c69_23 => ?_)
    · replace hf := gp_t c69_23 hf
      refine lv_iload_n hx hb d_Mo_done_76 rfl (lv_at hl 3 rfl) ?_
      replace hf := gU hf ho19
      exact gy_iret hf hx hb hr hlocks hK Y (Nat.zero_le _) (Nat.zero_le _) d_Mo_done_77
    · replace hf := gp_f c69_23 hf
      refine lv_iconst (v := 0) hx hb d_Mo_done_72 (by decide) ?_
      refine lv_goto (tgt := 77) hx hb d_Mo_done_73 (by decide) ?_
      replace hf := gU hf ho19
      exact gy_iret hf hx hb hr hlocks hK Y (Nat.zero_le _) (Nat.zero_le _) d_Mo_done_77
  · replace hf := gp_f c13_21 hf
    refine lv_iload_n hx hb d_Mo_done_16 rfl (lv_at hl 4 rfl) ?_
    refine lv_iload hx hb d_Mo_done_17 (lv_at hl 1 rfl) ?_
    obtain ⟨hv24, hf⟩ := gp_g hf
    refine lv_idiv hx hb d_Mo_done_19 hv24 ?_
    refine lv_bipush (v := 10) hx hb d_Mo_done_20 (by decide) ?_
    refine lv_irem hx hb d_Mo_done_22 (by decide) ?_
    refine lv_istore (lv' := [(5, Value.int ((a2 / i4_19) - (a2 / i4_19) / 10 * 10)), (3, Value.int i3_19), (4, Value.int i4_19), (0, Value.ref (b 46)), (1, Value.int a1), (2, Value.int a2)]) hx hb d_Mo_done_23 hl (by decide) rfl (fun ls hl => ?_)
    refine lv_iload hx hb d_Mo_done_25 (lv_at hl 0 rfl) ?_
    refine lv_if_ne (tgt := 33) hx hb d_Mo_done_27 (by decide) (fun c27_25 => ?_) (fun c27_25 => ?_)
    · replace hf := gp_f c27_25 hf
      refine lv_iinc (v := i3_19 + 1) (lv' := [(3, Value.int (i3_19 + 1)), (5, Value.int ((a2 / i4_19) - (a2 / i4_19) / 10 * 10)), (4, Value.int i4_19), (0, Value.ref (b 46)), (1, Value.int a1), (2, Value.int a2)]) hx hb d_Mo_done_33 hl (k := 1) rfl (rfl) (by decide) rfl (fun ls hl => ?_)
      refine lv_iload hx hb d_Mo_done_36 (lv_at hl 1 rfl) ?_
      refine lv_aload_n hx hb d_Mo_done_38 rfl (lv_at hl 3 rfl) ?_
      refine gy_get (ci := 8) (v := Value.int (X19.I 46 0)) (C := "CommitLedgerModel") (T := F_Mo) (N := 35) hx hb hts i_Mo hown hK Y gF_46 rfl 0 (by decide) kf_Mo_84 rfl d_Mo_done_39 ?_
      refine lv_icmp_ne (tgt := 50) hx hb d_Mo_done_42 (by decide) (fun c42_26 => ?_) (fun c42_26 => ?_)
      · replace hf := gp_f c42_26 hf
        exact J50 (X19, i3_19 + 1, i4_19) _ _ _ hf (lv_sub hl [0, 2, 3, 4, 5] rfl) Y
      · replace hf := gp_t c42_26 hf
        refine lv_aload_n hx hb d_Mo_done_45 rfl (lv_at hl 3 rfl) ?_
        refine lv_iload_n hx hb d_Mo_done_46 rfl (lv_at hl 0 rfl) ?_
        refine gy_put hf (ci := 8) (ty := .int) (C := "CommitLedgerModel") (T := F_Mo) (N := 35) hx hb hts i_Mo t_Mo_ok n_Mo hown hK Y gF_46 rfl (by decide) kf_Mo_80 rfl (by decide +kernel) rfl rfl (Nat.le_of_ble_eq_true rfl) gF_46 d_Mo_done_47 (fun X27 H locs hf Y => ?_)
        exact J50 (X27, i3_19 + 1, i4_19) _ _ _ hf (lv_sub hl [0, 2, 3, 4, 5] rfl) Y
    · replace hf := gp_t c27_25 hf
      refine lv_goto (tgt := 50) hx hb d_Mo_done_30 (by decide) ?_
      exact J50 (X19, i3_19, i4_19) _ _ _ hf (lv_sub hl [1, 2, 3, 4, 5] rfl) Y

def f_Mo_wrong_16 (X : gX) : Option (gR × gX) := (if (X.I 46 0) = (0 : Int32) then some (gR.i 0, X) else some (gR.i 1, X))
def f_Mo_wrong (X0 : gX) (a1 : Int32) (a2 : Int32) : Option (gR × gX) := (if a1 = (0 : Int32) then f_Mo_wrong_16 X0 else (if (X0.I 46 0) = (0 : Int32) then gB (X0.w 46 0 a2) (fun X4 => f_Mo_wrong_16 X4) else f_Mo_wrong_16 X0))
set_option maxHeartbeats 4000000 in
set_option maxRecDepth 100000 in
theorem K_Mo_wrong (l : Launch) (htr : l.stackTraces = false) (D : va_G) (tys : List (ClassId × FieldType)) (z sz : Nat) (ws : va_W) (h : gm_M) (hM : gm_S h ws) (t : Nat → ClassId) (ht : gTy t tys) (b : Nat → Nat) (X0 : gX) (hw : gw D t b X0 h) (a1 : Int32) (a2 : Int32) (o : gR × gX) (hf : f_Mo_wrong X0 a1 a2 = some o) : gx_Met l y_Mo_wrong [Cond.code y_Mo_wrong b_Mo_wrong 3 (some .boolean)] { frames := 1, cells := 0, slots := 0, locals := 12 } (gx_P z sz D classes tys ws [Value.ref (b 46), Value.int a1, Value.int a2]) (gx_Q D classes tys (va_A ws sz) (gPo D t b X0 o)) (0) (0) (va_A ws sz) := by
  refine gx_ofW (cc := b_Mo_wrong) (maxL := 3) (ret := (some .boolean)) (by decide) rfl ?_
  intro p e s m args below meth c s₁ B hml hv
  obtain ⟨rfl, hsz, hz, hP, hK, hD0, hY⟩ := hv
  have hx := B.exec
  have hb := B.bytes
  have hr := B.returns
  have hts := hY.hts (#[Value.ref (b 46), Value.int a1, Value.int a2] : Array Value)
  have hown : s.vm.findClass "CommitLedgerModel" = some m.cls := findClass_of_methodNamed B.named
  have hlocks := B.notSynchronized
  subst hsz
  have hAz := gx_az hD0 hz
  have hD := hD0.self (sz := s.heap.size)
  have hA : ∀ q : Nat, s.heap.size ≤ q → va_A ws s.heap.size q := fun q h => Or.inr h
  generalize va_A ws s.heap.size = A at hD hA hAz ⊢
  have Y : gy D t b A s.heap X0 X0 s.heap [] := ⟨h, ⟨ws, hM, hP, hD, va_S.rf⟩, hw, gEq.rf⟩
  clear hP hD hM hD0 hw
  obtain ⟨ht0, ht1, ht2, ht3, ht4, ht5, ht6, ht7, ht8⟩ := id ht
  have hl := lv_entry ([Value.ref (b 46), Value.int a1, Value.int a2]) (n := 3) (Nat.le_of_ble_eq_true rfl)
  rw [lg_entry_eq]
  generalize (lg_sl ([Value.ref (b 46), Value.int a1, Value.int a2]) ++ List.replicate (3 - (lg_sl ([Value.ref (b 46), Value.int a1, Value.int a2])).length) Slot.unset).toArray = ls at hl ⊢
  have hl : lv_has ls 3 [(0, Value.ref (b 46)), (1, Value.int a1), (2, Value.int a2)] := hl
  refine gy_cut (pcJ := 16) Y (fun s : gX => f_Mo_wrong_16 s) o (fun s => s) (fun s ls => lv_has ls 3 [(0, Value.ref (b 46))]) (fun s => []) ?_ (fun J16 => ?_)
  · rintro X5 H locs ls hf hl Y
    have hl : lv_has ls 3 [(0, Value.ref (b 46))] := hl
    have Y : gy D t b A s.heap X0 X5 H locs := Y
    have hf : f_Mo_wrong_16 X5 = some o := hf
    unfold f_Mo_wrong_16 at hf
    refine lv_aload_n hx hb d_Mo_wrong_16 rfl (lv_at hl 0 rfl) ?_
    refine gy_get (ci := 8) (v := Value.int (X5.I 46 0)) (C := "CommitLedgerModel") (T := F_Mo) (N := 35) hx hb hts i_Mo hown hK Y gF_46 rfl 0 (by decide) kf_Mo_84 rfl d_Mo_wrong_17 ?_
    refine lv_if_eq (tgt := 27) hx hb d_Mo_wrong_20 (by decide) (fun c20_6 => ?_) (fun c20_6 => ?_)
    · replace hf := gp_t c20_6 hf
      refine lv_iconst (v := 0) hx hb d_Mo_wrong_27 (by decide) ?_
      exact gy_zret hf hx hb hr hlocks hK Y (Nat.zero_le _) (Nat.zero_le _) rfl d_Mo_wrong_28
    · replace hf := gp_f c20_6 hf
      refine lv_iconst (v := 1) hx hb d_Mo_wrong_23 (by decide) ?_
      refine lv_goto (tgt := 28) hx hb d_Mo_wrong_24 (by decide) ?_
      exact gy_zret hf hx hb hr hlocks hK Y (Nat.zero_le _) (Nat.zero_le _) rfl d_Mo_wrong_28
  unfold f_Mo_wrong at hf
  refine lv_iload_n hx hb d_Mo_wrong_0 rfl (lv_at hl 1 rfl) ?_
  refine lv_if_eq (tgt := 16) hx hb d_Mo_wrong_1 (by decide) (fun c1_7 => ?_) (fun c1_7 => ?_)
  · replace hf := gp_t c1_7 hf
    exact J16 X0 _ _ _ hf (lv_sub hl [0] rfl) Y
  · replace hf := gp_f c1_7 hf
    refine lv_aload_n hx hb d_Mo_wrong_4 rfl (lv_at hl 0 rfl) ?_
    refine gy_get (ci := 8) (v := Value.int (X0.I 46 0)) (C := "CommitLedgerModel") (T := F_Mo) (N := 35) hx hb hts i_Mo hown hK Y gF_46 rfl 0 (by decide) kf_Mo_84 rfl d_Mo_wrong_5 ?_
    refine lv_if_ne (tgt := 16) hx hb d_Mo_wrong_8 (by decide) (fun c8_8 => ?_) (fun c8_8 => ?_)
    · replace hf := gp_f c8_8 hf
      exact J16 X0 _ _ _ hf (lv_sub hl [0] rfl) Y
    · replace hf := gp_t c8_8 hf
      refine lv_aload_n hx hb d_Mo_wrong_11 rfl (lv_at hl 0 rfl) ?_
      refine lv_iload_n hx hb d_Mo_wrong_12 rfl (lv_at hl 2 rfl) ?_
      refine gy_put hf (ci := 8) (ty := .int) (C := "CommitLedgerModel") (T := F_Mo) (N := 35) hx hb hts i_Mo t_Mo_ok n_Mo hown hK Y gF_46 rfl (by decide) kf_Mo_84 rfl (by decide +kernel) rfl rfl (Nat.le_of_ble_eq_true rfl) gF_46 d_Mo_wrong_13 (fun X9 H locs hf Y => ?_)
      exact J16 X9 _ _ _ hf (lv_sub hl [0] rfl) Y

def f_Mo_keepNeeded_63 (X : gX) (i1 : Int32) (i2 : Int32) : Option ((gX × Int32 × Int32) ⊕ (gR × gX)) := some (Sum.inl (X, i1, i2 + 1))
def f_Mo_keepNeeded_4 (X : gX) (i1 : Int32) (i2 : Int32) : Option ((gX × Int32 × Int32) ⊕ (gR × gX)) := (if (X.I 46 10) ≤ i2 then gB (X.w 46 10 i1) (fun X3 => gLf (some (gR.v, X3))) else (if gIn i2 60000 then (if (X.I 53 (gn i2)) = (0 : Int32) then f_Mo_keepNeeded_63 X i1 i2 else (if gIn i2 60000 then (if gIn i1 60000 then gB (X.w 50 (gn i1) (X.I 50 (gn i2))) (fun X5 => (if gIn i2 60000 then (if gIn i1 60000 then gB (X5.w 51 (gn i1) (vp_nar .boolean (X5.I 51 (gn i2)))) (fun X6 => (if gIn i2 60000 then (if gIn i1 60000 then gB (X6.w 52 (gn i1) (vp_nar .boolean (X6.I 52 (gn i2)))) (fun X7 => f_Mo_keepNeeded_63 X7 (i1 + 1) i2) else none) else none)) else none) else none)) else none) else none)) else none))
def f_Mo_keepNeeded (X0 : gX) : Option (gR × gX) := gI (fun s : gX × Int32 × Int32 => f_Mo_keepNeeded_4 s.1 s.2.1 s.2.2) gK (X0, 0, 0)
set_option maxHeartbeats 4000000 in
set_option maxRecDepth 100000 in
theorem K_Mo_keepNeeded (l : Launch) (htr : l.stackTraces = false) (D : va_G) (tys : List (ClassId × FieldType)) (z sz : Nat) (ws : va_W) (h : gm_M) (hM : gm_S h ws) (t : Nat → ClassId) (ht : gTy t tys) (b : Nat → Nat) (X0 : gX) (hw : gw D t b X0 h) (o : gR × gX) (hf : f_Mo_keepNeeded X0 = some o) : gx_Met l y_Mo_keepNeeded [Cond.code y_Mo_keepNeeded b_Mo_keepNeeded 3 none] { frames := 1, cells := 0, slots := 0, locals := 12 } (gx_P z sz D classes tys ws [Value.ref (b 46)]) (gx_Q D classes tys (va_A ws sz) (gPo D t b X0 o)) (0) (0) (va_A ws sz) := by
  refine gx_ofW (cc := b_Mo_keepNeeded) (maxL := 3) (ret := none) (by decide) rfl ?_
  intro p e s m args below meth c s₁ B hml hv
  obtain ⟨rfl, hsz, hz, hP, hK, hD0, hY⟩ := hv
  have hx := B.exec
  have hb := B.bytes
  have hr := B.returns
  have hts := hY.hts (#[Value.ref (b 46)] : Array Value)
  have hown : s.vm.findClass "CommitLedgerModel" = some m.cls := findClass_of_methodNamed B.named
  have hlocks := B.notSynchronized
  subst hsz
  have hAz := gx_az hD0 hz
  have hD := hD0.self (sz := s.heap.size)
  have hA : ∀ q : Nat, s.heap.size ≤ q → va_A ws s.heap.size q := fun q h => Or.inr h
  generalize va_A ws s.heap.size = A at hD hA hAz ⊢
  have Y : gy D t b A s.heap X0 X0 s.heap [] := ⟨h, ⟨ws, hM, hP, hD, va_S.rf⟩, hw, gEq.rf⟩
  clear hP hD hM hD0 hw
  obtain ⟨ht0, ht1, ht2, ht3, ht4, ht5, ht6, ht7, ht8⟩ := id ht
  have hl := lv_entry ([Value.ref (b 46)]) (n := 3) (Nat.le_of_ble_eq_true rfl)
  rw [lg_entry_eq]
  generalize (lg_sl ([Value.ref (b 46)]) ++ List.replicate (3 - (lg_sl ([Value.ref (b 46)])).length) Slot.unset).toArray = ls at hl ⊢
  have hl : lv_has ls 3 [(0, Value.ref (b 46))] := hl
  unfold f_Mo_keepNeeded at hf
  refine lv_iconst (v := 0) hx hb d_Mo_keepNeeded_0 (by decide) ?_
  refine lv_istore_n (lv' := [(1, Value.int 0), (0, Value.ref (b 46))]) hx hb d_Mo_keepNeeded_1 rfl hl (by decide) rfl (fun ls hl => ?_)
  refine lv_iconst (v := 0) hx hb d_Mo_keepNeeded_2 (by decide) ?_
  refine lv_istore_n (lv' := [(2, Value.int 0), (1, Value.int 0), (0, Value.ref (b 46))]) hx hb d_Mo_keepNeeded_3 rfl hl (by decide) rfl (fun ls hl => ?_)
  refine gy_iter (fun s : gX × Int32 × Int32 => s.1) (fun (s : gX × Int32 × Int32) ls => lv_has ls 3 [(1, Value.int s.2.1), (2, Value.int s.2.2), (0, Value.ref (b 46))]) ?_ gK (X0, 0, 0) _ _ _ hf (lv_sub hl [1, 0, 2] rfl) Y
  rintro ⟨X15, i1_15, i2_15⟩ u15 H locs ls hf hl Y hk15 ho15
  have hl : lv_has ls 3 [(1, Value.int i1_15), (2, Value.int i2_15), (0, Value.ref (b 46))] := hl
  have Y : gy D t b A s.heap X0 X15 H locs := Y
  have hf : f_Mo_keepNeeded_4 X15 i1_15 i2_15 = some u15 := hf
  refine gy_cut (pcJ := 63) Y (fun s : gX × Int32 × Int32 => f_Mo_keepNeeded_63 s.1 s.2.1 s.2.2) u15 (fun s => s.1) (fun s ls => lv_has ls 3 [(1, Value.int s.2.1), (2, Value.int s.2.2), (0, Value.ref (b 46))]) (fun s => []) ?_ (fun J63 => ?_)
  · rintro ⟨X16, i1_16, i2_16⟩ H locs ls hf hl Y
    have hl : lv_has ls 3 [(1, Value.int i1_16), (2, Value.int i2_16), (0, Value.ref (b 46))] := hl
    have Y : gy D t b A s.heap X0 X16 H locs := Y
    have hf : f_Mo_keepNeeded_63 X16 i1_16 i2_16 = some u15 := hf
    unfold f_Mo_keepNeeded_63 at hf
    refine lv_iinc (v := i2_16 + 1) (lv' := [(2, Value.int (i2_16 + 1)), (1, Value.int i1_16), (0, Value.ref (b 46))]) hx hb d_Mo_keepNeeded_63 hl (k := 1) rfl (rfl) (by decide) rfl (fun ls hl => ?_)
    refine lv_goto (tgt := 4) hx hb d_Mo_keepNeeded_66 (by decide) ?_
    exact hk15 _ _ _ _ hf (lv_sub hl [1, 0, 2] rfl) Y
  unfold f_Mo_keepNeeded_4 at hf
  refine lv_iload_n hx hb d_Mo_keepNeeded_4 rfl (lv_at hl 1 rfl) ?_
  refine lv_aload_n hx hb d_Mo_keepNeeded_5 rfl (lv_at hl 2 rfl) ?_
  refine gy_get (ci := 8) (v := Value.int (X15.I 46 10)) (C := "CommitLedgerModel") (T := F_Mo) (N := 35) hx hb hts i_Mo hown hK Y gF_46 rfl 10 (by decide) kf_Mo_93 rfl d_Mo_keepNeeded_6 ?_
  refine lv_icmp_ge (tgt := 69) hx hb d_Mo_keepNeeded_9 (by decide) (fun c9_17 => ?_) (fun c9_17 => ?_)
  · replace hf := gp_t c9_17 hf
    refine lv_aload_n hx hb d_Mo_keepNeeded_69 rfl (lv_at hl 2 rfl) ?_
    refine lv_iload_n hx hb d_Mo_keepNeeded_70 rfl (lv_at hl 0 rfl) ?_
    refine gy_put hf (ci := 8) (ty := .int) (C := "CommitLedgerModel") (T := F_Mo) (N := 35) hx hb hts i_Mo t_Mo_ok n_Mo hown hK Y gF_46 rfl (by decide) kf_Mo_93 rfl (by decide +kernel) rfl rfl (Nat.le_of_ble_eq_true rfl) gF_46 d_Mo_keepNeeded_71 (fun X18 H locs hf Y => ?_)
    replace hf := gU hf ho15
    exact gy_vret hf hx hb hr hlocks hK Y (Nat.zero_le _) (Nat.zero_le _) d_Mo_keepNeeded_74
  · replace hf := gp_f c9_17 hf
    refine lv_aload_n hx hb d_Mo_keepNeeded_12 rfl (lv_at hl 2 rfl) ?_
    refine gy_get (ci := 8) (v := Value.ref (b 53)) (C := "CommitLedgerModel") (T := F_Mo) (N := 35) hx hb hts i_Mo hown hK Y gF_46 rfl 9 (by decide) kf_Mo_30 rfl d_Mo_keepNeeded_13 ?_
    refine lv_iload_n hx hb d_Mo_keepNeeded_16 rfl (lv_at hl 1 rfl) ?_
    refine gy_zald hf hx hb hK Y 1 (fun _ => gF_53) ht1 d_Mo_keepNeeded_17 (fun _ hf => ?_)
    refine lv_if_ne (tgt := 24) hx hb d_Mo_keepNeeded_18 (by decide) (fun c18_19 => ?_) (fun c18_19 => ?_)
    · replace hf := gp_f c18_19 hf
      refine lv_aload_n hx hb d_Mo_keepNeeded_24 rfl (lv_at hl 2 rfl) ?_
      refine gy_get (ci := 8) (v := Value.ref (b 50)) (C := "CommitLedgerModel") (T := F_Mo) (N := 35) hx hb hts i_Mo hown hK Y gF_46 rfl 6 (by decide) kf_Mo_20 rfl d_Mo_keepNeeded_25 ?_
      refine lv_iload_n hx hb d_Mo_keepNeeded_28 rfl (lv_at hl 0 rfl) ?_
      refine lv_aload_n hx hb d_Mo_keepNeeded_29 rfl (lv_at hl 2 rfl) ?_
      refine gy_get (ci := 8) (v := Value.ref (b 50)) (C := "CommitLedgerModel") (T := F_Mo) (N := 35) hx hb hts i_Mo hown hK Y gF_46 rfl 6 (by decide) kf_Mo_20 rfl d_Mo_keepNeeded_30 ?_
      refine lv_iload_n hx hb d_Mo_keepNeeded_33 rfl (lv_at hl 1 rfl) ?_
      refine gy_iald hf hx hb hK Y 0 (fun _ => gF_50) ht0 d_Mo_keepNeeded_34 (fun _ hf => ?_)
      refine gy_iast hf hx hb hK Y 0 (fun _ => gF_50) ht0 d_Mo_keepNeeded_35 (fun X20 H locs hf Y => ?_)
      refine lv_aload_n hx hb d_Mo_keepNeeded_36 rfl (lv_at hl 2 rfl) ?_
      refine gy_get (ci := 8) (v := Value.ref (b 51)) (C := "CommitLedgerModel") (T := F_Mo) (N := 35) hx hb hts i_Mo hown hK Y gF_46 rfl 7 (by decide) kf_Mo_23 rfl d_Mo_keepNeeded_37 ?_
      refine lv_iload_n hx hb d_Mo_keepNeeded_40 rfl (lv_at hl 0 rfl) ?_
      refine lv_aload_n hx hb d_Mo_keepNeeded_41 rfl (lv_at hl 2 rfl) ?_
      refine gy_get (ci := 8) (v := Value.ref (b 51)) (C := "CommitLedgerModel") (T := F_Mo) (N := 35) hx hb hts i_Mo hown hK Y gF_46 rfl 7 (by decide) kf_Mo_23 rfl d_Mo_keepNeeded_42 ?_
      refine lv_iload_n hx hb d_Mo_keepNeeded_45 rfl (lv_at hl 1 rfl) ?_
      refine gy_zald hf hx hb hK Y 1 (fun _ => gF_51) ht1 d_Mo_keepNeeded_46 (fun _ hf => ?_)
      refine gy_zast hf hx hb hK Y 1 (fun _ => gF_51) ht1 d_Mo_keepNeeded_47 (fun X21 H locs hf Y => ?_)
      refine lv_aload_n hx hb d_Mo_keepNeeded_48 rfl (lv_at hl 2 rfl) ?_
      refine gy_get (ci := 8) (v := Value.ref (b 52)) (C := "CommitLedgerModel") (T := F_Mo) (N := 35) hx hb hts i_Mo hown hK Y gF_46 rfl 8 (by decide) kf_Mo_27 rfl d_Mo_keepNeeded_49 ?_
      refine lv_iload_n hx hb d_Mo_keepNeeded_52 rfl (lv_at hl 0 rfl) ?_
      refine lv_aload_n hx hb d_Mo_keepNeeded_53 rfl (lv_at hl 2 rfl) ?_
      refine gy_get (ci := 8) (v := Value.ref (b 52)) (C := "CommitLedgerModel") (T := F_Mo) (N := 35) hx hb hts i_Mo hown hK Y gF_46 rfl 8 (by decide) kf_Mo_27 rfl d_Mo_keepNeeded_54 ?_
      refine lv_iload_n hx hb d_Mo_keepNeeded_57 rfl (lv_at hl 1 rfl) ?_
      refine gy_zald hf hx hb hK Y 1 (fun _ => gF_52) ht1 d_Mo_keepNeeded_58 (fun _ hf => ?_)
      refine gy_zast hf hx hb hK Y 1 (fun _ => gF_52) ht1 d_Mo_keepNeeded_59 (fun X22 H locs hf Y => ?_)
      refine lv_iinc (v := i1_15 + 1) (lv' := [(1, Value.int (i1_15 + 1)), (2, Value.int i2_15), (0, Value.ref (b 46))]) hx hb d_Mo_keepNeeded_60 hl (k := 0) rfl (rfl) (by decide) rfl (fun ls hl => ?_)
      exact J63 (X22, i1_15 + 1, i2_15) _ _ _ hf (lv_sub hl [0, 1, 2] rfl) Y
    · replace hf := gp_t c18_19 hf
      refine lv_goto (tgt := 63) hx hb d_Mo_keepNeeded_21 (by decide) ?_
      exact J63 (X15, i1_15, i2_15) _ _ _ hf (lv_sub hl [0, 1, 2] rfl) Y

def f_Mo_lose_47 (X : gX) (i2 : Int32) (i3 : Int32) : Option ((gX × Int32) ⊕ (gR × gX)) := (if i2 ≤ i3 then gB (X.w 46 30 0) (fun X7 => gB (X7.w 46 19 0) (fun X8 => gB (X8.w 46 13 (-1)) (fun X9 => gB (X9.w 46 14 1) (fun X10 => gLf (some (gR.v, X10)))))) else (if gIn i3 4 then gB (X.w (84 + 8 * gn i3) 10 0) (fun X12 => some (Sum.inl (X12, i3 + 1))) else none))
def f_Mo_lose_2 (X : gX) (i1 : Int32) : Option ((gX × Int32) ⊕ (gR × gX)) := (if (X.I 46 10) ≤ i1 then gCv (f_Mo_keepNeeded X) (fun X3 => gB (X3.w 46 18 0) (fun X4 => gLf (gI (fun s : gX × Int32 => f_Mo_lose_47 s.1 4 s.2) gK (X4, 0)))) else (if gIn i1 60000 then (if gIn i1 60000 then gB (X.w 53 (gn i1) (vp_nar .boolean (X.I 51 (gn i1)))) (fun X20 => some (Sum.inl (X20, i1 + 1))) else none) else none))
def f_Mo_lose (X0 : gX) : Option (gR × gX) := gI (fun s : gX × Int32 => f_Mo_lose_2 s.1 s.2) gK (X0, 0)
set_option maxHeartbeats 4000000 in
set_option maxRecDepth 100000 in
theorem K_Mo_lose (l : Launch) (htr : l.stackTraces = false) (D : va_G) (tys : List (ClassId × FieldType)) (z sz : Nat) (ws : va_W) (h : gm_M) (hM : gm_S h ws) (t : Nat → ClassId) (ht : gTy t tys) (b : Nat → Nat) (X0 : gX) (hw : gw D t b X0 h) (o : gR × gX) (hf : f_Mo_lose X0 = some o) : gx_Met l y_Mo_lose [Cond.code y_Mo_lose b_Mo_lose 5 none] { frames := 2, cells := 0, slots := 0, locals := 34 } (gx_P z sz D classes tys ws [Value.ref (b 46)]) (gx_Q D classes tys (va_A ws sz) (gPo D t b X0 o)) (0) (0) (va_A ws sz) := by
  refine gx_ofW (cc := b_Mo_lose) (maxL := 5) (ret := none) (by decide) rfl ?_
  intro p e s m args below meth c s₁ B hml hv
  obtain ⟨rfl, hsz, hz, hP, hK, hD0, hY⟩ := hv
  have hx := B.exec
  have hb := B.bytes
  have hr := B.returns
  have hts := hY.hts (#[Value.ref (b 46)] : Array Value)
  have hown : s.vm.findClass "CommitLedgerModel" = some m.cls := findClass_of_methodNamed B.named
  have hlocks := B.notSynchronized
  subst hsz
  have hAz := gx_az hD0 hz
  have hD := hD0.self (sz := s.heap.size)
  have hA : ∀ q : Nat, s.heap.size ≤ q → va_A ws s.heap.size q := fun q h => Or.inr h
  generalize va_A ws s.heap.size = A at hD hA hAz ⊢
  have Y : gy D t b A s.heap X0 X0 s.heap [] := ⟨h, ⟨ws, hM, hP, hD, va_S.rf⟩, hw, gEq.rf⟩
  clear hP hD hM hD0 hw
  obtain ⟨ht0, ht1, ht2, ht3, ht4, ht5, ht6, ht7, ht8⟩ := id ht
  have hl := lv_entry ([Value.ref (b 46)]) (n := 5) (Nat.le_of_ble_eq_true rfl)
  rw [lg_entry_eq]
  generalize (lg_sl ([Value.ref (b 46)]) ++ List.replicate (5 - (lg_sl ([Value.ref (b 46)])).length) Slot.unset).toArray = ls at hl ⊢
  have hl : lv_has ls 5 [(0, Value.ref (b 46))] := hl
  unfold f_Mo_lose at hf
  refine lv_iconst (v := 0) hx hb d_Mo_lose_0 (by decide) ?_
  refine lv_istore_n (lv' := [(1, Value.int 0), (0, Value.ref (b 46))]) hx hb d_Mo_lose_1 rfl hl (by decide) rfl (fun ls hl => ?_)
  refine gy_iter (fun s : gX × Int32 => s.1) (fun (s : gX × Int32) ls => lv_has ls 5 [(1, Value.int s.2), (0, Value.ref (b 46))]) ?_ gK (X0, 0) _ _ _ hf (lv_sub hl [0, 1] rfl) Y
  rintro ⟨X33, i1_33⟩ u33 H locs ls hf hl Y hk33 ho33
  have hl : lv_has ls 5 [(1, Value.int i1_33), (0, Value.ref (b 46))] := hl
  have Y : gy D t b A s.heap X0 X33 H locs := Y
  have hf : f_Mo_lose_2 X33 i1_33 = some u33 := hf
  unfold f_Mo_lose_2 at hf
  refine lv_iload_n hx hb d_Mo_lose_2 rfl (lv_at hl 0 rfl) ?_
  refine lv_aload_n hx hb d_Mo_lose_3 rfl (lv_at hl 1 rfl) ?_
  refine gy_get (ci := 8) (v := Value.int (X33.I 46 10)) (C := "CommitLedgerModel") (T := F_Mo) (N := 35) hx hb hts i_Mo hown hK Y gF_46 rfl 10 (by decide) kf_Mo_93 rfl d_Mo_lose_4 ?_
  refine lv_icmp_ge (tgt := 28) hx hb d_Mo_lose_7 (by decide) (fun c7_34 => ?_) (fun c7_34 => ?_)
  · replace hf := gp_t c7_34 hf
    refine lv_aload_n hx hb d_Mo_lose_28 rfl (lv_at hl 1 rfl) ?_
    obtain ⟨X35, hF35, hf⟩ := gCv_el hf
    refine gy_callV (rm := { frames := 1, cells := 0, slots := 0, locals := 12 }) (ig := .invokevirtual 96) (av := [Value.ref (b 46)]) Y (fun ws h hS hw => K_Mo_keepNeeded l htr D tys z _ ws h hS t ht b X33 hw (gR.v, X35) hF35) (gx_invV (As := []) (rest := []) hx hb hown hts km_Mo_96 kI_Mo_keepNeeded kV_Mo_keepNeeded kc_Mo_keepNeeded (by decide) (show (parseMethodDescriptor y_Mo_keepNeeded.desc).map (fun d => d.parameters.length) = some 0 by decide +kernel) (gy_recv (ci := 8) hK Y rfl gF_46) rfl rfl d_Mo_lose_29) (gx_cw (z := 0) hts kc_Mo_keepNeeded kN_Mo rfl rfl ⟨Nat.le_of_ble_eq_true rfl, Nat.le_of_ble_eq_true rfl⟩) hb hml hz hK hY hAz hA hl.1 (lv_room (Nat.le_of_ble_eq_true rfl)) d_Mo_lose_29 ⟨Nat.zero_le _, Nat.zero_le _⟩ (fun H locs Y => ?_)
    refine lv_aload_n hx hb d_Mo_lose_32 rfl (lv_at hl 1 rfl) ?_
    refine lv_iconst (v := 0) hx hb d_Mo_lose_33 (by decide) ?_
    refine gy_put hf (ci := 8) (ty := .boolean) (C := "CommitLedgerModel") (T := F_Mo) (N := 35) hx hb hts i_Mo t_Mo_ok n_Mo hown hK Y gF_46 rfl (by decide) kf_Mo_99 rfl (by decide +kernel) rfl rfl (Nat.le_of_ble_eq_true rfl) gF_46 d_Mo_lose_34 (fun X36 H locs hf Y => ?_)
    refine lv_aload_n hx hb d_Mo_lose_37 rfl (lv_at hl 1 rfl) ?_
    refine gy_get (ci := 8) (v := Value.ref (b 83)) (C := "CommitLedgerModel") (T := F_Mo) (N := 35) hx hb hts i_Mo hown hK Y gF_46 rfl 31 (by decide) kf_Mo_76 rfl d_Mo_lose_38 ?_
    refine lv_astore_n (lv' := [(1, Value.ref (b 83)), (0, Value.ref (b 46))]) hx hb d_Mo_lose_41 rfl hl (by decide) rfl (fun ls hl => ?_)
    refine lv_aload_n hx hb d_Mo_lose_42 rfl (lv_at hl 0 rfl) ?_
    refine gy_alen (v := 4) hx hb hK Y 5 gF_83 ht5 rfl d_Mo_lose_43 ?_
    refine lv_istore_n (lv' := [(2, Value.int 4), (1, Value.ref (b 83)), (0, Value.ref (b 46))]) hx hb d_Mo_lose_44 rfl hl (by decide) rfl (fun ls hl => ?_)
    refine lv_iconst (v := 0) hx hb d_Mo_lose_45 (by decide) ?_
    refine lv_istore_n (lv' := [(3, Value.int 0), (2, Value.int 4), (1, Value.ref (b 83)), (0, Value.ref (b 46))]) hx hb d_Mo_lose_46 rfl hl (by decide) rfl (fun ls hl => ?_)
    replace hf := gU hf ho33
    refine gy_iter (fun s : gX × Int32 => s.1) (fun (s : gX × Int32) ls => lv_has ls 5 [(3, Value.int s.2), (0, Value.ref (b 46)), (1, Value.ref (b 83)), (2, Value.int 4)]) ?_ gK (X36, 0) _ _ _ hf (lv_sub hl [0, 3, 2, 1] rfl) Y
    rintro ⟨X37, i3_37⟩ u37 H locs ls hf hl Y hk37 ho37
    have hl : lv_has ls 5 [(3, Value.int i3_37), (0, Value.ref (b 46)), (1, Value.ref (b 83)), (2, Value.int 4)] := hl
    have Y : gy D t b A s.heap X0 X37 H locs := Y
    have hf : f_Mo_lose_47 X37 4 i3_37 = some u37 := hf
    unfold f_Mo_lose_47 at hf
    refine lv_iload_n hx hb d_Mo_lose_47 rfl (lv_at hl 0 rfl) ?_
    refine lv_iload_n hx hb d_Mo_lose_48 rfl (lv_at hl 3 rfl) ?_
    refine lv_icmp_ge (tgt := 69) hx hb d_Mo_lose_49 (by decide) (fun c49_38 => ?_) (fun c49_38 => ?_)
    · replace hf := gp_t c49_38 hf
      refine lv_aload_n hx hb d_Mo_lose_69 rfl (lv_at hl 1 rfl) ?_
      refine lv_iconst (v := 0) hx hb d_Mo_lose_70 (by decide) ?_
      refine gy_put hf (ci := 8) (ty := .int) (C := "CommitLedgerModel") (T := F_Mo) (N := 35) hx hb hts i_Mo t_Mo_ok n_Mo hown hK Y gF_46 rfl (by decide) kf_Mo_106 rfl (by decide +kernel) rfl rfl (Nat.le_of_ble_eq_true rfl) gF_46 d_Mo_lose_71 (fun X39 H locs hf Y => ?_)
      refine lv_aload_n hx hb d_Mo_lose_74 rfl (lv_at hl 1 rfl) ?_
      refine lv_iconst (v := 0) hx hb d_Mo_lose_75 (by decide) ?_
      refine gy_put hf (ci := 8) (ty := .boolean) (C := "CommitLedgerModel") (T := F_Mo) (N := 35) hx hb hts i_Mo t_Mo_ok n_Mo hown hK Y gF_46 rfl (by decide) kf_Mo_109 rfl (by decide +kernel) rfl rfl (Nat.le_of_ble_eq_true rfl) gF_46 d_Mo_lose_76 (fun X40 H locs hf Y => ?_)
      refine lv_aload_n hx hb d_Mo_lose_79 rfl (lv_at hl 1 rfl) ?_
      refine lv_iconst (v := (-1)) hx hb d_Mo_lose_80 (by decide) ?_
      refine gy_put hf (ci := 8) (ty := .int) (C := "CommitLedgerModel") (T := F_Mo) (N := 35) hx hb hts i_Mo t_Mo_ok n_Mo hown hK Y gF_46 rfl (by decide) kf_Mo_33 rfl (by decide +kernel) rfl rfl (Nat.le_of_ble_eq_true rfl) gF_46 d_Mo_lose_81 (fun X41 H locs hf Y => ?_)
      refine lv_aload_n hx hb d_Mo_lose_84 rfl (lv_at hl 1 rfl) ?_
      refine lv_iconst (v := 1) hx hb d_Mo_lose_85 (by decide) ?_
      refine gy_put hf (ci := 8) (ty := .boolean) (C := "CommitLedgerModel") (T := F_Mo) (N := 35) hx hb hts i_Mo t_Mo_ok n_Mo hown hK Y gF_46 rfl (by decide) kf_Mo_112 rfl (by decide +kernel) rfl rfl (Nat.le_of_ble_eq_true rfl) gF_46 d_Mo_lose_86 (fun X42 H locs hf Y => ?_)
      replace hf := gU hf ho37
      exact gy_vret hf hx hb hr hlocks hK Y (Nat.zero_le _) (Nat.zero_le _) d_Mo_lose_89
    · replace hf := gp_f c49_38 hf
      refine lv_aload_n hx hb d_Mo_lose_52 rfl (lv_at hl 2 rfl) ?_
      refine lv_iload_n hx hb d_Mo_lose_53 rfl (lv_at hl 0 rfl) ?_
      refine gy_aalR hf hx hb hK Y 5 gF_83 ht5 d_Mo_lose_54 (fun hi43 hf => ?_)
      refine lv_astore (lv' := [(4, Value.ref (b (84 + 8 * gn i3_37))), (3, Value.int i3_37), (0, Value.ref (b 46)), (1, Value.ref (b 83)), (2, Value.int 4)]) hx hb d_Mo_lose_55 hl (by decide) rfl (fun ls hl => ?_)
      refine lv_aload hx hb d_Mo_lose_57 (lv_at hl 0 rfl) ?_
      refine lv_iconst (v := 0) hx hb d_Mo_lose_59 (by decide) ?_
      refine gy_put hf (ci := 9) (ty := .int) (C := "CommitLedgerModel$Version") (T := F_Ve) (N := 11) hx hb hts i_Ve t_Ve_ok n_Ve hown hK Y (gF_Ve (gVer_rd hi43)) rfl (by decide) kf_Mo_103 rfl (by decide +kernel) rfl rfl (Nat.le_of_ble_eq_true rfl) (gF_Ve (gVer_rd hi43)) d_Mo_lose_60 (fun X44 H locs hf Y => ?_)
      refine lv_iinc (v := i3_37 + 1) (lv' := [(3, Value.int (i3_37 + 1)), (4, Value.ref (b (84 + 8 * gn i3_37))), (0, Value.ref (b 46)), (1, Value.ref (b 83)), (2, Value.int 4)]) hx hb d_Mo_lose_63 hl (k := 1) rfl (rfl) (by decide) rfl (fun ls hl => ?_)
      refine lv_goto (tgt := 47) hx hb d_Mo_lose_66 (by decide) ?_
      exact hk37 _ _ _ _ hf (lv_sub hl [0, 2, 3, 4] rfl) Y
  · replace hf := gp_f c7_34 hf
    refine lv_aload_n hx hb d_Mo_lose_10 rfl (lv_at hl 1 rfl) ?_
    refine gy_get (ci := 8) (v := Value.ref (b 53)) (C := "CommitLedgerModel") (T := F_Mo) (N := 35) hx hb hts i_Mo hown hK Y gF_46 rfl 9 (by decide) kf_Mo_30 rfl d_Mo_lose_11 ?_
    refine lv_iload_n hx hb d_Mo_lose_14 rfl (lv_at hl 0 rfl) ?_
    refine lv_aload_n hx hb d_Mo_lose_15 rfl (lv_at hl 1 rfl) ?_
    refine gy_get (ci := 8) (v := Value.ref (b 51)) (C := "CommitLedgerModel") (T := F_Mo) (N := 35) hx hb hts i_Mo hown hK Y gF_46 rfl 7 (by decide) kf_Mo_23 rfl d_Mo_lose_16 ?_
    refine lv_iload_n hx hb d_Mo_lose_19 rfl (lv_at hl 0 rfl) ?_
    refine gy_zald hf hx hb hK Y 1 (fun _ => gF_51) ht1 d_Mo_lose_20 (fun _ hf => ?_)
    refine gy_zast hf hx hb hK Y 1 (fun _ => gF_53) ht1 d_Mo_lose_21 (fun X45 H locs hf Y => ?_)
    refine lv_iinc (v := i1_33 + 1) (lv' := [(1, Value.int (i1_33 + 1)), (0, Value.ref (b 46))]) hx hb d_Mo_lose_22 hl (k := 0) rfl (rfl) (by decide) rfl (fun ls hl => ?_)
    refine lv_goto (tgt := 2) hx hb d_Mo_lose_25 (by decide) ?_
    exact hk33 _ _ _ _ hf (lv_sub hl [0, 1] rfl) Y

def f_Mo_act_36 (X : gX) : Option (gR × gX) := gB (X.w 46 12 ((X.I 46 12) + 1)) (fun X3 => some (gR.i 1, X3))
def f_Mo_act (X0 : gX) : Option (gR × gX) := (if (X0.I 46 13) = (0 : Int32) then gCv (f_Mo_lose X0) (fun X5 => gB (X5.w 46 0 6) (fun X6 => some (gR.i 0, X6))) else (if (X0.I 46 13) ≤ (0 : Int32) then f_Mo_act_36 X0 else gB (X0.w 46 13 ((X0.I 46 13) - 1)) (fun X4 => f_Mo_act_36 X4)))
set_option maxHeartbeats 4000000 in
set_option maxRecDepth 100000 in
theorem K_Mo_act (l : Launch) (htr : l.stackTraces = false) (D : va_G) (tys : List (ClassId × FieldType)) (z sz : Nat) (ws : va_W) (h : gm_M) (hM : gm_S h ws) (t : Nat → ClassId) (ht : gTy t tys) (b : Nat → Nat) (X0 : gX) (hw : gw D t b X0 h) (o : gR × gX) (hf : f_Mo_act X0 = some o) : gx_Met l y_Mo_act [Cond.code y_Mo_act b_Mo_act 1 (some .boolean)] { frames := 3, cells := 0, slots := 0, locals := 58 } (gx_P z sz D classes tys ws [Value.ref (b 46)]) (gx_Q D classes tys (va_A ws sz) (gPo D t b X0 o)) (0) (0) (va_A ws sz) := by
  refine gx_ofW (cc := b_Mo_act) (maxL := 1) (ret := (some .boolean)) (by decide) rfl ?_
  intro p e s m args below meth c s₁ B hml hv
  obtain ⟨rfl, hsz, hz, hP, hK, hD0, hY⟩ := hv
  have hx := B.exec
  have hb := B.bytes
  have hr := B.returns
  have hts := hY.hts (#[Value.ref (b 46)] : Array Value)
  have hown : s.vm.findClass "CommitLedgerModel" = some m.cls := findClass_of_methodNamed B.named
  have hlocks := B.notSynchronized
  subst hsz
  have hAz := gx_az hD0 hz
  have hD := hD0.self (sz := s.heap.size)
  have hA : ∀ q : Nat, s.heap.size ≤ q → va_A ws s.heap.size q := fun q h => Or.inr h
  generalize va_A ws s.heap.size = A at hD hA hAz ⊢
  have Y : gy D t b A s.heap X0 X0 s.heap [] := ⟨h, ⟨ws, hM, hP, hD, va_S.rf⟩, hw, gEq.rf⟩
  clear hP hD hM hD0 hw
  obtain ⟨ht0, ht1, ht2, ht3, ht4, ht5, ht6, ht7, ht8⟩ := id ht
  have hl := lv_entry ([Value.ref (b 46)]) (n := 1) (Nat.le_of_ble_eq_true rfl)
  rw [lg_entry_eq]
  generalize (lg_sl ([Value.ref (b 46)]) ++ List.replicate (1 - (lg_sl ([Value.ref (b 46)])).length) Slot.unset).toArray = ls at hl ⊢
  have hl : lv_has ls 1 [(0, Value.ref (b 46))] := hl
  refine gy_cut (pcJ := 36) Y (fun s : gX => f_Mo_act_36 s) o (fun s => s) (fun s ls => lv_has ls 1 [(0, Value.ref (b 46))]) (fun s => []) ?_ (fun J36 => ?_)
  · rintro X7 H locs ls hf hl Y
    have hl : lv_has ls 1 [(0, Value.ref (b 46))] := hl
    have Y : gy D t b A s.heap X0 X7 H locs := Y
    have hf : f_Mo_act_36 X7 = some o := hf
    unfold f_Mo_act_36 at hf
    refine lv_aload_n hx hb d_Mo_act_36 rfl (lv_at hl 0 rfl) ?_
    refine lv_dup hx hb d_Mo_act_37 rfl ?_
    refine gy_get (ci := 8) (v := Value.int (X7.I 46 12)) (C := "CommitLedgerModel") (T := F_Mo) (N := 35) hx hb hts i_Mo hown hK Y gF_46 rfl 12 (by decide) kf_Mo_90 rfl d_Mo_act_38 ?_
    refine lv_iconst (v := 1) hx hb d_Mo_act_41 (by decide) ?_
    refine lv_iadd hx hb d_Mo_act_42 ?_
    refine gy_put hf (ci := 8) (ty := .int) (C := "CommitLedgerModel") (T := F_Mo) (N := 35) hx hb hts i_Mo t_Mo_ok n_Mo hown hK Y gF_46 rfl (by decide) kf_Mo_90 rfl (by decide +kernel) rfl rfl (Nat.le_of_ble_eq_true rfl) gF_46 d_Mo_act_43 (fun X8 H locs hf Y => ?_)
    refine lv_iconst (v := 1) hx hb d_Mo_act_46 (by decide) ?_
    exact gy_zret hf hx hb hr hlocks hK Y (Nat.zero_le _) (Nat.zero_le _) rfl d_Mo_act_47
  unfold f_Mo_act at hf
  refine lv_aload_n hx hb d_Mo_act_0 rfl (lv_at hl 0 rfl) ?_
  refine gy_get (ci := 8) (v := Value.int (X0.I 46 13)) (C := "CommitLedgerModel") (T := F_Mo) (N := 35) hx hb hts i_Mo hown hK Y gF_46 rfl 13 (by decide) kf_Mo_33 rfl d_Mo_act_1 ?_
  refine lv_if_ne (tgt := 19) hx hb d_Mo_act_4 (by decide) (fun c4_9 => ?_) (fun c4_9 => ?_)
  · replace hf := gp_f c4_9 hf
    refine lv_aload_n hx hb d_Mo_act_19 rfl (lv_at hl 0 rfl) ?_
    refine gy_get (ci := 8) (v := Value.int (X0.I 46 13)) (C := "CommitLedgerModel") (T := F_Mo) (N := 35) hx hb hts i_Mo hown hK Y gF_46 rfl 13 (by decide) kf_Mo_33 rfl d_Mo_act_20 ?_
    refine lv_if_le (tgt := 36) hx hb d_Mo_act_23 (by decide) (fun c23_10 => ?_) (fun c23_10 => ?_)
    · replace hf := gp_t c23_10 hf
      exact J36 X0 _ _ _ hf (lv_sub hl [0] rfl) Y
    · replace hf := gp_f c23_10 hf
      refine lv_aload_n hx hb d_Mo_act_26 rfl (lv_at hl 0 rfl) ?_
      refine lv_dup hx hb d_Mo_act_27 rfl ?_
      refine gy_get (ci := 8) (v := Value.int (X0.I 46 13)) (C := "CommitLedgerModel") (T := F_Mo) (N := 35) hx hb hts i_Mo hown hK Y gF_46 rfl 13 (by decide) kf_Mo_33 rfl d_Mo_act_28 ?_
      refine lv_iconst (v := 1) hx hb d_Mo_act_31 (by decide) ?_
      refine lv_isub hx hb d_Mo_act_32 ?_
      refine gy_put hf (ci := 8) (ty := .int) (C := "CommitLedgerModel") (T := F_Mo) (N := 35) hx hb hts i_Mo t_Mo_ok n_Mo hown hK Y gF_46 rfl (by decide) kf_Mo_33 rfl (by decide +kernel) rfl rfl (Nat.le_of_ble_eq_true rfl) gF_46 d_Mo_act_33 (fun X11 H locs hf Y => ?_)
      exact J36 X11 _ _ _ hf (lv_sub hl [0] rfl) Y
  · replace hf := gp_t c4_9 hf
    refine lv_aload_n hx hb d_Mo_act_7 rfl (lv_at hl 0 rfl) ?_
    obtain ⟨X12, hF12, hf⟩ := gCv_el hf
    refine gy_callV (rm := { frames := 2, cells := 0, slots := 0, locals := 34 }) (ig := .invokevirtual 87) (av := [Value.ref (b 46)]) Y (fun ws h hS hw => K_Mo_lose l htr D tys z _ ws h hS t ht b X0 hw (gR.v, X12) hF12) (gx_invV (As := []) (rest := []) hx hb hown hts km_Mo_87 kI_Mo_lose kV_Mo_lose kc_Mo_lose (by decide) (show (parseMethodDescriptor y_Mo_lose.desc).map (fun d => d.parameters.length) = some 0 by decide +kernel) (gy_recv (ci := 8) hK Y rfl gF_46) rfl rfl d_Mo_act_8) (gx_cw (z := 0) hts kc_Mo_lose kN_Mo rfl rfl ⟨Nat.le_of_ble_eq_true rfl, Nat.le_of_ble_eq_true rfl⟩) hb hml hz hK hY hAz hA hl.1 (lv_room (Nat.le_of_ble_eq_true rfl)) d_Mo_act_8 ⟨Nat.zero_le _, Nat.zero_le _⟩ (fun H locs Y => ?_)
    refine lv_aload_n hx hb d_Mo_act_11 rfl (lv_at hl 0 rfl) ?_
    refine lv_bipush (v := 6) hx hb d_Mo_act_12 (by decide) ?_
    refine gy_put hf (ci := 8) (ty := .int) (C := "CommitLedgerModel") (T := F_Mo) (N := 35) hx hb hts i_Mo t_Mo_ok n_Mo hown hK Y gF_46 rfl (by decide) kf_Mo_84 rfl (by decide +kernel) rfl rfl (Nat.le_of_ble_eq_true rfl) gF_46 d_Mo_act_14 (fun X13 H locs hf Y => ?_)
    refine lv_iconst (v := 0) hx hb d_Mo_act_17 (by decide) ?_
    exact gy_zret hf hx hb hr hlocks hK Y (Nat.zero_le _) (Nat.zero_le _) rfl d_Mo_act_18

def f_Mo_place_66 (X : gX) : Option (gR × gX) := some (gR.i (-1), X)
def f_Mo_place_7 (X : gX) (i1 : Int32) (i2 : Int32) (i3 : Int32) : Option ((Int32 × Int32) ⊕ (gR × gX)) := (if i3 ≤ i2 then (if (X.I 46 10) ≤ i2 then gLf (f_Mo_place_66 X) else (if gIn i2 60000 then (if (X.I 50 (gn i2)) = i1 then gLf (some (gR.i i2, X)) else gLf (f_Mo_place_66 X)) else none)) else (if gIn ((i2 + i3) / 2) 60000 then (if i1 ≤ (X.I 50 (gn ((i2 + i3) / 2))) then some (Sum.inl (i2, (i2 + i3) / 2)) else some (Sum.inl (((i2 + i3) / 2) + 1, i3))) else none))
def f_Mo_place (X0 : gX) (a1 : Int32) : Option (gR × gX) := gI (fun s : Int32 × Int32 => f_Mo_place_7 X0 a1 s.1 s.2) gK (0, X0.I 46 10)
set_option maxHeartbeats 4000000 in
set_option maxRecDepth 100000 in
theorem K_Mo_place (l : Launch) (htr : l.stackTraces = false) (D : va_G) (tys : List (ClassId × FieldType)) (z sz : Nat) (ws : va_W) (h : gm_M) (hM : gm_S h ws) (t : Nat → ClassId) (ht : gTy t tys) (b : Nat → Nat) (X0 : gX) (hw : gw D t b X0 h) (a1 : Int32) (o : gR × gX) (hf : f_Mo_place X0 a1 = some o) : gx_Met l y_Mo_place [Cond.code y_Mo_place b_Mo_place 5 (some .int)] { frames := 1, cells := 0, slots := 0, locals := 12 } (gx_P z sz D classes tys ws [Value.ref (b 46), Value.int a1]) (gx_Q D classes tys (va_A ws sz) (gPo D t b X0 o)) (0) (0) (va_A ws sz) := by
  refine gx_ofW (cc := b_Mo_place) (maxL := 5) (ret := (some .int)) (by decide) rfl ?_
  intro p e s m args below meth c s₁ B hml hv
  obtain ⟨rfl, hsz, hz, hP, hK, hD0, hY⟩ := hv
  have hx := B.exec
  have hb := B.bytes
  have hr := B.returns
  have hts := hY.hts (#[Value.ref (b 46), Value.int a1] : Array Value)
  have hown : s.vm.findClass "CommitLedgerModel" = some m.cls := findClass_of_methodNamed B.named
  have hlocks := B.notSynchronized
  subst hsz
  have hAz := gx_az hD0 hz
  have hD := hD0.self (sz := s.heap.size)
  have hA : ∀ q : Nat, s.heap.size ≤ q → va_A ws s.heap.size q := fun q h => Or.inr h
  generalize va_A ws s.heap.size = A at hD hA hAz ⊢
  have Y : gy D t b A s.heap X0 X0 s.heap [] := ⟨h, ⟨ws, hM, hP, hD, va_S.rf⟩, hw, gEq.rf⟩
  clear hP hD hM hD0 hw
  obtain ⟨ht0, ht1, ht2, ht3, ht4, ht5, ht6, ht7, ht8⟩ := id ht
  have hl := lv_entry ([Value.ref (b 46), Value.int a1]) (n := 5) (Nat.le_of_ble_eq_true rfl)
  rw [lg_entry_eq]
  generalize (lg_sl ([Value.ref (b 46), Value.int a1]) ++ List.replicate (5 - (lg_sl ([Value.ref (b 46), Value.int a1])).length) Slot.unset).toArray = ls at hl ⊢
  have hl : lv_has ls 5 [(0, Value.ref (b 46)), (1, Value.int a1)] := hl
  refine gy_cut (pcJ := 66) Y (fun s : Unit => f_Mo_place_66 X0) o (fun s => X0) (fun s ls => lv_has ls 5 []) (fun s => []) ?_ (fun J66 => ?_)
  · rintro _ H locs ls hf hl Y
    have hl : lv_has ls 5 [] := hl
    have Y : gy D t b A s.heap X0 X0 H locs := Y
    have hf : f_Mo_place_66 X0 = some o := hf
    unfold f_Mo_place_66 at hf
    refine lv_iconst (v := (-1)) hx hb d_Mo_place_66 (by decide) ?_
    exact gy_iret hf hx hb hr hlocks hK Y (Nat.zero_le _) (Nat.zero_le _) d_Mo_place_67
  unfold f_Mo_place at hf
  refine lv_iconst (v := 0) hx hb d_Mo_place_0 (by decide) ?_
  refine lv_istore_n (lv' := [(2, Value.int 0), (0, Value.ref (b 46)), (1, Value.int a1)]) hx hb d_Mo_place_1 rfl hl (by decide) rfl (fun ls hl => ?_)
  refine lv_aload_n hx hb d_Mo_place_2 rfl (lv_at hl 1 rfl) ?_
  refine gy_get (ci := 8) (v := Value.int (X0.I 46 10)) (C := "CommitLedgerModel") (T := F_Mo) (N := 35) hx hb hts i_Mo hown hK Y gF_46 rfl 10 (by decide) kf_Mo_93 rfl d_Mo_place_3 ?_
  refine lv_istore_n (lv' := [(3, Value.int (X0.I 46 10)), (2, Value.int 0), (0, Value.ref (b 46)), (1, Value.int a1)]) hx hb d_Mo_place_6 rfl hl (by decide) rfl (fun ls hl => ?_)
  refine gy_iter (fun s : Int32 × Int32 => X0) (fun (s : Int32 × Int32) ls => lv_has ls 5 [(2, Value.int s.1), (3, Value.int s.2), (0, Value.ref (b 46)), (1, Value.int a1)]) ?_ gK (0, X0.I 46 10) _ _ _ hf (lv_sub hl [1, 0, 2, 3] rfl) Y
  rintro ⟨i2_11, i3_11⟩ u11 H locs ls hf hl Y hk11 ho11
  have hl : lv_has ls 5 [(2, Value.int i2_11), (3, Value.int i3_11), (0, Value.ref (b 46)), (1, Value.int a1)] := hl
  have Y : gy D t b A s.heap X0 X0 H locs := Y
  have hf : f_Mo_place_7 X0 a1 i2_11 i3_11 = some u11 := hf
  unfold f_Mo_place_7 at hf
  refine lv_iload_n hx hb d_Mo_place_7 rfl (lv_at hl 0 rfl) ?_
  refine lv_iload_n hx hb d_Mo_place_8 rfl (lv_at hl 1 rfl) ?_
  refine lv_icmp_ge (tgt := 44) hx hb d_Mo_place_9 (by decide) (fun c9_12 => ?_) (fun c9_12 => ?_)
  · replace hf := gp_t c9_12 hf
    refine lv_iload_n hx hb d_Mo_place_44 rfl (lv_at hl 0 rfl) ?_
    refine lv_aload_n hx hb d_Mo_place_45 rfl (lv_at hl 2 rfl) ?_
    refine gy_get (ci := 8) (v := Value.int (X0.I 46 10)) (C := "CommitLedgerModel") (T := F_Mo) (N := 35) hx hb hts i_Mo hown hK Y gF_46 rfl 10 (by decide) kf_Mo_93 rfl d_Mo_place_46 ?_
    refine lv_icmp_ge (tgt := 66) hx hb d_Mo_place_49 (by decide) (fun c49_13 => ?_) (fun c49_13 => ?_)
    · replace hf := gp_t c49_13 hf
      replace hf := gU hf ho11
      exact J66 () _ _ _ hf (lv_sub hl [] rfl) Y
    · replace hf := gp_f c49_13 hf
      refine lv_aload_n hx hb d_Mo_place_52 rfl (lv_at hl 2 rfl) ?_
      refine gy_get (ci := 8) (v := Value.ref (b 50)) (C := "CommitLedgerModel") (T := F_Mo) (N := 35) hx hb hts i_Mo hown hK Y gF_46 rfl 6 (by decide) kf_Mo_20 rfl d_Mo_place_53 ?_
      refine lv_iload_n hx hb d_Mo_place_56 rfl (lv_at hl 0 rfl) ?_
      refine gy_iald hf hx hb hK Y 0 (fun _ => gF_50) ht0 d_Mo_place_57 (fun _ hf => ?_)
      refine lv_iload_n hx hb d_Mo_place_58 rfl (lv_at hl 3 rfl) ?_
      refine lv_icmp_ne (tgt := 66) hx hb d_Mo_place_59 (by decide) (fun c59_14 => ?_) (fun c59_14 => ?_)
      · replace hf := gp_f c59_14 hf
        replace hf := gU hf ho11
        exact J66 () _ _ _ hf (lv_sub hl [] rfl) Y
      · replace hf := gp_t c59_14 hf
        refine lv_iload_n hx hb d_Mo_place_62 rfl (lv_at hl 0 rfl) ?_
        refine lv_goto (tgt := 67) hx hb d_Mo_place_63 (by decide) ?_
        replace hf := gU hf ho11
        exact gy_iret hf hx hb hr hlocks hK Y (Nat.zero_le _) (Nat.zero_le _) d_Mo_place_67
  · replace hf := gp_f c9_12 hf
    refine lv_iload_n hx hb d_Mo_place_12 rfl (lv_at hl 0 rfl) ?_
    refine lv_iload_n hx hb d_Mo_place_13 rfl (lv_at hl 1 rfl) ?_
    refine lv_iadd hx hb d_Mo_place_14 ?_
    refine lv_iconst (v := 2) hx hb d_Mo_place_15 (by decide) ?_
    refine lv_idiv hx hb d_Mo_place_16 (by decide) ?_
    refine lv_istore (lv' := [(4, Value.int ((i2_11 + i3_11) / 2)), (2, Value.int i2_11), (3, Value.int i3_11), (0, Value.ref (b 46)), (1, Value.int a1)]) hx hb d_Mo_place_17 hl (by decide) rfl (fun ls hl => ?_)
    refine lv_aload_n hx hb d_Mo_place_19 rfl (lv_at hl 3 rfl) ?_
    refine gy_get (ci := 8) (v := Value.ref (b 50)) (C := "CommitLedgerModel") (T := F_Mo) (N := 35) hx hb hts i_Mo hown hK Y gF_46 rfl 6 (by decide) kf_Mo_20 rfl d_Mo_place_20 ?_
    refine lv_iload hx hb d_Mo_place_23 (lv_at hl 0 rfl) ?_
    refine gy_iald hf hx hb hK Y 0 (fun _ => gF_50) ht0 d_Mo_place_25 (fun _ hf => ?_)
    refine lv_iload_n hx hb d_Mo_place_26 rfl (lv_at hl 4 rfl) ?_
    refine lv_icmp_ge (tgt := 38) hx hb d_Mo_place_27 (by decide) (fun c27_15 => ?_) (fun c27_15 => ?_)
    · replace hf := gp_t c27_15 hf
      refine lv_iload hx hb d_Mo_place_38 (lv_at hl 0 rfl) ?_
      refine lv_istore_n (lv' := [(3, Value.int ((i2_11 + i3_11) / 2)), (4, Value.int ((i2_11 + i3_11) / 2)), (2, Value.int i2_11), (0, Value.ref (b 46)), (1, Value.int a1)]) hx hb d_Mo_place_40 rfl hl (by decide) rfl (fun ls hl => ?_)
      refine lv_goto (tgt := 7) hx hb d_Mo_place_41 (by decide) ?_
      exact hk11 _ _ _ _ hf (lv_sub hl [2, 0, 3, 4] rfl) Y
    · replace hf := gp_f c27_15 hf
      refine lv_iload hx hb d_Mo_place_30 (lv_at hl 0 rfl) ?_
      refine lv_iconst (v := 1) hx hb d_Mo_place_32 (by decide) ?_
      refine lv_iadd hx hb d_Mo_place_33 ?_
      refine lv_istore_n (lv' := [(2, Value.int (((i2_11 + i3_11) / 2) + 1)), (4, Value.int ((i2_11 + i3_11) / 2)), (3, Value.int i3_11), (0, Value.ref (b 46)), (1, Value.int a1)]) hx hb d_Mo_place_34 rfl hl (by decide) rfl (fun ls hl => ?_)
      refine lv_goto (tgt := 41) hx hb d_Mo_place_35 (by decide) ?_
      refine lv_goto (tgt := 7) hx hb d_Mo_place_41 (by decide) ?_
      exact hk11 _ _ _ _ hf (lv_sub hl [0, 2, 3, 4] rfl) Y

def f_Mo_write (X0 : gX) : Option (gR × gX) := gCi (f_Mo_act X0) (fun x1 X1 => (if x1 = (0 : Int32) then some (gR.i (-1), X1) else (if gIn (X1.I 46 10) 60000 then gB (X1.w 50 (gn (X1.I 46 10)) (X1.I 46 11)) (fun X3 => (if gIn (X3.I 46 10) 60000 then gB (X3.w 51 (gn (X3.I 46 10)) (vp_nar .boolean 0)) (fun X4 => (if gIn (X4.I 46 10) 60000 then gB (X4.w 52 (gn (X4.I 46 10)) (vp_nar .boolean 0)) (fun X5 => gB (X5.w 46 10 ((X5.I 46 10) + 1)) (fun X6 => gB (X6.w 46 11 ((X6.I 46 11) + 1)) (fun X7 => some (gR.i ((X7.I 46 11) - 1), X7)))) else none)) else none)) else none)))
set_option maxHeartbeats 4000000 in
set_option maxRecDepth 100000 in
theorem K_Mo_write (l : Launch) (htr : l.stackTraces = false) (D : va_G) (tys : List (ClassId × FieldType)) (z sz : Nat) (ws : va_W) (h : gm_M) (hM : gm_S h ws) (t : Nat → ClassId) (ht : gTy t tys) (b : Nat → Nat) (X0 : gX) (hw : gw D t b X0 h) (o : gR × gX) (hf : f_Mo_write X0 = some o) : gx_Met l y_Mo_write [Cond.code y_Mo_write b_Mo_write 1 (some .int)] { frames := 4, cells := 0, slots := 0, locals := 78 } (gx_P z sz D classes tys ws [Value.ref (b 46)]) (gx_Q D classes tys (va_A ws sz) (gPo D t b X0 o)) (0) (0) (va_A ws sz) := by
  refine gx_ofW (cc := b_Mo_write) (maxL := 1) (ret := (some .int)) (by decide) rfl ?_
  intro p e s m args below meth c s₁ B hml hv
  obtain ⟨rfl, hsz, hz, hP, hK, hD0, hY⟩ := hv
  have hx := B.exec
  have hb := B.bytes
  have hr := B.returns
  have hts := hY.hts (#[Value.ref (b 46)] : Array Value)
  have hown : s.vm.findClass "CommitLedgerModel" = some m.cls := findClass_of_methodNamed B.named
  have hlocks := B.notSynchronized
  subst hsz
  have hAz := gx_az hD0 hz
  have hD := hD0.self (sz := s.heap.size)
  have hA : ∀ q : Nat, s.heap.size ≤ q → va_A ws s.heap.size q := fun q h => Or.inr h
  generalize va_A ws s.heap.size = A at hD hA hAz ⊢
  have Y : gy D t b A s.heap X0 X0 s.heap [] := ⟨h, ⟨ws, hM, hP, hD, va_S.rf⟩, hw, gEq.rf⟩
  clear hP hD hM hD0 hw
  obtain ⟨ht0, ht1, ht2, ht3, ht4, ht5, ht6, ht7, ht8⟩ := id ht
  have hl := lv_entry ([Value.ref (b 46)]) (n := 1) (Nat.le_of_ble_eq_true rfl)
  rw [lg_entry_eq]
  generalize (lg_sl ([Value.ref (b 46)]) ++ List.replicate (1 - (lg_sl ([Value.ref (b 46)])).length) Slot.unset).toArray = ls at hl ⊢
  have hl : lv_has ls 1 [(0, Value.ref (b 46))] := hl
  unfold f_Mo_write at hf
  refine lv_aload_n hx hb d_Mo_write_0 rfl (lv_at hl 0 rfl) ?_
  obtain ⟨x8, X8, hF8, hf⟩ := gCi_el hf
  refine gy_callI (rm := { frames := 3, cells := 0, slots := 0, locals := 58 }) (ig := .invokevirtual 115) (av := [Value.ref (b 46)]) Y (fun ws h hS hw => K_Mo_act l htr D tys z _ ws h hS t ht b X0 hw (gR.i x8, X8) hF8) (gx_invV (As := []) (rest := []) hx hb hown hts km_Mo_115 kI_Mo_act kV_Mo_act kc_Mo_act (by decide) (show (parseMethodDescriptor y_Mo_act.desc).map (fun d => d.parameters.length) = some 0 by decide +kernel) (gy_recv (ci := 8) hK Y rfl gF_46) rfl rfl d_Mo_write_1) (gx_cw (z := 0) hts kc_Mo_act kN_Mo rfl rfl ⟨Nat.le_of_ble_eq_true rfl, Nat.le_of_ble_eq_true rfl⟩) hb hml hz hK hY hAz hA hl.1 (lv_room (Nat.le_of_ble_eq_true rfl)) d_Mo_write_1 ⟨Nat.zero_le _, Nat.zero_le _⟩ (fun H locs Y => ?_)
  refine lv_if_ne (tgt := 9) hx hb d_Mo_write_4 (by decide) (fun c4_9 => ?_) (fun c4_9 => ?_)
  · replace hf := gp_f c4_9 hf
    refine lv_aload_n hx hb d_Mo_write_9 rfl (lv_at hl 0 rfl) ?_
    refine gy_get (ci := 8) (v := Value.ref (b 50)) (C := "CommitLedgerModel") (T := F_Mo) (N := 35) hx hb hts i_Mo hown hK Y gF_46 rfl 6 (by decide) kf_Mo_20 rfl d_Mo_write_10 ?_
    refine lv_aload_n hx hb d_Mo_write_13 rfl (lv_at hl 0 rfl) ?_
    refine gy_get (ci := 8) (v := Value.int (X8.I 46 10)) (C := "CommitLedgerModel") (T := F_Mo) (N := 35) hx hb hts i_Mo hown hK Y gF_46 rfl 10 (by decide) kf_Mo_93 rfl d_Mo_write_14 ?_
    refine lv_aload_n hx hb d_Mo_write_17 rfl (lv_at hl 0 rfl) ?_
    refine gy_get (ci := 8) (v := Value.int (X8.I 46 11)) (C := "CommitLedgerModel") (T := F_Mo) (N := 35) hx hb hts i_Mo hown hK Y gF_46 rfl 11 (by decide) kf_Mo_119 rfl d_Mo_write_18 ?_
    refine gy_iast hf hx hb hK Y 0 (fun _ => gF_50) ht0 d_Mo_write_21 (fun X10 H locs hf Y => ?_)
    refine lv_aload_n hx hb d_Mo_write_22 rfl (lv_at hl 0 rfl) ?_
    refine gy_get (ci := 8) (v := Value.ref (b 51)) (C := "CommitLedgerModel") (T := F_Mo) (N := 35) hx hb hts i_Mo hown hK Y gF_46 rfl 7 (by decide) kf_Mo_23 rfl d_Mo_write_23 ?_
    refine lv_aload_n hx hb d_Mo_write_26 rfl (lv_at hl 0 rfl) ?_
    refine gy_get (ci := 8) (v := Value.int (X10.I 46 10)) (C := "CommitLedgerModel") (T := F_Mo) (N := 35) hx hb hts i_Mo hown hK Y gF_46 rfl 10 (by decide) kf_Mo_93 rfl d_Mo_write_27 ?_
    refine lv_iconst (v := 0) hx hb d_Mo_write_30 (by decide) ?_
    refine gy_zast hf hx hb hK Y 1 (fun _ => gF_51) ht1 d_Mo_write_31 (fun X11 H locs hf Y => ?_)
    refine lv_aload_n hx hb d_Mo_write_32 rfl (lv_at hl 0 rfl) ?_
    refine gy_get (ci := 8) (v := Value.ref (b 52)) (C := "CommitLedgerModel") (T := F_Mo) (N := 35) hx hb hts i_Mo hown hK Y gF_46 rfl 8 (by decide) kf_Mo_27 rfl d_Mo_write_33 ?_
    refine lv_aload_n hx hb d_Mo_write_36 rfl (lv_at hl 0 rfl) ?_
    refine gy_get (ci := 8) (v := Value.int (X11.I 46 10)) (C := "CommitLedgerModel") (T := F_Mo) (N := 35) hx hb hts i_Mo hown hK Y gF_46 rfl 10 (by decide) kf_Mo_93 rfl d_Mo_write_37 ?_
    refine lv_iconst (v := 0) hx hb d_Mo_write_40 (by decide) ?_
    refine gy_zast hf hx hb hK Y 1 (fun _ => gF_52) ht1 d_Mo_write_41 (fun X12 H locs hf Y => ?_)
    refine lv_aload_n hx hb d_Mo_write_42 rfl (lv_at hl 0 rfl) ?_
    refine lv_dup hx hb d_Mo_write_43 rfl ?_
    refine gy_get (ci := 8) (v := Value.int (X12.I 46 10)) (C := "CommitLedgerModel") (T := F_Mo) (N := 35) hx hb hts i_Mo hown hK Y gF_46 rfl 10 (by decide) kf_Mo_93 rfl d_Mo_write_44 ?_
    refine lv_iconst (v := 1) hx hb d_Mo_write_47 (by decide) ?_
    refine lv_iadd hx hb d_Mo_write_48 ?_
    refine gy_put hf (ci := 8) (ty := .int) (C := "CommitLedgerModel") (T := F_Mo) (N := 35) hx hb hts i_Mo t_Mo_ok n_Mo hown hK Y gF_46 rfl (by decide) kf_Mo_93 rfl (by decide +kernel) rfl rfl (Nat.le_of_ble_eq_true rfl) gF_46 d_Mo_write_49 (fun X13 H locs hf Y => ?_)
    refine lv_aload_n hx hb d_Mo_write_52 rfl (lv_at hl 0 rfl) ?_
    refine lv_dup hx hb d_Mo_write_53 rfl ?_
    refine gy_get (ci := 8) (v := Value.int (X13.I 46 11)) (C := "CommitLedgerModel") (T := F_Mo) (N := 35) hx hb hts i_Mo hown hK Y gF_46 rfl 11 (by decide) kf_Mo_119 rfl d_Mo_write_54 ?_
    refine lv_iconst (v := 1) hx hb d_Mo_write_57 (by decide) ?_
    refine lv_iadd hx hb d_Mo_write_58 ?_
    refine gy_put hf (ci := 8) (ty := .int) (C := "CommitLedgerModel") (T := F_Mo) (N := 35) hx hb hts i_Mo t_Mo_ok n_Mo hown hK Y gF_46 rfl (by decide) kf_Mo_119 rfl (by decide +kernel) rfl rfl (Nat.le_of_ble_eq_true rfl) gF_46 d_Mo_write_59 (fun X14 H locs hf Y => ?_)
    refine lv_aload_n hx hb d_Mo_write_62 rfl (lv_at hl 0 rfl) ?_
    refine gy_get (ci := 8) (v := Value.int (X14.I 46 11)) (C := "CommitLedgerModel") (T := F_Mo) (N := 35) hx hb hts i_Mo hown hK Y gF_46 rfl 11 (by decide) kf_Mo_119 rfl d_Mo_write_63 ?_
    refine lv_iconst (v := 1) hx hb d_Mo_write_66 (by decide) ?_
    refine lv_isub hx hb d_Mo_write_67 ?_
    exact gy_iret hf hx hb hr hlocks hK Y (Nat.zero_le _) (Nat.zero_le _) d_Mo_write_68
  · replace hf := gp_t c4_9 hf
    refine lv_iconst (v := (-1)) hx hb d_Mo_write_7 (by decide) ?_
    exact gy_iret hf hx hb hr hlocks hK Y (Nat.zero_le _) (Nat.zero_le _) d_Mo_write_8

def f_Mo_need_55 (X : gX) (m1 : Nat) (i2 : Int32) (i3 : Int32) : Option ((gX × Int32) ⊕ (gR × gX)) := some (Sum.inl (X, i3 + 1))
def f_Mo_need_2 (X : gX) (m1 : Nat) (i2 : Int32) (i3 : Int32) : Option ((gX × Int32) ⊕ (gR × gX)) := (if (X.I m1 7) ≤ i3 then gLf (some (gR.v, X)) else (if gIn i3 4097 then gCi (f_Mo_place X (X.I (m1 + 1) (gn i3))) (fun x3 X3 => (if gIn x3 60000 then gB (X3.w 53 (gn x3) (vp_nar .boolean 1)) (fun X4 => (if i2 = (0 : Int32) then f_Mo_need_55 X4 m1 i2 i3 else (if gIn i3 4097 then (if (X4.I (m1 + 2) (gn i3)) < (0 : Int32) then f_Mo_need_55 X4 m1 i2 i3 else (if gIn i3 4097 then gCi (f_Mo_place X4 (X4.I (m1 + 2) (gn i3))) (fun x7 X7 => (if gIn x7 60000 then gB (X7.w 53 (gn x7) (vp_nar .boolean 1)) (fun X8 => f_Mo_need_55 X8 m1 i2 i3) else none)) else none)) else none))) else none)) else none))
def f_Mo_need (X0 : gX) (m1 : Nat) (a2 : Int32) : Option (gR × gX) := gI (fun s : gX × Int32 => f_Mo_need_2 s.1 m1 a2 s.2) gK (X0, 0)
set_option maxHeartbeats 4000000 in
set_option maxRecDepth 100000 in
theorem K_Mo_need (l : Launch) (htr : l.stackTraces = false) (D : va_G) (tys : List (ClassId × FieldType)) (z sz : Nat) (ws : va_W) (h : gm_M) (hM : gm_S h ws) (t : Nat → ClassId) (ht : gTy t tys) (b : Nat → Nat) (X0 : gX) (hw : gw D t b X0 h) (m1 : Nat) (hm1 : gVer m1 = true) (a2 : Int32) (o : gR × gX) (hf : f_Mo_need X0 m1 a2 = some o) : gx_Met l y_Mo_need [Cond.code y_Mo_need b_Mo_need 4 none] { frames := 2, cells := 0, slots := 0, locals := 36 } (gx_P z sz D classes tys ws [Value.ref (b 46), Value.ref (b m1), Value.int a2]) (gx_Q D classes tys (va_A ws sz) (gPo D t b X0 o)) (0) (0) (va_A ws sz) := by
  refine gx_ofW (cc := b_Mo_need) (maxL := 4) (ret := none) (by decide) rfl ?_
  intro p e s m args below meth c s₁ B hml hv
  obtain ⟨rfl, hsz, hz, hP, hK, hD0, hY⟩ := hv
  have hx := B.exec
  have hb := B.bytes
  have hr := B.returns
  have hts := hY.hts (#[Value.ref (b 46), Value.ref (b m1), Value.int a2] : Array Value)
  have hown : s.vm.findClass "CommitLedgerModel" = some m.cls := findClass_of_methodNamed B.named
  have hlocks := B.notSynchronized
  subst hsz
  have hAz := gx_az hD0 hz
  have hD := hD0.self (sz := s.heap.size)
  have hA : ∀ q : Nat, s.heap.size ≤ q → va_A ws s.heap.size q := fun q h => Or.inr h
  generalize va_A ws s.heap.size = A at hD hA hAz ⊢
  have Y : gy D t b A s.heap X0 X0 s.heap [] := ⟨h, ⟨ws, hM, hP, hD, va_S.rf⟩, hw, gEq.rf⟩
  clear hP hD hM hD0 hw
  obtain ⟨ht0, ht1, ht2, ht3, ht4, ht5, ht6, ht7, ht8⟩ := id ht
  have hl := lv_entry ([Value.ref (b 46), Value.ref (b m1), Value.int a2]) (n := 4) (Nat.le_of_ble_eq_true rfl)
  rw [lg_entry_eq]
  generalize (lg_sl ([Value.ref (b 46), Value.ref (b m1), Value.int a2]) ++ List.replicate (4 - (lg_sl ([Value.ref (b 46), Value.ref (b m1), Value.int a2])).length) Slot.unset).toArray = ls at hl ⊢
  have hl : lv_has ls 4 [(0, Value.ref (b 46)), (1, Value.ref (b m1)), (2, Value.int a2)] := hl
  unfold f_Mo_need at hf
  refine lv_iconst (v := 0) hx hb d_Mo_need_0 (by decide) ?_
  refine lv_istore_n (lv' := [(3, Value.int 0), (0, Value.ref (b 46)), (1, Value.ref (b m1)), (2, Value.int a2)]) hx hb d_Mo_need_1 rfl hl (by decide) rfl (fun ls hl => ?_)
  refine gy_iter (fun s : gX × Int32 => s.1) (fun (s : gX × Int32) ls => lv_has ls 4 [(3, Value.int s.2), (0, Value.ref (b 46)), (1, Value.ref (b m1)), (2, Value.int a2)]) ?_ gK (X0, 0) _ _ _ hf (lv_sub hl [0, 1, 2, 3] rfl) Y
  rintro ⟨X17, i3_17⟩ u17 H locs ls hf hl Y hk17 ho17
  have hl : lv_has ls 4 [(3, Value.int i3_17), (0, Value.ref (b 46)), (1, Value.ref (b m1)), (2, Value.int a2)] := hl
  have Y : gy D t b A s.heap X0 X17 H locs := Y
  have hf : f_Mo_need_2 X17 m1 a2 i3_17 = some u17 := hf
  refine gy_cut (pcJ := 55) Y (fun s : gX × Int32 => f_Mo_need_55 s.1 m1 a2 s.2) u17 (fun s => s.1) (fun s ls => lv_has ls 4 [(3, Value.int s.2), (0, Value.ref (b 46)), (1, Value.ref (b m1)), (2, Value.int a2)]) (fun s => []) ?_ (fun J55 => ?_)
  · rintro ⟨X18, i3_18⟩ H locs ls hf hl Y
    have hl : lv_has ls 4 [(3, Value.int i3_18), (0, Value.ref (b 46)), (1, Value.ref (b m1)), (2, Value.int a2)] := hl
    have Y : gy D t b A s.heap X0 X18 H locs := Y
    have hf : f_Mo_need_55 X18 m1 a2 i3_18 = some u17 := hf
    unfold f_Mo_need_55 at hf
    refine lv_iinc (v := i3_18 + 1) (lv' := [(3, Value.int (i3_18 + 1)), (0, Value.ref (b 46)), (1, Value.ref (b m1)), (2, Value.int a2)]) hx hb d_Mo_need_55 hl (k := 0) rfl (rfl) (by decide) rfl (fun ls hl => ?_)
    refine lv_goto (tgt := 2) hx hb d_Mo_need_58 (by decide) ?_
    exact hk17 _ _ _ _ hf (lv_sub hl [0, 1, 2, 3] rfl) Y
  unfold f_Mo_need_2 at hf
  refine lv_iload_n hx hb d_Mo_need_2 rfl (lv_at hl 0 rfl) ?_
  refine lv_aload_n hx hb d_Mo_need_3 rfl (lv_at hl 2 rfl) ?_
  refine gy_get (ci := 9) (v := Value.int (X17.I m1 7)) (C := "CommitLedgerModel$Version") (T := F_Ve) (N := 11) hx hb hts i_Ve hown hK Y (gF_Ve hm1) rfl 7 (by decide) kf_Mo_122 rfl d_Mo_need_4 ?_
  refine lv_icmp_ge (tgt := 61) hx hb d_Mo_need_7 (by decide) (fun c7_19 => ?_) (fun c7_19 => ?_)
  · replace hf := gp_t c7_19 hf
    replace hf := gU hf ho17
    exact gy_vret hf hx hb hr hlocks hK Y (Nat.zero_le _) (Nat.zero_le _) d_Mo_need_61
  · replace hf := gp_f c7_19 hf
    refine lv_aload_n hx hb d_Mo_need_10 rfl (lv_at hl 1 rfl) ?_
    refine gy_get (ci := 8) (v := Value.ref (b 53)) (C := "CommitLedgerModel") (T := F_Mo) (N := 35) hx hb hts i_Mo hown hK Y gF_46 rfl 9 (by decide) kf_Mo_30 rfl d_Mo_need_11 ?_
    refine lv_aload_n hx hb d_Mo_need_14 rfl (lv_at hl 1 rfl) ?_
    refine lv_aload_n hx hb d_Mo_need_15 rfl (lv_at hl 2 rfl) ?_
    refine gy_get (ci := 9) (v := Value.ref (b (m1 + 1))) (C := "CommitLedgerModel$Version") (T := F_Ve) (N := 11) hx hb hts i_Ve hown hK Y (gF_Ve hm1) rfl 0 (by decide) kf_Mo_125 rfl d_Mo_need_16 ?_
    refine lv_iload_n hx hb d_Mo_need_19 rfl (lv_at hl 0 rfl) ?_
    refine gy_iald hf hx hb hK Y 0 (fun _ => (gF_Ve1 hm1)) ht0 d_Mo_need_20 (fun _ hf => ?_)
    obtain ⟨x20, X20, hF20, hf⟩ := gCi_el hf
    refine gy_callI (rm := { frames := 1, cells := 0, slots := 0, locals := 12 }) (ig := .invokevirtual 128) (av := [Value.ref (b 46), Value.int (X17.I (m1 + 1) (gn i3_17))]) Y (fun ws h hS hw => K_Mo_place l htr D tys z _ ws h hS t ht b X17 hw (X17.I (m1 + 1) (gn i3_17)) (gR.i x20, X20) hF20) (gx_invV (As := [Value.int (X17.I (m1 + 1) (gn i3_17))]) (rest := [Value.ref (b 53)]) hx hb hown hts km_Mo_128 kI_Mo_place kV_Mo_place kc_Mo_place (by decide) (show (parseMethodDescriptor y_Mo_place.desc).map (fun d => d.parameters.length) = some 1 by decide +kernel) (gy_recv (ci := 8) hK Y rfl gF_46) rfl rfl d_Mo_need_21) (gx_cw (z := 0) hts kc_Mo_place kN_Mo rfl rfl ⟨Nat.le_of_ble_eq_true rfl, Nat.le_of_ble_eq_true rfl⟩) hb hml hz hK hY hAz hA hl.1 (lv_room (Nat.le_of_ble_eq_true rfl)) d_Mo_need_21 ⟨Nat.zero_le _, Nat.zero_le _⟩ (fun H locs Y => ?_)
    refine lv_iconst (v := 1) hx hb d_Mo_need_24 (by decide) ?_
    refine gy_zast hf hx hb hK Y 1 (fun _ => gF_53) ht1 d_Mo_need_25 (fun X21 H locs hf Y => ?_)
    refine lv_iload_n hx hb d_Mo_need_26 rfl (lv_at hl 3 rfl) ?_
    refine lv_if_eq (tgt := 55) hx hb d_Mo_need_27 (by decide) (fun c27_22 => ?_) (fun c27_22 => ?_)
    · replace hf := gp_t c27_22 hf
      exact J55 (X21, i3_17) _ _ _ hf (lv_sub hl [0, 1, 2, 3] rfl) Y
    · replace hf := gp_f c27_22 hf
      refine lv_aload_n hx hb d_Mo_need_30 rfl (lv_at hl 2 rfl) ?_
      refine gy_get (ci := 9) (v := Value.ref (b (m1 + 2))) (C := "CommitLedgerModel$Version") (T := F_Ve) (N := 11) hx hb hts i_Ve hown hK Y (gF_Ve hm1) rfl 1 (by decide) kf_Mo_132 rfl d_Mo_need_31 ?_
      refine lv_iload_n hx hb d_Mo_need_34 rfl (lv_at hl 0 rfl) ?_
      refine gy_iald hf hx hb hK Y 0 (fun _ => (gF_Ve2 hm1)) ht0 d_Mo_need_35 (fun _ hf => ?_)
      refine lv_if_lt (tgt := 55) hx hb d_Mo_need_36 (by decide) (fun c36_23 => ?_) (fun c36_23 => ?_)
      · replace hf := gp_t c36_23 hf
        exact J55 (X21, i3_17) _ _ _ hf (lv_sub hl [0, 1, 2, 3] rfl) Y
      · replace hf := gp_f c36_23 hf
        refine lv_aload_n hx hb d_Mo_need_39 rfl (lv_at hl 1 rfl) ?_
        refine gy_get (ci := 8) (v := Value.ref (b 53)) (C := "CommitLedgerModel") (T := F_Mo) (N := 35) hx hb hts i_Mo hown hK Y gF_46 rfl 9 (by decide) kf_Mo_30 rfl d_Mo_need_40 ?_
        refine lv_aload_n hx hb d_Mo_need_43 rfl (lv_at hl 1 rfl) ?_
        refine lv_aload_n hx hb d_Mo_need_44 rfl (lv_at hl 2 rfl) ?_
        refine gy_get (ci := 9) (v := Value.ref (b (m1 + 2))) (C := "CommitLedgerModel$Version") (T := F_Ve) (N := 11) hx hb hts i_Ve hown hK Y (gF_Ve hm1) rfl 1 (by decide) kf_Mo_132 rfl d_Mo_need_45 ?_
        refine lv_iload_n hx hb d_Mo_need_48 rfl (lv_at hl 0 rfl) ?_
        refine gy_iald hf hx hb hK Y 0 (fun _ => (gF_Ve2 hm1)) ht0 d_Mo_need_49 (fun _ hf => ?_)
        obtain ⟨x24, X24, hF24, hf⟩ := gCi_el hf
        refine gy_callI (rm := { frames := 1, cells := 0, slots := 0, locals := 12 }) (ig := .invokevirtual 128) (av := [Value.ref (b 46), Value.int (X21.I (m1 + 2) (gn i3_17))]) Y (fun ws h hS hw => K_Mo_place l htr D tys z _ ws h hS t ht b X21 hw (X21.I (m1 + 2) (gn i3_17)) (gR.i x24, X24) hF24) (gx_invV (As := [Value.int (X21.I (m1 + 2) (gn i3_17))]) (rest := [Value.ref (b 53)]) hx hb hown hts km_Mo_128 kI_Mo_place kV_Mo_place kc_Mo_place (by decide) (show (parseMethodDescriptor y_Mo_place.desc).map (fun d => d.parameters.length) = some 1 by decide +kernel) (gy_recv (ci := 8) hK Y rfl gF_46) rfl rfl d_Mo_need_50) (gx_cw (z := 0) hts kc_Mo_place kN_Mo rfl rfl ⟨Nat.le_of_ble_eq_true rfl, Nat.le_of_ble_eq_true rfl⟩) hb hml hz hK hY hAz hA hl.1 (lv_room (Nat.le_of_ble_eq_true rfl)) d_Mo_need_50 ⟨Nat.zero_le _, Nat.zero_le _⟩ (fun H locs Y => ?_)
        refine lv_iconst (v := 1) hx hb d_Mo_need_53 (by decide) ?_
        refine gy_zast hf hx hb hK Y 1 (fun _ => gF_53) ht1 d_Mo_need_54 (fun X25 H locs hf Y => ?_)
        exact J55 (X25, i3_17) _ _ _ hf (lv_sub hl [0, 1, 2, 3] rfl) Y

def f_Mo_tidyFiles_180 (X : gX) (i2 : Int32) (i3 : Int32) : Option ((gX × Int32) ⊕ (gR × gX)) := some (Sum.inl (X, i3 + 1))
def f_Mo_tidyFiles_155 (X : gX) (i2 : Int32) (i3 : Int32) : Option ((gX × Int32) ⊕ (gR × gX)) := (if i2 ≤ i3 then gCv (f_Mo_keepNeeded X) (fun X11 => gLf (some (gR.v, X11))) else (if gIn i3 4 then (if (X.I (84 + 8 * gn i3) 10) ≤ (0 : Int32) then f_Mo_tidyFiles_180 X i2 i3 else gCv (f_Mo_need X (84 + 8 * gn i3) 0) (fun X14 => f_Mo_tidyFiles_180 X14 i2 i3)) else none))
def f_Mo_tidyFiles_115 (X : gX) (i1 : Int32) : Option ((gX × Int32) ⊕ (gR × gX)) := (if (X.I 46 30) ≤ i1 then gLf (gI (fun s : gX × Int32 => f_Mo_tidyFiles_155 s.1 4 s.2) gK (X, 0)) else (if gIn i1 4 then gCi (f_Mo_place X (X.I 82 (gn i1))) (fun x21 X21 => (if gIn x21 60000 then gB (X21.w 53 (gn x21) (vp_nar .boolean 1)) (fun X22 => some (Sum.inl (X22, i1 + 1))) else none)) else none))
def f_Mo_tidyFiles_113 (X : gX) : Option (gR × gX) := gI (fun s : gX × Int32 => f_Mo_tidyFiles_115 s.1 s.2) gK (X, 0)
def f_Mo_tidyFiles_97 (X : gX) : Option (gR × gX) := (if (X.I 46 18) = (0 : Int32) then f_Mo_tidyFiles_113 X else gCv (f_Mo_need X 54 1) (fun X33 => f_Mo_tidyFiles_113 X33))
def f_Mo_tidyFiles_64 (X : gX) : Option (gR × gX) := (if (X.I 46 19) = (0 : Int32) then f_Mo_tidyFiles_97 X else gCv (f_Mo_need X 70 1) (fun X34 => gCi (f_Mo_place X34 (X34.I 70 9)) (fun x35 X35 => (if gIn x35 60000 then gB (X35.w 53 (gn x35) (vp_nar .boolean 1)) (fun X36 => f_Mo_tidyFiles_97 X36) else none))))
def f_Mo_tidyFiles_10 (X : gX) (i1 : Int32) : Option ((gX × Int32) ⊕ (gR × gX)) := (if (X.I 46 10) ≤ i1 then (if (X.I 46 20) ≤ (0 : Int32) then gLf (f_Mo_tidyFiles_64 X) else gCv (f_Mo_need X 62 1) (fun X37 => gCi (f_Mo_place X37 (X37.I 62 9)) (fun x38 X38 => (if gIn x38 60000 then gB (X38.w 53 (gn x38) (vp_nar .boolean 1)) (fun X39 => gLf (f_Mo_tidyFiles_64 X39)) else none)))) else (if gIn i1 60000 then gB (X.w 53 (gn i1) (vp_nar .boolean 0)) (fun X40 => some (Sum.inl (X40, i1 + 1))) else none))
def f_Mo_tidyFiles (X0 : gX) : Option (gR × gX) := (if (X0.I 46 14) = (0 : Int32) then gI (fun s : gX × Int32 => f_Mo_tidyFiles_10 s.1 s.2) gK (X0, 0) else some (gR.v, X0))
set_option maxHeartbeats 4000000 in
set_option maxRecDepth 100000 in
theorem K_Mo_tidyFiles (l : Launch) (htr : l.stackTraces = false) (D : va_G) (tys : List (ClassId × FieldType)) (z sz : Nat) (ws : va_W) (h : gm_M) (hM : gm_S h ws) (t : Nat → ClassId) (ht : gTy t tys) (b : Nat → Nat) (X0 : gX) (hw : gw D t b X0 h) (o : gR × gX) (hf : f_Mo_tidyFiles X0 = some o) : gx_Met l y_Mo_tidyFiles [Cond.code y_Mo_tidyFiles b_Mo_tidyFiles 5 none] { frames := 3, cells := 0, slots := 0, locals := 59 } (gx_P z sz D classes tys ws [Value.ref (b 46)]) (gx_Q D classes tys (va_A ws sz) (gPo D t b X0 o)) (0) (0) (va_A ws sz) := by
  refine gx_ofW (cc := b_Mo_tidyFiles) (maxL := 5) (ret := none) (by decide) rfl ?_
  intro p e s m args below meth c s₁ B hml hv
  obtain ⟨rfl, hsz, hz, hP, hK, hD0, hY⟩ := hv
  have hx := B.exec
  have hb := B.bytes
  have hr := B.returns
  have hts := hY.hts (#[Value.ref (b 46)] : Array Value)
  have hown : s.vm.findClass "CommitLedgerModel" = some m.cls := findClass_of_methodNamed B.named
  have hlocks := B.notSynchronized
  subst hsz
  have hAz := gx_az hD0 hz
  have hD := hD0.self (sz := s.heap.size)
  have hA : ∀ q : Nat, s.heap.size ≤ q → va_A ws s.heap.size q := fun q h => Or.inr h
  generalize va_A ws s.heap.size = A at hD hA hAz ⊢
  have Y : gy D t b A s.heap X0 X0 s.heap [] := ⟨h, ⟨ws, hM, hP, hD, va_S.rf⟩, hw, gEq.rf⟩
  clear hP hD hM hD0 hw
  obtain ⟨ht0, ht1, ht2, ht3, ht4, ht5, ht6, ht7, ht8⟩ := id ht
  have hl := lv_entry ([Value.ref (b 46)]) (n := 5) (Nat.le_of_ble_eq_true rfl)
  rw [lg_entry_eq]
  generalize (lg_sl ([Value.ref (b 46)]) ++ List.replicate (5 - (lg_sl ([Value.ref (b 46)])).length) Slot.unset).toArray = ls at hl ⊢
  have hl : lv_has ls 5 [(0, Value.ref (b 46))] := hl
  refine gy_cut (pcJ := 113) Y (fun s : gX => f_Mo_tidyFiles_113 s) o (fun s => s) (fun s ls => lv_has ls 5 [(0, Value.ref (b 46))]) (fun s => []) ?_ (fun J113 => ?_)
  · rintro X47 H locs ls hf hl Y
    have hl : lv_has ls 5 [(0, Value.ref (b 46))] := hl
    have Y : gy D t b A s.heap X0 X47 H locs := Y
    have hf : f_Mo_tidyFiles_113 X47 = some o := hf
    unfold f_Mo_tidyFiles_113 at hf
    refine lv_iconst (v := 0) hx hb d_Mo_tidyFiles_113 (by decide) ?_
    refine lv_istore_n (lv' := [(1, Value.int 0), (0, Value.ref (b 46))]) hx hb d_Mo_tidyFiles_114 rfl hl (by decide) rfl (fun ls hl => ?_)
    refine gy_iter (fun s : gX × Int32 => s.1) (fun (s : gX × Int32) ls => lv_has ls 5 [(1, Value.int s.2), (0, Value.ref (b 46))]) ?_ gK (X47, 0) _ _ _ hf (lv_sub hl [0, 1] rfl) Y
    rintro ⟨X48, i1_48⟩ u48 H locs ls hf hl Y hk48 ho48
    have hl : lv_has ls 5 [(1, Value.int i1_48), (0, Value.ref (b 46))] := hl
    have Y : gy D t b A s.heap X0 X48 H locs := Y
    have hf : f_Mo_tidyFiles_115 X48 i1_48 = some u48 := hf
    unfold f_Mo_tidyFiles_115 at hf
    refine lv_iload_n hx hb d_Mo_tidyFiles_115 rfl (lv_at hl 0 rfl) ?_
    refine lv_aload_n hx hb d_Mo_tidyFiles_116 rfl (lv_at hl 1 rfl) ?_
    refine gy_get (ci := 8) (v := Value.int (X48.I 46 30)) (C := "CommitLedgerModel") (T := F_Mo) (N := 35) hx hb hts i_Mo hown hK Y gF_46 rfl 30 (by decide) kf_Mo_106 rfl d_Mo_tidyFiles_117 ?_
    refine lv_icmp_ge (tgt := 145) hx hb d_Mo_tidyFiles_120 (by decide) (fun c120_49 => ?_) (fun c120_49 => ?_)
    · replace hf := gp_t c120_49 hf
      refine lv_aload_n hx hb d_Mo_tidyFiles_145 rfl (lv_at hl 1 rfl) ?_
      refine gy_get (ci := 8) (v := Value.ref (b 83)) (C := "CommitLedgerModel") (T := F_Mo) (N := 35) hx hb hts i_Mo hown hK Y gF_46 rfl 31 (by decide) kf_Mo_76 rfl d_Mo_tidyFiles_146 ?_
      refine lv_astore_n (lv' := [(1, Value.ref (b 83)), (0, Value.ref (b 46))]) hx hb d_Mo_tidyFiles_149 rfl hl (by decide) rfl (fun ls hl => ?_)
      refine lv_aload_n hx hb d_Mo_tidyFiles_150 rfl (lv_at hl 0 rfl) ?_
      refine gy_alen (v := 4) hx hb hK Y 5 gF_83 ht5 rfl d_Mo_tidyFiles_151 ?_
      refine lv_istore_n (lv' := [(2, Value.int 4), (1, Value.ref (b 83)), (0, Value.ref (b 46))]) hx hb d_Mo_tidyFiles_152 rfl hl (by decide) rfl (fun ls hl => ?_)
      refine lv_iconst (v := 0) hx hb d_Mo_tidyFiles_153 (by decide) ?_
      refine lv_istore_n (lv' := [(3, Value.int 0), (2, Value.int 4), (1, Value.ref (b 83)), (0, Value.ref (b 46))]) hx hb d_Mo_tidyFiles_154 rfl hl (by decide) rfl (fun ls hl => ?_)
      replace hf := gU hf ho48
      refine gy_iter (fun s : gX × Int32 => s.1) (fun (s : gX × Int32) ls => lv_has ls 5 [(3, Value.int s.2), (0, Value.ref (b 46)), (1, Value.ref (b 83)), (2, Value.int 4)]) ?_ gK (X48, 0) _ _ _ hf (lv_sub hl [0, 3, 2, 1] rfl) Y
      rintro ⟨X50, i3_50⟩ u50 H locs ls hf hl Y hk50 ho50
      have hl : lv_has ls 5 [(3, Value.int i3_50), (0, Value.ref (b 46)), (1, Value.ref (b 83)), (2, Value.int 4)] := hl
      have Y : gy D t b A s.heap X0 X50 H locs := Y
      have hf : f_Mo_tidyFiles_155 X50 4 i3_50 = some u50 := hf
      refine gy_cut (pcJ := 180) Y (fun s : gX × Int32 => f_Mo_tidyFiles_180 s.1 4 s.2) u50 (fun s => s.1) (fun s ls => lv_has ls 5 [(3, Value.int s.2), (0, Value.ref (b 46)), (1, Value.ref (b 83)), (2, Value.int 4)]) (fun s => []) ?_ (fun J180 => ?_)
      · rintro ⟨X51, i3_51⟩ H locs ls hf hl Y
        have hl : lv_has ls 5 [(3, Value.int i3_51), (0, Value.ref (b 46)), (1, Value.ref (b 83)), (2, Value.int 4)] := hl
        have Y : gy D t b A s.heap X0 X51 H locs := Y
        have hf : f_Mo_tidyFiles_180 X51 4 i3_51 = some u50 := hf
        unfold f_Mo_tidyFiles_180 at hf
        refine lv_iinc (v := i3_51 + 1) (lv' := [(3, Value.int (i3_51 + 1)), (0, Value.ref (b 46)), (1, Value.ref (b 83)), (2, Value.int 4)]) hx hb d_Mo_tidyFiles_180 hl (k := 0) rfl (rfl) (by decide) rfl (fun ls hl => ?_)
        refine lv_goto (tgt := 155) hx hb d_Mo_tidyFiles_183 (by decide) ?_
        exact hk50 _ _ _ _ hf (lv_sub hl [0, 1, 2, 3] rfl) Y
      unfold f_Mo_tidyFiles_155 at hf
      refine lv_iload_n hx hb d_Mo_tidyFiles_155 rfl (lv_at hl 0 rfl) ?_
      refine lv_iload_n hx hb d_Mo_tidyFiles_156 rfl (lv_at hl 3 rfl) ?_
      refine lv_icmp_ge (tgt := 186) hx hb d_Mo_tidyFiles_157 (by decide) (fun c157_52 => ?_) (fun c157_52 => ?_)
      · replace hf := gp_t c157_52 hf
        refine lv_aload_n hx hb d_Mo_tidyFiles_186 rfl (lv_at hl 1 rfl) ?_
        obtain ⟨X53, hF53, hf⟩ := gCv_el hf
        refine gy_callV (rm := { frames := 1, cells := 0, slots := 0, locals := 12 }) (ig := .invokevirtual 96) (av := [Value.ref (b 46)]) Y (fun ws h hS hw => K_Mo_keepNeeded l htr D tys z _ ws h hS t ht b X50 hw (gR.v, X53) hF53) (gx_invV (As := []) (rest := []) hx hb hown hts km_Mo_96 kI_Mo_keepNeeded kV_Mo_keepNeeded kc_Mo_keepNeeded (by decide) (show (parseMethodDescriptor y_Mo_keepNeeded.desc).map (fun d => d.parameters.length) = some 0 by decide +kernel) (gy_recv (ci := 8) hK Y rfl gF_46) rfl rfl d_Mo_tidyFiles_187) (gx_cw (z := 0) hts kc_Mo_keepNeeded kN_Mo rfl rfl ⟨Nat.le_of_ble_eq_true rfl, Nat.le_of_ble_eq_true rfl⟩) hb hml hz hK hY hAz hA hl.1 (lv_room (Nat.le_of_ble_eq_true rfl)) d_Mo_tidyFiles_187 ⟨Nat.zero_le _, Nat.zero_le _⟩ (fun H locs Y => ?_)
        replace hf := gU hf ho50
        exact gy_vret hf hx hb hr hlocks hK Y (Nat.zero_le _) (Nat.zero_le _) d_Mo_tidyFiles_190
      · replace hf := gp_f c157_52 hf
        refine lv_aload_n hx hb d_Mo_tidyFiles_160 rfl (lv_at hl 2 rfl) ?_
        refine lv_iload_n hx hb d_Mo_tidyFiles_161 rfl (lv_at hl 0 rfl) ?_
        refine gy_aalR hf hx hb hK Y 5 gF_83 ht5 d_Mo_tidyFiles_162 (fun hi54 hf => ?_)
        refine lv_astore (lv' := [(4, Value.ref (b (84 + 8 * gn i3_50))), (3, Value.int i3_50), (0, Value.ref (b 46)), (1, Value.ref (b 83)), (2, Value.int 4)]) hx hb d_Mo_tidyFiles_163 hl (by decide) rfl (fun ls hl => ?_)
        refine lv_aload hx hb d_Mo_tidyFiles_165 (lv_at hl 0 rfl) ?_
        refine gy_get (ci := 9) (v := Value.int (X50.I (84 + 8 * gn i3_50) 10)) (C := "CommitLedgerModel$Version") (T := F_Ve) (N := 11) hx hb hts i_Ve hown hK Y (gF_Ve (gVer_rd hi54)) rfl 10 (by decide) kf_Mo_103 rfl d_Mo_tidyFiles_167 ?_
        refine lv_if_le (tgt := 180) hx hb d_Mo_tidyFiles_170 (by decide) (fun c170_55 => ?_) (fun c170_55 => ?_)
        · replace hf := gp_t c170_55 hf
          exact J180 (X50, i3_50) _ _ _ hf (lv_sub hl [1, 2, 3, 4] rfl) Y
        · replace hf := gp_f c170_55 hf
          refine lv_aload_n hx hb d_Mo_tidyFiles_173 rfl (lv_at hl 2 rfl) ?_
          refine lv_aload hx hb d_Mo_tidyFiles_174 (lv_at hl 0 rfl) ?_
          refine lv_iconst (v := 0) hx hb d_Mo_tidyFiles_176 (by decide) ?_
          obtain ⟨X56, hF56, hf⟩ := gCv_el hf
          refine gy_callV (rm := { frames := 2, cells := 0, slots := 0, locals := 36 }) (ig := .invokevirtual 138) (av := [Value.ref (b 46), Value.ref (b (84 + 8 * gn i3_50)), Value.int 0]) Y (fun ws h hS hw => K_Mo_need l htr D tys z _ ws h hS t ht b X50 hw (84 + 8 * gn i3_50) (gVer_rd hi54) 0 (gR.v, X56) hF56) (gx_invV (As := [Value.ref (b (84 + 8 * gn i3_50)), Value.int 0]) (rest := []) hx hb hown hts km_Mo_138 kI_Mo_need kV_Mo_need kc_Mo_need (by decide) (show (parseMethodDescriptor y_Mo_need.desc).map (fun d => d.parameters.length) = some 2 by decide +kernel) (gy_recv (ci := 8) hK Y rfl gF_46) rfl rfl d_Mo_tidyFiles_177) (gx_cw (z := 0) hts kc_Mo_need kN_Mo rfl rfl ⟨Nat.le_of_ble_eq_true rfl, Nat.le_of_ble_eq_true rfl⟩) hb hml hz hK hY hAz hA hl.1 (lv_room (Nat.le_of_ble_eq_true rfl)) d_Mo_tidyFiles_177 ⟨Nat.zero_le _, Nat.zero_le _⟩ (fun H locs Y => ?_)
          exact J180 (X56, i3_50) _ _ _ hf (lv_sub hl [1, 2, 3, 4] rfl) Y
    · replace hf := gp_f c120_49 hf
      refine lv_aload_n hx hb d_Mo_tidyFiles_123 rfl (lv_at hl 1 rfl) ?_
      refine gy_get (ci := 8) (v := Value.ref (b 53)) (C := "CommitLedgerModel") (T := F_Mo) (N := 35) hx hb hts i_Mo hown hK Y gF_46 rfl 9 (by decide) kf_Mo_30 rfl d_Mo_tidyFiles_124 ?_
      refine lv_aload_n hx hb d_Mo_tidyFiles_127 rfl (lv_at hl 1 rfl) ?_
      refine lv_aload_n hx hb d_Mo_tidyFiles_128 rfl (lv_at hl 1 rfl) ?_
      refine gy_get (ci := 8) (v := Value.ref (b 82)) (C := "CommitLedgerModel") (T := F_Mo) (N := 35) hx hb hts i_Mo hown hK Y gF_46 rfl 29 (by decide) kf_Mo_73 rfl d_Mo_tidyFiles_129 ?_
      refine lv_iload_n hx hb d_Mo_tidyFiles_132 rfl (lv_at hl 0 rfl) ?_
      refine gy_iald hf hx hb hK Y 0 (fun _ => gF_82) ht0 d_Mo_tidyFiles_133 (fun _ hf => ?_)
      obtain ⟨x57, X57, hF57, hf⟩ := gCi_el hf
      refine gy_callI (rm := { frames := 1, cells := 0, slots := 0, locals := 12 }) (ig := .invokevirtual 128) (av := [Value.ref (b 46), Value.int (X48.I 82 (gn i1_48))]) Y (fun ws h hS hw => K_Mo_place l htr D tys z _ ws h hS t ht b X48 hw (X48.I 82 (gn i1_48)) (gR.i x57, X57) hF57) (gx_invV (As := [Value.int (X48.I 82 (gn i1_48))]) (rest := [Value.ref (b 53)]) hx hb hown hts km_Mo_128 kI_Mo_place kV_Mo_place kc_Mo_place (by decide) (show (parseMethodDescriptor y_Mo_place.desc).map (fun d => d.parameters.length) = some 1 by decide +kernel) (gy_recv (ci := 8) hK Y rfl gF_46) rfl rfl d_Mo_tidyFiles_134) (gx_cw (z := 0) hts kc_Mo_place kN_Mo rfl rfl ⟨Nat.le_of_ble_eq_true rfl, Nat.le_of_ble_eq_true rfl⟩) hb hml hz hK hY hAz hA hl.1 (lv_room (Nat.le_of_ble_eq_true rfl)) d_Mo_tidyFiles_134 ⟨Nat.zero_le _, Nat.zero_le _⟩ (fun H locs Y => ?_)
      refine lv_iconst (v := 1) hx hb d_Mo_tidyFiles_137 (by decide) ?_
      refine gy_zast hf hx hb hK Y 1 (fun _ => gF_53) ht1 d_Mo_tidyFiles_138 (fun X58 H locs hf Y => ?_)
      refine lv_iinc (v := i1_48 + 1) (lv' := [(1, Value.int (i1_48 + 1)), (0, Value.ref (b 46))]) hx hb d_Mo_tidyFiles_139 hl (k := 0) rfl (rfl) (by decide) rfl (fun ls hl => ?_)
      refine lv_goto (tgt := 115) hx hb d_Mo_tidyFiles_142 (by decide) ?_
      exact hk48 _ _ _ _ hf (lv_sub hl [0, 1] rfl) Y
  refine gy_cut (pcJ := 97) Y (fun s : gX => f_Mo_tidyFiles_97 s) o (fun s => s) (fun s ls => lv_has ls 5 [(0, Value.ref (b 46))]) (fun s => []) ?_ (fun J97 => ?_)
  · rintro X59 H locs ls hf hl Y
    have hl : lv_has ls 5 [(0, Value.ref (b 46))] := hl
    have Y : gy D t b A s.heap X0 X59 H locs := Y
    have hf : f_Mo_tidyFiles_97 X59 = some o := hf
    unfold f_Mo_tidyFiles_97 at hf
    refine lv_aload_n hx hb d_Mo_tidyFiles_97 rfl (lv_at hl 0 rfl) ?_
    refine gy_get (ci := 8) (v := Value.int (X59.I 46 18)) (C := "CommitLedgerModel") (T := F_Mo) (N := 35) hx hb hts i_Mo hown hK Y gF_46 rfl 18 (by decide) kf_Mo_99 rfl d_Mo_tidyFiles_98 ?_
    refine lv_if_eq (tgt := 113) hx hb d_Mo_tidyFiles_101 (by decide) (fun c101_60 => ?_) (fun c101_60 => ?_)
    · replace hf := gp_t c101_60 hf
      exact J113 X59 _ _ _ hf (lv_sub hl [0] rfl) Y
    · replace hf := gp_f c101_60 hf
      refine lv_aload_n hx hb d_Mo_tidyFiles_104 rfl (lv_at hl 0 rfl) ?_
      refine lv_aload_n hx hb d_Mo_tidyFiles_105 rfl (lv_at hl 0 rfl) ?_
      refine gy_get (ci := 8) (v := Value.ref (b 54)) (C := "CommitLedgerModel") (T := F_Mo) (N := 35) hx hb hts i_Mo hown hK Y gF_46 rfl 15 (by decide) kf_Mo_40 rfl d_Mo_tidyFiles_106 ?_
      refine lv_iconst (v := 1) hx hb d_Mo_tidyFiles_109 (by decide) ?_
      obtain ⟨X61, hF61, hf⟩ := gCv_el hf
      refine gy_callV (rm := { frames := 2, cells := 0, slots := 0, locals := 36 }) (ig := .invokevirtual 138) (av := [Value.ref (b 46), Value.ref (b 54), Value.int 1]) Y (fun ws h hS hw => K_Mo_need l htr D tys z _ ws h hS t ht b X59 hw 54 (by decide) 1 (gR.v, X61) hF61) (gx_invV (As := [Value.ref (b 54), Value.int 1]) (rest := []) hx hb hown hts km_Mo_138 kI_Mo_need kV_Mo_need kc_Mo_need (by decide) (show (parseMethodDescriptor y_Mo_need.desc).map (fun d => d.parameters.length) = some 2 by decide +kernel) (gy_recv (ci := 8) hK Y rfl gF_46) rfl rfl d_Mo_tidyFiles_110) (gx_cw (z := 0) hts kc_Mo_need kN_Mo rfl rfl ⟨Nat.le_of_ble_eq_true rfl, Nat.le_of_ble_eq_true rfl⟩) hb hml hz hK hY hAz hA hl.1 (lv_room (Nat.le_of_ble_eq_true rfl)) d_Mo_tidyFiles_110 ⟨Nat.zero_le _, Nat.zero_le _⟩ (fun H locs Y => ?_)
      exact J113 X61 _ _ _ hf (lv_sub hl [0] rfl) Y
  refine gy_cut (pcJ := 64) Y (fun s : gX => f_Mo_tidyFiles_64 s) o (fun s => s) (fun s ls => lv_has ls 5 [(0, Value.ref (b 46))]) (fun s => []) ?_ (fun J64 => ?_)
  · rintro X62 H locs ls hf hl Y
    have hl : lv_has ls 5 [(0, Value.ref (b 46))] := hl
    have Y : gy D t b A s.heap X0 X62 H locs := Y
    have hf : f_Mo_tidyFiles_64 X62 = some o := hf
    unfold f_Mo_tidyFiles_64 at hf
    refine lv_aload_n hx hb d_Mo_tidyFiles_64 rfl (lv_at hl 0 rfl) ?_
    refine gy_get (ci := 8) (v := Value.int (X62.I 46 19)) (C := "CommitLedgerModel") (T := F_Mo) (N := 35) hx hb hts i_Mo hown hK Y gF_46 rfl 19 (by decide) kf_Mo_109 rfl d_Mo_tidyFiles_65 ?_
    refine lv_if_eq (tgt := 97) hx hb d_Mo_tidyFiles_68 (by decide) (fun c68_63 => ?_) (fun c68_63 => ?_)
    · replace hf := gp_t c68_63 hf
      exact J97 X62 _ _ _ hf (lv_sub hl [0] rfl) Y
    · replace hf := gp_f c68_63 hf
      refine lv_aload_n hx hb d_Mo_tidyFiles_71 rfl (lv_at hl 0 rfl) ?_
      refine lv_aload_n hx hb d_Mo_tidyFiles_72 rfl (lv_at hl 0 rfl) ?_
      refine gy_get (ci := 8) (v := Value.ref (b 70)) (C := "CommitLedgerModel") (T := F_Mo) (N := 35) hx hb hts i_Mo hown hK Y gF_46 rfl 17 (by decide) kf_Mo_47 rfl d_Mo_tidyFiles_73 ?_
      refine lv_iconst (v := 1) hx hb d_Mo_tidyFiles_76 (by decide) ?_
      obtain ⟨X64, hF64, hf⟩ := gCv_el hf
      refine gy_callV (rm := { frames := 2, cells := 0, slots := 0, locals := 36 }) (ig := .invokevirtual 138) (av := [Value.ref (b 46), Value.ref (b 70), Value.int 1]) Y (fun ws h hS hw => K_Mo_need l htr D tys z _ ws h hS t ht b X62 hw 70 (by decide) 1 (gR.v, X64) hF64) (gx_invV (As := [Value.ref (b 70), Value.int 1]) (rest := []) hx hb hown hts km_Mo_138 kI_Mo_need kV_Mo_need kc_Mo_need (by decide) (show (parseMethodDescriptor y_Mo_need.desc).map (fun d => d.parameters.length) = some 2 by decide +kernel) (gy_recv (ci := 8) hK Y rfl gF_46) rfl rfl d_Mo_tidyFiles_77) (gx_cw (z := 0) hts kc_Mo_need kN_Mo rfl rfl ⟨Nat.le_of_ble_eq_true rfl, Nat.le_of_ble_eq_true rfl⟩) hb hml hz hK hY hAz hA hl.1 (lv_room (Nat.le_of_ble_eq_true rfl)) d_Mo_tidyFiles_77 ⟨Nat.zero_le _, Nat.zero_le _⟩ (fun H locs Y => ?_)
      refine lv_aload_n hx hb d_Mo_tidyFiles_80 rfl (lv_at hl 0 rfl) ?_
      refine gy_get (ci := 8) (v := Value.ref (b 53)) (C := "CommitLedgerModel") (T := F_Mo) (N := 35) hx hb hts i_Mo hown hK Y gF_46 rfl 9 (by decide) kf_Mo_30 rfl d_Mo_tidyFiles_81 ?_
      refine lv_aload_n hx hb d_Mo_tidyFiles_84 rfl (lv_at hl 0 rfl) ?_
      refine lv_aload_n hx hb d_Mo_tidyFiles_85 rfl (lv_at hl 0 rfl) ?_
      refine gy_get (ci := 8) (v := Value.ref (b 70)) (C := "CommitLedgerModel") (T := F_Mo) (N := 35) hx hb hts i_Mo hown hK Y gF_46 rfl 17 (by decide) kf_Mo_47 rfl d_Mo_tidyFiles_86 ?_
      refine gy_get (ci := 9) (v := Value.int (X64.I 70 9)) (C := "CommitLedgerModel$Version") (T := F_Ve) (N := 11) hx hb hts i_Ve hown hK Y gF_70 rfl 9 (by decide) kf_Mo_142 rfl d_Mo_tidyFiles_89 ?_
      obtain ⟨x65, X65, hF65, hf⟩ := gCi_el hf
      refine gy_callI (rm := { frames := 1, cells := 0, slots := 0, locals := 12 }) (ig := .invokevirtual 128) (av := [Value.ref (b 46), Value.int (X64.I 70 9)]) Y (fun ws h hS hw => K_Mo_place l htr D tys z _ ws h hS t ht b X64 hw (X64.I 70 9) (gR.i x65, X65) hF65) (gx_invV (As := [Value.int (X64.I 70 9)]) (rest := [Value.ref (b 53)]) hx hb hown hts km_Mo_128 kI_Mo_place kV_Mo_place kc_Mo_place (by decide) (show (parseMethodDescriptor y_Mo_place.desc).map (fun d => d.parameters.length) = some 1 by decide +kernel) (gy_recv (ci := 8) hK Y rfl gF_46) rfl rfl d_Mo_tidyFiles_92) (gx_cw (z := 0) hts kc_Mo_place kN_Mo rfl rfl ⟨Nat.le_of_ble_eq_true rfl, Nat.le_of_ble_eq_true rfl⟩) hb hml hz hK hY hAz hA hl.1 (lv_room (Nat.le_of_ble_eq_true rfl)) d_Mo_tidyFiles_92 ⟨Nat.zero_le _, Nat.zero_le _⟩ (fun H locs Y => ?_)
      refine lv_iconst (v := 1) hx hb d_Mo_tidyFiles_95 (by decide) ?_
      refine gy_zast hf hx hb hK Y 1 (fun _ => gF_53) ht1 d_Mo_tidyFiles_96 (fun X66 H locs hf Y => ?_)
      exact J97 X66 _ _ _ hf (lv_sub hl [0] rfl) Y
  unfold f_Mo_tidyFiles at hf
  refine lv_aload_n hx hb d_Mo_tidyFiles_0 rfl (lv_at hl 0 rfl) ?_
  refine gy_get (ci := 8) (v := Value.int (X0.I 46 14)) (C := "CommitLedgerModel") (T := F_Mo) (N := 35) hx hb hts i_Mo hown hK Y gF_46 rfl 14 (by decide) kf_Mo_112 rfl d_Mo_tidyFiles_1 ?_
  refine lv_if_eq (tgt := 8) hx hb d_Mo_tidyFiles_4 (by decide) (fun c4_67 => ?_) (fun c4_67 => ?_)
  · replace hf := gp_t c4_67 hf
    refine lv_iconst (v := 0) hx hb d_Mo_tidyFiles_8 (by decide) ?_
    refine lv_istore_n (lv' := [(1, Value.int 0), (0, Value.ref (b 46))]) hx hb d_Mo_tidyFiles_9 rfl hl (by decide) rfl (fun ls hl => ?_)
    refine gy_iter (fun s : gX × Int32 => s.1) (fun (s : gX × Int32) ls => lv_has ls 5 [(1, Value.int s.2), (0, Value.ref (b 46))]) ?_ gK (X0, 0) _ _ _ hf (lv_sub hl [0, 1] rfl) Y
    rintro ⟨X68, i1_68⟩ u68 H locs ls hf hl Y hk68 ho68
    have hl : lv_has ls 5 [(1, Value.int i1_68), (0, Value.ref (b 46))] := hl
    have Y : gy D t b A s.heap X0 X68 H locs := Y
    have hf : f_Mo_tidyFiles_10 X68 i1_68 = some u68 := hf
    unfold f_Mo_tidyFiles_10 at hf
    refine lv_iload_n hx hb d_Mo_tidyFiles_10 rfl (lv_at hl 0 rfl) ?_
    refine lv_aload_n hx hb d_Mo_tidyFiles_11 rfl (lv_at hl 1 rfl) ?_
    refine gy_get (ci := 8) (v := Value.int (X68.I 46 10)) (C := "CommitLedgerModel") (T := F_Mo) (N := 35) hx hb hts i_Mo hown hK Y gF_46 rfl 10 (by decide) kf_Mo_93 rfl d_Mo_tidyFiles_12 ?_
    refine lv_icmp_ge (tgt := 31) hx hb d_Mo_tidyFiles_15 (by decide) (fun c15_69 => ?_) (fun c15_69 => ?_)
    · replace hf := gp_t c15_69 hf
      refine lv_aload_n hx hb d_Mo_tidyFiles_31 rfl (lv_at hl 1 rfl) ?_
      refine gy_get (ci := 8) (v := Value.int (X68.I 46 20)) (C := "CommitLedgerModel") (T := F_Mo) (N := 35) hx hb hts i_Mo hown hK Y gF_46 rfl 20 (by decide) kf_Mo_135 rfl d_Mo_tidyFiles_32 ?_
      refine lv_if_le (tgt := 64) hx hb d_Mo_tidyFiles_35 (by decide) (fun c35_70 => ?_) (fun c35_70 => ?_)
      · replace hf := gp_t c35_70 hf
        replace hf := gU hf ho68
        exact J64 X68 _ _ _ hf (lv_sub hl [1] rfl) Y
      · replace hf := gp_f c35_70 hf
        refine lv_aload_n hx hb d_Mo_tidyFiles_38 rfl (lv_at hl 1 rfl) ?_
        refine lv_aload_n hx hb d_Mo_tidyFiles_39 rfl (lv_at hl 1 rfl) ?_
        refine gy_get (ci := 8) (v := Value.ref (b 62)) (C := "CommitLedgerModel") (T := F_Mo) (N := 35) hx hb hts i_Mo hown hK Y gF_46 rfl 16 (by decide) kf_Mo_44 rfl d_Mo_tidyFiles_40 ?_
        refine lv_iconst (v := 1) hx hb d_Mo_tidyFiles_43 (by decide) ?_
        obtain ⟨X71, hF71, hf⟩ := gCv_el hf
        refine gy_callV (rm := { frames := 2, cells := 0, slots := 0, locals := 36 }) (ig := .invokevirtual 138) (av := [Value.ref (b 46), Value.ref (b 62), Value.int 1]) Y (fun ws h hS hw => K_Mo_need l htr D tys z _ ws h hS t ht b X68 hw 62 (by decide) 1 (gR.v, X71) hF71) (gx_invV (As := [Value.ref (b 62), Value.int 1]) (rest := []) hx hb hown hts km_Mo_138 kI_Mo_need kV_Mo_need kc_Mo_need (by decide) (show (parseMethodDescriptor y_Mo_need.desc).map (fun d => d.parameters.length) = some 2 by decide +kernel) (gy_recv (ci := 8) hK Y rfl gF_46) rfl rfl d_Mo_tidyFiles_44) (gx_cw (z := 0) hts kc_Mo_need kN_Mo rfl rfl ⟨Nat.le_of_ble_eq_true rfl, Nat.le_of_ble_eq_true rfl⟩) hb hml hz hK hY hAz hA hl.1 (lv_room (Nat.le_of_ble_eq_true rfl)) d_Mo_tidyFiles_44 ⟨Nat.zero_le _, Nat.zero_le _⟩ (fun H locs Y => ?_)
        refine lv_aload_n hx hb d_Mo_tidyFiles_47 rfl (lv_at hl 1 rfl) ?_
        refine gy_get (ci := 8) (v := Value.ref (b 53)) (C := "CommitLedgerModel") (T := F_Mo) (N := 35) hx hb hts i_Mo hown hK Y gF_46 rfl 9 (by decide) kf_Mo_30 rfl d_Mo_tidyFiles_48 ?_
        refine lv_aload_n hx hb d_Mo_tidyFiles_51 rfl (lv_at hl 1 rfl) ?_
        refine lv_aload_n hx hb d_Mo_tidyFiles_52 rfl (lv_at hl 1 rfl) ?_
        refine gy_get (ci := 8) (v := Value.ref (b 62)) (C := "CommitLedgerModel") (T := F_Mo) (N := 35) hx hb hts i_Mo hown hK Y gF_46 rfl 16 (by decide) kf_Mo_44 rfl d_Mo_tidyFiles_53 ?_
        refine gy_get (ci := 9) (v := Value.int (X71.I 62 9)) (C := "CommitLedgerModel$Version") (T := F_Ve) (N := 11) hx hb hts i_Ve hown hK Y gF_62 rfl 9 (by decide) kf_Mo_142 rfl d_Mo_tidyFiles_56 ?_
        obtain ⟨x72, X72, hF72, hf⟩ := gCi_el hf
        refine gy_callI (rm := { frames := 1, cells := 0, slots := 0, locals := 12 }) (ig := .invokevirtual 128) (av := [Value.ref (b 46), Value.int (X71.I 62 9)]) Y (fun ws h hS hw => K_Mo_place l htr D tys z _ ws h hS t ht b X71 hw (X71.I 62 9) (gR.i x72, X72) hF72) (gx_invV (As := [Value.int (X71.I 62 9)]) (rest := [Value.ref (b 53)]) hx hb hown hts km_Mo_128 kI_Mo_place kV_Mo_place kc_Mo_place (by decide) (show (parseMethodDescriptor y_Mo_place.desc).map (fun d => d.parameters.length) = some 1 by decide +kernel) (gy_recv (ci := 8) hK Y rfl gF_46) rfl rfl d_Mo_tidyFiles_59) (gx_cw (z := 0) hts kc_Mo_place kN_Mo rfl rfl ⟨Nat.le_of_ble_eq_true rfl, Nat.le_of_ble_eq_true rfl⟩) hb hml hz hK hY hAz hA hl.1 (lv_room (Nat.le_of_ble_eq_true rfl)) d_Mo_tidyFiles_59 ⟨Nat.zero_le _, Nat.zero_le _⟩ (fun H locs Y => ?_)
        refine lv_iconst (v := 1) hx hb d_Mo_tidyFiles_62 (by decide) ?_
        refine gy_zast hf hx hb hK Y 1 (fun _ => gF_53) ht1 d_Mo_tidyFiles_63 (fun X73 H locs hf Y => ?_)
        replace hf := gU hf ho68
        exact J64 X73 _ _ _ hf (lv_sub hl [1] rfl) Y
    · replace hf := gp_f c15_69 hf
      refine lv_aload_n hx hb d_Mo_tidyFiles_18 rfl (lv_at hl 1 rfl) ?_
      refine gy_get (ci := 8) (v := Value.ref (b 53)) (C := "CommitLedgerModel") (T := F_Mo) (N := 35) hx hb hts i_Mo hown hK Y gF_46 rfl 9 (by decide) kf_Mo_30 rfl d_Mo_tidyFiles_19 ?_
      refine lv_iload_n hx hb d_Mo_tidyFiles_22 rfl (lv_at hl 0 rfl) ?_
      refine lv_iconst (v := 0) hx hb d_Mo_tidyFiles_23 (by decide) ?_
      refine gy_zast hf hx hb hK Y 1 (fun _ => gF_53) ht1 d_Mo_tidyFiles_24 (fun X74 H locs hf Y => ?_)
      refine lv_iinc (v := i1_68 + 1) (lv' := [(1, Value.int (i1_68 + 1)), (0, Value.ref (b 46))]) hx hb d_Mo_tidyFiles_25 hl (k := 0) rfl (rfl) (by decide) rfl (fun ls hl => ?_)
      refine lv_goto (tgt := 10) hx hb d_Mo_tidyFiles_28 (by decide) ?_
      exact hk68 _ _ _ _ hf (lv_sub hl [0, 1] rfl) Y
  · replace hf := gp_f c4_67 hf
    exact gy_vret hf hx hb hr hlocks hK Y (Nat.zero_le _) (Nat.zero_le _) d_Mo_tidyFiles_7

def f_Mo_finished (X0 : gX) (a1 : Int32) (a2 : Int32) : Option (gR × gX) := gCv (f_Mo_tidyFiles X0) (fun X1 => gCi (f_Mo_done X1 a1 a2) (fun x2 X2 => some (gR.i x2, X2)))
set_option maxHeartbeats 4000000 in
set_option maxRecDepth 100000 in
theorem K_Mo_finished (l : Launch) (htr : l.stackTraces = false) (D : va_G) (tys : List (ClassId × FieldType)) (z sz : Nat) (ws : va_W) (h : gm_M) (hM : gm_S h ws) (t : Nat → ClassId) (ht : gTy t tys) (b : Nat → Nat) (X0 : gX) (hw : gw D t b X0 h) (a1 : Int32) (a2 : Int32) (o : gR × gX) (hf : f_Mo_finished X0 a1 a2 = some o) : gx_Met l y_Mo_finished [Cond.code y_Mo_finished b_Mo_finished 3 (some .int)] { frames := 4, cells := 0, slots := 0, locals := 83 } (gx_P z sz D classes tys ws [Value.ref (b 46), Value.int a1, Value.int a2]) (gx_Q D classes tys (va_A ws sz) (gPo D t b X0 o)) (0) (0) (va_A ws sz) := by
  refine gx_ofW (cc := b_Mo_finished) (maxL := 3) (ret := (some .int)) (by decide) rfl ?_
  intro p e s m args below meth c s₁ B hml hv
  obtain ⟨rfl, hsz, hz, hP, hK, hD0, hY⟩ := hv
  have hx := B.exec
  have hb := B.bytes
  have hr := B.returns
  have hts := hY.hts (#[Value.ref (b 46), Value.int a1, Value.int a2] : Array Value)
  have hown : s.vm.findClass "CommitLedgerModel" = some m.cls := findClass_of_methodNamed B.named
  have hlocks := B.notSynchronized
  subst hsz
  have hAz := gx_az hD0 hz
  have hD := hD0.self (sz := s.heap.size)
  have hA : ∀ q : Nat, s.heap.size ≤ q → va_A ws s.heap.size q := fun q h => Or.inr h
  generalize va_A ws s.heap.size = A at hD hA hAz ⊢
  have Y : gy D t b A s.heap X0 X0 s.heap [] := ⟨h, ⟨ws, hM, hP, hD, va_S.rf⟩, hw, gEq.rf⟩
  clear hP hD hM hD0 hw
  obtain ⟨ht0, ht1, ht2, ht3, ht4, ht5, ht6, ht7, ht8⟩ := id ht
  have hl := lv_entry ([Value.ref (b 46), Value.int a1, Value.int a2]) (n := 3) (Nat.le_of_ble_eq_true rfl)
  rw [lg_entry_eq]
  generalize (lg_sl ([Value.ref (b 46), Value.int a1, Value.int a2]) ++ List.replicate (3 - (lg_sl ([Value.ref (b 46), Value.int a1, Value.int a2])).length) Slot.unset).toArray = ls at hl ⊢
  have hl : lv_has ls 3 [(0, Value.ref (b 46)), (1, Value.int a1), (2, Value.int a2)] := hl
  unfold f_Mo_finished at hf
  refine lv_aload_n hx hb d_Mo_finished_0 rfl (lv_at hl 0 rfl) ?_
  obtain ⟨X3, hF3, hf⟩ := gCv_el hf
  refine gy_callV (rm := { frames := 3, cells := 0, slots := 0, locals := 59 }) (ig := .invokevirtual 145) (av := [Value.ref (b 46)]) Y (fun ws h hS hw => K_Mo_tidyFiles l htr D tys z _ ws h hS t ht b X0 hw (gR.v, X3) hF3) (gx_invV (As := []) (rest := []) hx hb hown hts km_Mo_145 kI_Mo_tidyFiles kV_Mo_tidyFiles kc_Mo_tidyFiles (by decide) (show (parseMethodDescriptor y_Mo_tidyFiles.desc).map (fun d => d.parameters.length) = some 0 by decide +kernel) (gy_recv (ci := 8) hK Y rfl gF_46) rfl rfl d_Mo_finished_1) (gx_cw (z := 0) hts kc_Mo_tidyFiles kN_Mo rfl rfl ⟨Nat.le_of_ble_eq_true rfl, Nat.le_of_ble_eq_true rfl⟩) hb hml hz hK hY hAz hA hl.1 (lv_room (Nat.le_of_ble_eq_true rfl)) d_Mo_finished_1 ⟨Nat.zero_le _, Nat.zero_le _⟩ (fun H locs Y => ?_)
  refine lv_aload_n hx hb d_Mo_finished_4 rfl (lv_at hl 0 rfl) ?_
  refine lv_iload_n hx hb d_Mo_finished_5 rfl (lv_at hl 1 rfl) ?_
  refine lv_iload_n hx hb d_Mo_finished_6 rfl (lv_at hl 2 rfl) ?_
  obtain ⟨x4, X4, hF4, hf⟩ := gCi_el hf
  refine gy_callI (rm := { frames := 1, cells := 0, slots := 0, locals := 12 }) (ig := .invokevirtual 148) (av := [Value.ref (b 46), Value.int a1, Value.int a2]) Y (fun ws h hS hw => K_Mo_done l htr D tys z _ ws h hS t ht b X3 hw a1 a2 (gR.i x4, X4) hF4) (gx_invV (As := [Value.int a1, Value.int a2]) (rest := []) hx hb hown hts km_Mo_148 kI_Mo_done kV_Mo_done kc_Mo_done (by decide) (show (parseMethodDescriptor y_Mo_done.desc).map (fun d => d.parameters.length) = some 2 by decide +kernel) (gy_recv (ci := 8) hK Y rfl gF_46) rfl rfl d_Mo_finished_7) (gx_cw (z := 0) hts kc_Mo_done kN_Mo rfl rfl ⟨Nat.le_of_ble_eq_true rfl, Nat.le_of_ble_eq_true rfl⟩) hb hml hz hK hY hAz hA hl.1 (lv_room (Nat.le_of_ble_eq_true rfl)) d_Mo_finished_7 ⟨Nat.zero_le _, Nat.zero_le _⟩ (fun H locs Y => ?_)
  exact gy_iret hf hx hb hr hlocks hK Y (Nat.zero_le _) (Nat.zero_le _) d_Mo_finished_10

def f_Mo_corrupt_90 (X : gX) (i1 : Int32) : Option ((gX × Int32) ⊕ (gR × gX)) := some (Sum.inl (X, i1 + 1))
def f_Mo_corrupt_88 (X : gX) : Option (gR × gX) := some (gR.i 1, X)
def f_Mo_corrupt_23 (X : gX) (i1 : Int32) : Option ((gX × Int32) ⊕ (gR × gX)) := (if (X.I 62 7) ≤ i1 then gLf (some (gR.i 0, X)) else (if gIn i1 4097 then gCi (f_Mo_place X (X.I 63 (gn i1))) (fun x5 X5 => (if gIn x5 60000 then (if (X5.I 52 (gn x5)) = (0 : Int32) then (if gIn i1 4097 then (if (X5.I 64 (gn i1)) < (0 : Int32) then f_Mo_corrupt_90 X5 i1 else (if gIn i1 4097 then gCi (f_Mo_place X5 (X5.I 64 (gn i1))) (fun x8 X8 => (if gIn x8 60000 then (if (X8.I 52 (gn x8)) = (0 : Int32) then f_Mo_corrupt_90 X8 i1 else gLf (f_Mo_corrupt_88 X8)) else none)) else none)) else none) else gLf (f_Mo_corrupt_88 X5)) else none)) else none))
def f_Mo_corrupt (X0 : gX) : Option (gR × gX) := gCi (f_Mo_place X0 (X0.I 62 9)) (fun x1 X1 => (if gIn x1 60000 then (if (X1.I 52 (gn x1)) = (0 : Int32) then gI (fun s : gX × Int32 => f_Mo_corrupt_23 s.1 s.2) gK (X1, 0) else some (gR.i 1, X1)) else none))
set_option maxHeartbeats 4000000 in
set_option maxRecDepth 100000 in
theorem K_Mo_corrupt (l : Launch) (htr : l.stackTraces = false) (D : va_G) (tys : List (ClassId × FieldType)) (z sz : Nat) (ws : va_W) (h : gm_M) (hM : gm_S h ws) (t : Nat → ClassId) (ht : gTy t tys) (b : Nat → Nat) (X0 : gX) (hw : gw D t b X0 h) (o : gR × gX) (hf : f_Mo_corrupt X0 = some o) : gx_Met l y_Mo_corrupt [Cond.code y_Mo_corrupt b_Mo_corrupt 2 (some .boolean)] { frames := 2, cells := 0, slots := 0, locals := 36 } (gx_P z sz D classes tys ws [Value.ref (b 46)]) (gx_Q D classes tys (va_A ws sz) (gPo D t b X0 o)) (0) (0) (va_A ws sz) := by
  refine gx_ofW (cc := b_Mo_corrupt) (maxL := 2) (ret := (some .boolean)) (by decide) rfl ?_
  intro p e s m args below meth c s₁ B hml hv
  obtain ⟨rfl, hsz, hz, hP, hK, hD0, hY⟩ := hv
  have hx := B.exec
  have hb := B.bytes
  have hr := B.returns
  have hts := hY.hts (#[Value.ref (b 46)] : Array Value)
  have hown : s.vm.findClass "CommitLedgerModel" = some m.cls := findClass_of_methodNamed B.named
  have hlocks := B.notSynchronized
  subst hsz
  have hAz := gx_az hD0 hz
  have hD := hD0.self (sz := s.heap.size)
  have hA : ∀ q : Nat, s.heap.size ≤ q → va_A ws s.heap.size q := fun q h => Or.inr h
  generalize va_A ws s.heap.size = A at hD hA hAz ⊢
  have Y : gy D t b A s.heap X0 X0 s.heap [] := ⟨h, ⟨ws, hM, hP, hD, va_S.rf⟩, hw, gEq.rf⟩
  clear hP hD hM hD0 hw
  obtain ⟨ht0, ht1, ht2, ht3, ht4, ht5, ht6, ht7, ht8⟩ := id ht
  have hl := lv_entry ([Value.ref (b 46)]) (n := 2) (Nat.le_of_ble_eq_true rfl)
  rw [lg_entry_eq]
  generalize (lg_sl ([Value.ref (b 46)]) ++ List.replicate (2 - (lg_sl ([Value.ref (b 46)])).length) Slot.unset).toArray = ls at hl ⊢
  have hl : lv_has ls 2 [(0, Value.ref (b 46))] := hl
  refine gy_cut (pcJ := 88) Y (fun s : gX => f_Mo_corrupt_88 s) o (fun s => s) (fun s ls => lv_has ls 2 []) (fun s => []) ?_ (fun J88 => ?_)
  · rintro X17 H locs ls hf hl Y
    have hl : lv_has ls 2 [] := hl
    have Y : gy D t b A s.heap X0 X17 H locs := Y
    have hf : f_Mo_corrupt_88 X17 = some o := hf
    unfold f_Mo_corrupt_88 at hf
    refine lv_iconst (v := 1) hx hb d_Mo_corrupt_88 (by decide) ?_
    exact gy_zret hf hx hb hr hlocks hK Y (Nat.zero_le _) (Nat.zero_le _) rfl d_Mo_corrupt_89
  unfold f_Mo_corrupt at hf
  refine lv_aload_n hx hb d_Mo_corrupt_0 rfl (lv_at hl 0 rfl) ?_
  refine gy_get (ci := 8) (v := Value.ref (b 52)) (C := "CommitLedgerModel") (T := F_Mo) (N := 35) hx hb hts i_Mo hown hK Y gF_46 rfl 8 (by decide) kf_Mo_27 rfl d_Mo_corrupt_1 ?_
  refine lv_aload_n hx hb d_Mo_corrupt_4 rfl (lv_at hl 0 rfl) ?_
  refine lv_aload_n hx hb d_Mo_corrupt_5 rfl (lv_at hl 0 rfl) ?_
  refine gy_get (ci := 8) (v := Value.ref (b 62)) (C := "CommitLedgerModel") (T := F_Mo) (N := 35) hx hb hts i_Mo hown hK Y gF_46 rfl 16 (by decide) kf_Mo_44 rfl d_Mo_corrupt_6 ?_
  refine gy_get (ci := 9) (v := Value.int (X0.I 62 9)) (C := "CommitLedgerModel$Version") (T := F_Ve) (N := 11) hx hb hts i_Ve hown hK Y gF_62 rfl 9 (by decide) kf_Mo_142 rfl d_Mo_corrupt_9 ?_
  obtain ⟨x18, X18, hF18, hf⟩ := gCi_el hf
  refine gy_callI (rm := { frames := 1, cells := 0, slots := 0, locals := 12 }) (ig := .invokevirtual 128) (av := [Value.ref (b 46), Value.int (X0.I 62 9)]) Y (fun ws h hS hw => K_Mo_place l htr D tys z _ ws h hS t ht b X0 hw (X0.I 62 9) (gR.i x18, X18) hF18) (gx_invV (As := [Value.int (X0.I 62 9)]) (rest := [Value.ref (b 52)]) hx hb hown hts km_Mo_128 kI_Mo_place kV_Mo_place kc_Mo_place (by decide) (show (parseMethodDescriptor y_Mo_place.desc).map (fun d => d.parameters.length) = some 1 by decide +kernel) (gy_recv (ci := 8) hK Y rfl gF_46) rfl rfl d_Mo_corrupt_12) (gx_cw (z := 0) hts kc_Mo_place kN_Mo rfl rfl ⟨Nat.le_of_ble_eq_true rfl, Nat.le_of_ble_eq_true rfl⟩) hb hml hz hK hY hAz hA hl.1 (lv_room (Nat.le_of_ble_eq_true rfl)) d_Mo_corrupt_12 ⟨Nat.zero_le _, Nat.zero_le _⟩ (fun H locs Y => ?_)
  refine gy_zald hf hx hb hK Y 1 (fun _ => gF_52) ht1 d_Mo_corrupt_15 (fun _ hf => ?_)
  refine lv_if_eq (tgt := 21) hx hb d_Mo_corrupt_16 (by decide) (fun c16_19 => ?_) (fun c16_19 => ?_)
  · replace hf := gp_t c16_19 hf
    refine lv_iconst (v := 0) hx hb d_Mo_corrupt_21 (by decide) ?_
    refine lv_istore_n (lv' := [(1, Value.int 0), (0, Value.ref (b 46))]) hx hb d_Mo_corrupt_22 rfl hl (by decide) rfl (fun ls hl => ?_)
    refine gy_iter (fun s : gX × Int32 => s.1) (fun (s : gX × Int32) ls => lv_has ls 2 [(1, Value.int s.2), (0, Value.ref (b 46))]) ?_ gK (X18, 0) _ _ _ hf (lv_sub hl [0, 1] rfl) Y
    rintro ⟨X20, i1_20⟩ u20 H locs ls hf hl Y hk20 ho20
    have hl : lv_has ls 2 [(1, Value.int i1_20), (0, Value.ref (b 46))] := hl
    have Y : gy D t b A s.heap X0 X20 H locs := Y
    have hf : f_Mo_corrupt_23 X20 i1_20 = some u20 := hf
    refine gy_cut (pcJ := 90) Y (fun s : gX × Int32 => f_Mo_corrupt_90 s.1 s.2) u20 (fun s => s.1) (fun s ls => lv_has ls 2 [(1, Value.int s.2), (0, Value.ref (b 46))]) (fun s => []) ?_ (fun J90 => ?_)
    · rintro ⟨X21, i1_21⟩ H locs ls hf hl Y
      have hl : lv_has ls 2 [(1, Value.int i1_21), (0, Value.ref (b 46))] := hl
      have Y : gy D t b A s.heap X0 X21 H locs := Y
      have hf : f_Mo_corrupt_90 X21 i1_21 = some u20 := hf
      unfold f_Mo_corrupt_90 at hf
      refine lv_iinc (v := i1_21 + 1) (lv' := [(1, Value.int (i1_21 + 1)), (0, Value.ref (b 46))]) hx hb d_Mo_corrupt_90 hl (k := 0) rfl (rfl) (by decide) rfl (fun ls hl => ?_)
      refine lv_goto (tgt := 23) hx hb d_Mo_corrupt_93 (by decide) ?_
      exact hk20 _ _ _ _ hf (lv_sub hl [0, 1] rfl) Y
    unfold f_Mo_corrupt_23 at hf
    refine lv_iload_n hx hb d_Mo_corrupt_23 rfl (lv_at hl 0 rfl) ?_
    refine lv_aload_n hx hb d_Mo_corrupt_24 rfl (lv_at hl 1 rfl) ?_
    refine gy_get (ci := 8) (v := Value.ref (b 62)) (C := "CommitLedgerModel") (T := F_Mo) (N := 35) hx hb hts i_Mo hown hK Y gF_46 rfl 16 (by decide) kf_Mo_44 rfl d_Mo_corrupt_25 ?_
    refine gy_get (ci := 9) (v := Value.int (X20.I 62 7)) (C := "CommitLedgerModel$Version") (T := F_Ve) (N := 11) hx hb hts i_Ve hown hK Y gF_62 rfl 7 (by decide) kf_Mo_122 rfl d_Mo_corrupt_28 ?_
    refine lv_icmp_ge (tgt := 96) hx hb d_Mo_corrupt_31 (by decide) (fun c31_22 => ?_) (fun c31_22 => ?_)
    · replace hf := gp_t c31_22 hf
      refine lv_iconst (v := 0) hx hb d_Mo_corrupt_96 (by decide) ?_
      replace hf := gU hf ho20
      exact gy_zret hf hx hb hr hlocks hK Y (Nat.zero_le _) (Nat.zero_le _) rfl d_Mo_corrupt_97
    · replace hf := gp_f c31_22 hf
      refine lv_aload_n hx hb d_Mo_corrupt_34 rfl (lv_at hl 1 rfl) ?_
      refine gy_get (ci := 8) (v := Value.ref (b 52)) (C := "CommitLedgerModel") (T := F_Mo) (N := 35) hx hb hts i_Mo hown hK Y gF_46 rfl 8 (by decide) kf_Mo_27 rfl d_Mo_corrupt_35 ?_
      refine lv_aload_n hx hb d_Mo_corrupt_38 rfl (lv_at hl 1 rfl) ?_
      refine lv_aload_n hx hb d_Mo_corrupt_39 rfl (lv_at hl 1 rfl) ?_
      refine gy_get (ci := 8) (v := Value.ref (b 62)) (C := "CommitLedgerModel") (T := F_Mo) (N := 35) hx hb hts i_Mo hown hK Y gF_46 rfl 16 (by decide) kf_Mo_44 rfl d_Mo_corrupt_40 ?_
      refine gy_get (ci := 9) (v := Value.ref (b 63)) (C := "CommitLedgerModel$Version") (T := F_Ve) (N := 11) hx hb hts i_Ve hown hK Y gF_62 rfl 0 (by decide) kf_Mo_125 rfl d_Mo_corrupt_43 ?_
      refine lv_iload_n hx hb d_Mo_corrupt_46 rfl (lv_at hl 0 rfl) ?_
      refine gy_iald hf hx hb hK Y 0 (fun _ => gF_63) ht0 d_Mo_corrupt_47 (fun _ hf => ?_)
      obtain ⟨x23, X23, hF23, hf⟩ := gCi_el hf
      refine gy_callI (rm := { frames := 1, cells := 0, slots := 0, locals := 12 }) (ig := .invokevirtual 128) (av := [Value.ref (b 46), Value.int (X20.I 63 (gn i1_20))]) Y (fun ws h hS hw => K_Mo_place l htr D tys z _ ws h hS t ht b X20 hw (X20.I 63 (gn i1_20)) (gR.i x23, X23) hF23) (gx_invV (As := [Value.int (X20.I 63 (gn i1_20))]) (rest := [Value.ref (b 52)]) hx hb hown hts km_Mo_128 kI_Mo_place kV_Mo_place kc_Mo_place (by decide) (show (parseMethodDescriptor y_Mo_place.desc).map (fun d => d.parameters.length) = some 1 by decide +kernel) (gy_recv (ci := 8) hK Y rfl gF_46) rfl rfl d_Mo_corrupt_48) (gx_cw (z := 0) hts kc_Mo_place kN_Mo rfl rfl ⟨Nat.le_of_ble_eq_true rfl, Nat.le_of_ble_eq_true rfl⟩) hb hml hz hK hY hAz hA hl.1 (lv_room (Nat.le_of_ble_eq_true rfl)) d_Mo_corrupt_48 ⟨Nat.zero_le _, Nat.zero_le _⟩ (fun H locs Y => ?_)
      refine gy_zald hf hx hb hK Y 1 (fun _ => gF_52) ht1 d_Mo_corrupt_51 (fun _ hf => ?_)
      refine lv_if_ne (tgt := 88) hx hb d_Mo_corrupt_52 (by decide) (fun c52_24 => ?_) (fun c52_24 => ?_)
      · replace hf := gp_f c52_24 hf
        replace hf := gU hf ho20
        exact J88 X23 _ _ _ hf (lv_sub hl [] rfl) Y
      · replace hf := gp_t c52_24 hf
        refine lv_aload_n hx hb d_Mo_corrupt_55 rfl (lv_at hl 1 rfl) ?_
        refine gy_get (ci := 8) (v := Value.ref (b 62)) (C := "CommitLedgerModel") (T := F_Mo) (N := 35) hx hb hts i_Mo hown hK Y gF_46 rfl 16 (by decide) kf_Mo_44 rfl d_Mo_corrupt_56 ?_
        refine gy_get (ci := 9) (v := Value.ref (b 64)) (C := "CommitLedgerModel$Version") (T := F_Ve) (N := 11) hx hb hts i_Ve hown hK Y gF_62 rfl 1 (by decide) kf_Mo_132 rfl d_Mo_corrupt_59 ?_
        refine lv_iload_n hx hb d_Mo_corrupt_62 rfl (lv_at hl 0 rfl) ?_
        refine gy_iald hf hx hb hK Y 0 (fun _ => gF_64) ht0 d_Mo_corrupt_63 (fun _ hf => ?_)
        refine lv_if_lt (tgt := 90) hx hb d_Mo_corrupt_64 (by decide) (fun c64_25 => ?_) (fun c64_25 => ?_)
        · replace hf := gp_t c64_25 hf
          exact J90 (X23, i1_20) _ _ _ hf (lv_sub hl [0, 1] rfl) Y
        · replace hf := gp_f c64_25 hf
          refine lv_aload_n hx hb d_Mo_corrupt_67 rfl (lv_at hl 1 rfl) ?_
          refine gy_get (ci := 8) (v := Value.ref (b 52)) (C := "CommitLedgerModel") (T := F_Mo) (N := 35) hx hb hts i_Mo hown hK Y gF_46 rfl 8 (by decide) kf_Mo_27 rfl d_Mo_corrupt_68 ?_
          refine lv_aload_n hx hb d_Mo_corrupt_71 rfl (lv_at hl 1 rfl) ?_
          refine lv_aload_n hx hb d_Mo_corrupt_72 rfl (lv_at hl 1 rfl) ?_
          refine gy_get (ci := 8) (v := Value.ref (b 62)) (C := "CommitLedgerModel") (T := F_Mo) (N := 35) hx hb hts i_Mo hown hK Y gF_46 rfl 16 (by decide) kf_Mo_44 rfl d_Mo_corrupt_73 ?_
          refine gy_get (ci := 9) (v := Value.ref (b 64)) (C := "CommitLedgerModel$Version") (T := F_Ve) (N := 11) hx hb hts i_Ve hown hK Y gF_62 rfl 1 (by decide) kf_Mo_132 rfl d_Mo_corrupt_76 ?_
          refine lv_iload_n hx hb d_Mo_corrupt_79 rfl (lv_at hl 0 rfl) ?_
          refine gy_iald hf hx hb hK Y 0 (fun _ => gF_64) ht0 d_Mo_corrupt_80 (fun _ hf => ?_)
          obtain ⟨x26, X26, hF26, hf⟩ := gCi_el hf
          refine gy_callI (rm := { frames := 1, cells := 0, slots := 0, locals := 12 }) (ig := .invokevirtual 128) (av := [Value.ref (b 46), Value.int (X23.I 64 (gn i1_20))]) Y (fun ws h hS hw => K_Mo_place l htr D tys z _ ws h hS t ht b X23 hw (X23.I 64 (gn i1_20)) (gR.i x26, X26) hF26) (gx_invV (As := [Value.int (X23.I 64 (gn i1_20))]) (rest := [Value.ref (b 52)]) hx hb hown hts km_Mo_128 kI_Mo_place kV_Mo_place kc_Mo_place (by decide) (show (parseMethodDescriptor y_Mo_place.desc).map (fun d => d.parameters.length) = some 1 by decide +kernel) (gy_recv (ci := 8) hK Y rfl gF_46) rfl rfl d_Mo_corrupt_81) (gx_cw (z := 0) hts kc_Mo_place kN_Mo rfl rfl ⟨Nat.le_of_ble_eq_true rfl, Nat.le_of_ble_eq_true rfl⟩) hb hml hz hK hY hAz hA hl.1 (lv_room (Nat.le_of_ble_eq_true rfl)) d_Mo_corrupt_81 ⟨Nat.zero_le _, Nat.zero_le _⟩ (fun H locs Y => ?_)
          refine gy_zald hf hx hb hK Y 1 (fun _ => gF_52) ht1 d_Mo_corrupt_84 (fun _ hf => ?_)
          refine lv_if_eq (tgt := 90) hx hb d_Mo_corrupt_85 (by decide) (fun c85_27 => ?_) (fun c85_27 => ?_)
          · replace hf := gp_t c85_27 hf
            exact J90 (X26, i1_20) _ _ _ hf (lv_sub hl [0, 1] rfl) Y
          · replace hf := gp_f c85_27 hf
            replace hf := gU hf ho20
            exact J88 X26 _ _ _ hf (lv_sub hl [] rfl) Y
  · replace hf := gp_f c16_19 hf
    refine lv_iconst (v := 1) hx hb d_Mo_corrupt_19 (by decide) ?_
    exact gy_zret hf hx hb hr hlocks hK Y (Nat.zero_le _) (Nat.zero_le _) rfl d_Mo_corrupt_20

def f_Mo_sync (X0 : gX) (a1 : Int32) : Option (gR × gX) := gCi (f_Mo_place X0 a1) (fun x1 X1 => (if gIn x1 60000 then (if (X1.I 51 (gn x1)) = (0 : Int32) then gCi (f_Mo_act X1) (fun x3 X3 => (if x3 = (0 : Int32) then some (gR.i 0, X3) else gCi (f_Mo_place X3 a1) (fun x5 X5 => (if gIn x5 60000 then gB (X5.w 51 (gn x5) (vp_nar .boolean 1)) (fun X6 => some (gR.i 1, X6)) else none)))) else some (gR.i 1, X1)) else none))
set_option maxHeartbeats 4000000 in
set_option maxRecDepth 100000 in
theorem K_Mo_sync (l : Launch) (htr : l.stackTraces = false) (D : va_G) (tys : List (ClassId × FieldType)) (z sz : Nat) (ws : va_W) (h : gm_M) (hM : gm_S h ws) (t : Nat → ClassId) (ht : gTy t tys) (b : Nat → Nat) (X0 : gX) (hw : gw D t b X0 h) (a1 : Int32) (o : gR × gX) (hf : f_Mo_sync X0 a1 = some o) : gx_Met l y_Mo_sync [Cond.code y_Mo_sync b_Mo_sync 2 (some .boolean)] { frames := 4, cells := 0, slots := 0, locals := 78 } (gx_P z sz D classes tys ws [Value.ref (b 46), Value.int a1]) (gx_Q D classes tys (va_A ws sz) (gPo D t b X0 o)) (0) (0) (va_A ws sz) := by
  refine gx_ofW (cc := b_Mo_sync) (maxL := 2) (ret := (some .boolean)) (by decide) rfl ?_
  intro p e s m args below meth c s₁ B hml hv
  obtain ⟨rfl, hsz, hz, hP, hK, hD0, hY⟩ := hv
  have hx := B.exec
  have hb := B.bytes
  have hr := B.returns
  have hts := hY.hts (#[Value.ref (b 46), Value.int a1] : Array Value)
  have hown : s.vm.findClass "CommitLedgerModel" = some m.cls := findClass_of_methodNamed B.named
  have hlocks := B.notSynchronized
  subst hsz
  have hAz := gx_az hD0 hz
  have hD := hD0.self (sz := s.heap.size)
  have hA : ∀ q : Nat, s.heap.size ≤ q → va_A ws s.heap.size q := fun q h => Or.inr h
  generalize va_A ws s.heap.size = A at hD hA hAz ⊢
  have Y : gy D t b A s.heap X0 X0 s.heap [] := ⟨h, ⟨ws, hM, hP, hD, va_S.rf⟩, hw, gEq.rf⟩
  clear hP hD hM hD0 hw
  obtain ⟨ht0, ht1, ht2, ht3, ht4, ht5, ht6, ht7, ht8⟩ := id ht
  have hl := lv_entry ([Value.ref (b 46), Value.int a1]) (n := 2) (Nat.le_of_ble_eq_true rfl)
  rw [lg_entry_eq]
  generalize (lg_sl ([Value.ref (b 46), Value.int a1]) ++ List.replicate (2 - (lg_sl ([Value.ref (b 46), Value.int a1])).length) Slot.unset).toArray = ls at hl ⊢
  have hl : lv_has ls 2 [(0, Value.ref (b 46)), (1, Value.int a1)] := hl
  unfold f_Mo_sync at hf
  refine lv_aload_n hx hb d_Mo_sync_0 rfl (lv_at hl 0 rfl) ?_
  refine gy_get (ci := 8) (v := Value.ref (b 51)) (C := "CommitLedgerModel") (T := F_Mo) (N := 35) hx hb hts i_Mo hown hK Y gF_46 rfl 7 (by decide) kf_Mo_23 rfl d_Mo_sync_1 ?_
  refine lv_aload_n hx hb d_Mo_sync_4 rfl (lv_at hl 0 rfl) ?_
  refine lv_iload_n hx hb d_Mo_sync_5 rfl (lv_at hl 1 rfl) ?_
  obtain ⟨x7, X7, hF7, hf⟩ := gCi_el hf
  refine gy_callI (rm := { frames := 1, cells := 0, slots := 0, locals := 12 }) (ig := .invokevirtual 128) (av := [Value.ref (b 46), Value.int a1]) Y (fun ws h hS hw => K_Mo_place l htr D tys z _ ws h hS t ht b X0 hw a1 (gR.i x7, X7) hF7) (gx_invV (As := [Value.int a1]) (rest := [Value.ref (b 51)]) hx hb hown hts km_Mo_128 kI_Mo_place kV_Mo_place kc_Mo_place (by decide) (show (parseMethodDescriptor y_Mo_place.desc).map (fun d => d.parameters.length) = some 1 by decide +kernel) (gy_recv (ci := 8) hK Y rfl gF_46) rfl rfl d_Mo_sync_6) (gx_cw (z := 0) hts kc_Mo_place kN_Mo rfl rfl ⟨Nat.le_of_ble_eq_true rfl, Nat.le_of_ble_eq_true rfl⟩) hb hml hz hK hY hAz hA hl.1 (lv_room (Nat.le_of_ble_eq_true rfl)) d_Mo_sync_6 ⟨Nat.zero_le _, Nat.zero_le _⟩ (fun H locs Y => ?_)
  refine gy_zald hf hx hb hK Y 1 (fun _ => gF_51) ht1 d_Mo_sync_9 (fun _ hf => ?_)
  refine lv_if_eq (tgt := 15) hx hb d_Mo_sync_10 (by decide) (fun c10_8 => ?_) (fun c10_8 => ?_)
  · replace hf := gp_t c10_8 hf
    refine lv_aload_n hx hb d_Mo_sync_15 rfl (lv_at hl 0 rfl) ?_
    obtain ⟨x9, X9, hF9, hf⟩ := gCi_el hf
    refine gy_callI (rm := { frames := 3, cells := 0, slots := 0, locals := 58 }) (ig := .invokevirtual 115) (av := [Value.ref (b 46)]) Y (fun ws h hS hw => K_Mo_act l htr D tys z _ ws h hS t ht b X7 hw (gR.i x9, X9) hF9) (gx_invV (As := []) (rest := []) hx hb hown hts km_Mo_115 kI_Mo_act kV_Mo_act kc_Mo_act (by decide) (show (parseMethodDescriptor y_Mo_act.desc).map (fun d => d.parameters.length) = some 0 by decide +kernel) (gy_recv (ci := 8) hK Y rfl gF_46) rfl rfl d_Mo_sync_16) (gx_cw (z := 0) hts kc_Mo_act kN_Mo rfl rfl ⟨Nat.le_of_ble_eq_true rfl, Nat.le_of_ble_eq_true rfl⟩) hb hml hz hK hY hAz hA hl.1 (lv_room (Nat.le_of_ble_eq_true rfl)) d_Mo_sync_16 ⟨Nat.zero_le _, Nat.zero_le _⟩ (fun H locs Y => ?_)
    refine lv_if_ne (tgt := 24) hx hb d_Mo_sync_19 (by decide) (fun c19_10 => ?_) (fun c19_10 => ?_)
    · replace hf := gp_f c19_10 hf
      refine lv_aload_n hx hb d_Mo_sync_24 rfl (lv_at hl 0 rfl) ?_
      refine gy_get (ci := 8) (v := Value.ref (b 51)) (C := "CommitLedgerModel") (T := F_Mo) (N := 35) hx hb hts i_Mo hown hK Y gF_46 rfl 7 (by decide) kf_Mo_23 rfl d_Mo_sync_25 ?_
      refine lv_aload_n hx hb d_Mo_sync_28 rfl (lv_at hl 0 rfl) ?_
      refine lv_iload_n hx hb d_Mo_sync_29 rfl (lv_at hl 1 rfl) ?_
      obtain ⟨x11, X11, hF11, hf⟩ := gCi_el hf
      refine gy_callI (rm := { frames := 1, cells := 0, slots := 0, locals := 12 }) (ig := .invokevirtual 128) (av := [Value.ref (b 46), Value.int a1]) Y (fun ws h hS hw => K_Mo_place l htr D tys z _ ws h hS t ht b X9 hw a1 (gR.i x11, X11) hF11) (gx_invV (As := [Value.int a1]) (rest := [Value.ref (b 51)]) hx hb hown hts km_Mo_128 kI_Mo_place kV_Mo_place kc_Mo_place (by decide) (show (parseMethodDescriptor y_Mo_place.desc).map (fun d => d.parameters.length) = some 1 by decide +kernel) (gy_recv (ci := 8) hK Y rfl gF_46) rfl rfl d_Mo_sync_30) (gx_cw (z := 0) hts kc_Mo_place kN_Mo rfl rfl ⟨Nat.le_of_ble_eq_true rfl, Nat.le_of_ble_eq_true rfl⟩) hb hml hz hK hY hAz hA hl.1 (lv_room (Nat.le_of_ble_eq_true rfl)) d_Mo_sync_30 ⟨Nat.zero_le _, Nat.zero_le _⟩ (fun H locs Y => ?_)
      refine lv_iconst (v := 1) hx hb d_Mo_sync_33 (by decide) ?_
      refine gy_zast hf hx hb hK Y 1 (fun _ => gF_51) ht1 d_Mo_sync_34 (fun X12 H locs hf Y => ?_)
      refine lv_iconst (v := 1) hx hb d_Mo_sync_35 (by decide) ?_
      exact gy_zret hf hx hb hr hlocks hK Y (Nat.zero_le _) (Nat.zero_le _) rfl d_Mo_sync_36
    · replace hf := gp_t c19_10 hf
      refine lv_iconst (v := 0) hx hb d_Mo_sync_22 (by decide) ?_
      exact gy_zret hf hx hb hr hlocks hK Y (Nat.zero_le _) (Nat.zero_le _) rfl d_Mo_sync_23
  · replace hf := gp_f c10_8 hf
    refine lv_iconst (v := 1) hx hb d_Mo_sync_13 (by decide) ?_
    exact gy_zret hf hx hb hr hlocks hK Y (Nat.zero_le _) (Nat.zero_le _) rfl d_Mo_sync_14
