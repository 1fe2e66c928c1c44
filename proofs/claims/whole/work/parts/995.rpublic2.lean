/-! THE THIRD LAYER, the reference: its calls (second): programs of numbers and the proof that the machine does what they say; printed by an own text program -/
def f_Mo_harm_98 (X : gX) : Option (gR × gX) := gCi (f_Mo_done X 0 123) (fun x4 X4 => some (gR.v, X4))
def f_Mo_harm_62 (X : gX) (i1 : Int32) (i1000 : Int32) : Option (gR × gX) := gCi (f_Mo_wrong X i1000 3) (fun x10 X10 => (if x10 = (0 : Int32) then gCi (f_Mo_place X10 i1) (fun x12 X12 => (if gIn x12 60000 then gCi (f_Mo_wrong X12 (X12.I 52 (gn x12)) 2) (fun x13 X13 => (if x13 = (0 : Int32) then gCi (f_Mo_place X13 i1) (fun x15 X15 => (if gIn x15 60000 then gB (X15.w 52 (gn x15) (vp_nar .boolean 1)) (fun X16 => f_Mo_harm_98 X16) else none)) else f_Mo_harm_98 X13)) else none)) else f_Mo_harm_98 X10))
def f_Mo_harm_41 (X : gX) (i1 : Int32) (i1000 : Int32) : Option (gR × gX) := gCi (f_Mo_wrong X i1000 2) (fun x6 X6 => (if x6 = (0 : Int32) then gCi (f_Mo_place X6 i1) (fun x8 X8 => (if (0 : Int32) ≤ x8 then f_Mo_harm_62 X8 i1 0 else f_Mo_harm_62 X8 i1 1)) else f_Mo_harm_98 X6))
def f_Mo_harm_36 (X : gX) (i1 : Int32) : Option (gR × gX) := f_Mo_harm_41 X i1 1
def f_Mo_harm_14 (X : gX) (i1 : Int32) (i1000 : Int32) : Option (gR × gX) := gCi (f_Mo_wrong X i1000 1) (fun x2 X2 => (if x2 = (0 : Int32) then (if (X2.I 46 18) = (0 : Int32) then gCi (f_Mo_anyReader X2) (fun x17 X17 => (if x17 = (0 : Int32) then f_Mo_harm_41 X17 i1 0 else f_Mo_harm_36 X17 i1)) else f_Mo_harm_36 X2 i1) else f_Mo_harm_98 X2))
def f_Mo_harm_9 (X : gX) (i1 : Int32) : Option (gR × gX) := f_Mo_harm_14 X i1 1
def f_Mo_harm (X0 : gX) (a1 : Int32) (a2 : Int32) : Option (gR × gX) := (if a1 < (0 : Int32) then f_Mo_harm_9 X0 a1 else (if (0 : Int32) ≤ a2 then f_Mo_harm_14 X0 a1 0 else f_Mo_harm_9 X0 a1))
set_option maxHeartbeats 4000000 in
set_option maxRecDepth 100000 in
theorem K_Mo_harm (l : Launch) (htr : l.stackTraces = false) (D : va_G) (tys : List (ClassId × FieldType)) (z sz : Nat) (ws : va_W) (h : gm_M) (hM : gm_S h ws) (t : Nat → ClassId) (ht : gTy t tys) (b : Nat → Nat) (X0 : gX) (hw : gw D t b X0 h) (a1 : Int32) (a2 : Int32) (o : gR × gX) (hf : f_Mo_harm X0 a1 a2 = some o) : gx_Met l y_Mo_harm [Cond.code y_Mo_harm b_Mo_harm 4 none] { frames := 2, cells := 0, slots := 0, locals := 37 } (gx_P z sz D classes tys ws [Value.ref (b 46), Value.int a1, Value.int a2]) (gx_Q D classes tys (va_A ws sz) (gPo D t b X0 o)) (0) (0) (va_A ws sz) := by
  refine gx_ofW (cc := b_Mo_harm) (maxL := 4) (ret := none) (by decide) rfl ?_
  intro p e s m args below meth c s₁ B hml hv
  obtain ⟨rfl, hsz, hz, hP, hK, hD0, hY⟩ := hv
  have hx := B.exec
  have hb := B.bytes
  have hr := B.returns
  have hts := hY.hts (#[Value.ref (b 46), Value.int a1, Value.int a2] : Array Value)
  have hown : s.vm.findClass "CommitLedgerModel" = some m.cls := findClass_of_methodNamed B.named
  have hlocks := B.notSynchronized
  subst hsz
  have hAz := gx_az hD0 hz
  have hD := hD0.self (sz := s.heap.size)
  have hA : ∀ q : Nat, s.heap.size ≤ q → va_A ws s.heap.size q := fun q h => Or.inr h
  generalize va_A ws s.heap.size = A at hD hA hAz ⊢
  have Y : gy D t b A s.heap X0 X0 s.heap [] := ⟨h, ⟨ws, hM, hP, hD, va_S.rf⟩, hw, gEq.rf⟩
  clear hP hD hM hD0 hw
  obtain ⟨ht0, ht1, ht2, ht3, ht4, ht5, ht6, ht7, ht8⟩ := id ht
  have hl := lv_entry ([Value.ref (b 46), Value.int a1, Value.int a2]) (n := 4) (Nat.le_of_ble_eq_true rfl)
  rw [lg_entry_eq]
  generalize (lg_sl ([Value.ref (b 46), Value.int a1, Value.int a2]) ++ List.replicate (4 - (lg_sl ([Value.ref (b 46), Value.int a1, Value.int a2])).length) Slot.unset).toArray = ls at hl ⊢
  have hl : lv_has ls 4 [(0, Value.ref (b 46)), (1, Value.int a1), (2, Value.int a2)] := hl
  refine gy_cut (pcJ := 98) Y (fun s : gX => f_Mo_harm_98 s) o (fun s => s) (fun s ls => lv_has ls 4 [(0, Value.ref (b 46))]) (fun s => []) ?_ (fun J98 => ?_)
  · rintro X20 H locs ls hf hl Y
    have hl : lv_has ls 4 [(0, Value.ref (b 46))] := hl
    have Y : gy D t b A s.heap X0 X20 H locs := Y
    have hf : f_Mo_harm_98 X20 = some o := hf
    unfold f_Mo_harm_98 at hf
    refine lv_aload_n hx hb d_Mo_harm_98 rfl (lv_at hl 0 rfl) ?_
    refine lv_iconst (v := 0) hx hb d_Mo_harm_99 (by decide) ?_
    refine lv_bipush (v := 123) hx hb d_Mo_harm_100 (by decide) ?_
    obtain ⟨x21, X21, hF21, hf⟩ := gCi_el hf
    refine gy_callI (rm := { frames := 1, cells := 0, slots := 0, locals := 12 }) (ig := .invokevirtual 148) (av := [Value.ref (b 46), Value.int 0, Value.int 123]) Y (fun ws h hS hw => K_Mo_done l htr D tys z _ ws h hS t ht b X20 hw 0 123 (gR.i x21, X21) hF21) (gx_invV (As := [Value.int 0, Value.int 123]) (rest := []) hx hb hown hts km_Mo_148 kI_Mo_done kV_Mo_done kc_Mo_done (by decide) (show (parseMethodDescriptor y_Mo_done.desc).map (fun d => d.parameters.length) = some 2 by decide +kernel) (gy_recv (ci := 8) hK Y rfl gF_46) rfl rfl d_Mo_harm_102) (gx_cw (z := 0) hts kc_Mo_done kN_Mo rfl rfl ⟨Nat.le_of_ble_eq_true rfl, Nat.le_of_ble_eq_true rfl⟩) hb hml hz hK hY hAz hA hl.1 (lv_room (Nat.le_of_ble_eq_true rfl)) d_Mo_harm_102 ⟨Nat.zero_le _, Nat.zero_le _⟩ (fun H locs Y => ?_)
    refine lv_istore_n (lv' := [(3, Value.int x21), (0, Value.ref (b 46))]) hx hb d_Mo_harm_105 rfl hl (by decide) rfl (fun ls hl => ?_)
    exact gy_vret hf hx hb hr hlocks hK Y (Nat.zero_le _) (Nat.zero_le _) d_Mo_harm_106
  refine gy_cut (pcJ := 62) Y (fun s : gX × Int32 => f_Mo_harm_62 s.1 a1 s.2) o (fun s => s.1) (fun s ls => lv_has ls 4 [(0, Value.ref (b 46)), (1, Value.int a1)]) (fun s => [Value.int s.2, Value.ref (b 46)]) ?_ (fun J62 => ?_)
  · rintro ⟨X22, i1000_22⟩ H locs ls hf hl Y
    have hl : lv_has ls 4 [(0, Value.ref (b 46)), (1, Value.int a1)] := hl
    have Y : gy D t b A s.heap X0 X22 H locs := Y
    have hf : f_Mo_harm_62 X22 a1 i1000_22 = some o := hf
    unfold f_Mo_harm_62 at hf
    refine W.eq (g2 := F0 m 62 ls [Value.int i1000_22, Value.ref (b 46)]) rfl ?_
    refine lv_iconst (v := 3) hx hb d_Mo_harm_62 (by decide) ?_
    obtain ⟨x23, X23, hF23, hf⟩ := gCi_el hf
    refine gy_callI (rm := { frames := 1, cells := 0, slots := 0, locals := 12 }) (ig := .invokevirtual 152) (av := [Value.ref (b 46), Value.int i1000_22, Value.int 3]) Y (fun ws h hS hw => K_Mo_wrong l htr D tys z _ ws h hS t ht b X22 hw i1000_22 3 (gR.i x23, X23) hF23) (gx_invV (As := [Value.int i1000_22, Value.int 3]) (rest := []) hx hb hown hts km_Mo_152 kI_Mo_wrong kV_Mo_wrong kc_Mo_wrong (by decide) (show (parseMethodDescriptor y_Mo_wrong.desc).map (fun d => d.parameters.length) = some 2 by decide +kernel) (gy_recv (ci := 8) hK Y rfl gF_46) rfl rfl d_Mo_harm_63) (gx_cw (z := 0) hts kc_Mo_wrong kN_Mo rfl rfl ⟨Nat.le_of_ble_eq_true rfl, Nat.le_of_ble_eq_true rfl⟩) hb hml hz hK hY hAz hA hl.1 (lv_room (Nat.le_of_ble_eq_true rfl)) d_Mo_harm_63 ⟨Nat.zero_le _, Nat.zero_le _⟩ (fun H locs Y => ?_)
    refine lv_if_ne (tgt := 98) hx hb d_Mo_harm_66 (by decide) (fun c66_24 => ?_) (fun c66_24 => ?_)
    · replace hf := gp_f c66_24 hf
      exact J98 X23 _ _ _ hf (lv_sub hl [0] rfl) Y
    · replace hf := gp_t c66_24 hf
      refine lv_aload_n hx hb d_Mo_harm_69 rfl (lv_at hl 0 rfl) ?_
      refine lv_aload_n hx hb d_Mo_harm_70 rfl (lv_at hl 0 rfl) ?_
      refine gy_get (ci := 8) (v := Value.ref (b 52)) (C := "CommitLedgerModel") (T := F_Mo) (N := 35) hx hb hts i_Mo hown hK Y gF_46 rfl 8 (by decide) kf_Mo_27 rfl d_Mo_harm_71 ?_
      refine lv_aload_n hx hb d_Mo_harm_74 rfl (lv_at hl 0 rfl) ?_
      refine lv_iload_n hx hb d_Mo_harm_75 rfl (lv_at hl 1 rfl) ?_
      obtain ⟨x25, X25, hF25, hf⟩ := gCi_el hf
      refine gy_callI (rm := { frames := 1, cells := 0, slots := 0, locals := 12 }) (ig := .invokevirtual 128) (av := [Value.ref (b 46), Value.int a1]) Y (fun ws h hS hw => K_Mo_place l htr D tys z _ ws h hS t ht b X23 hw a1 (gR.i x25, X25) hF25) (gx_invV (As := [Value.int a1]) (rest := [Value.ref (b 52), Value.ref (b 46)]) hx hb hown hts km_Mo_128 kI_Mo_place kV_Mo_place kc_Mo_place (by decide) (show (parseMethodDescriptor y_Mo_place.desc).map (fun d => d.parameters.length) = some 1 by decide +kernel) (gy_recv (ci := 8) hK Y rfl gF_46) rfl rfl d_Mo_harm_76) (gx_cw (z := 0) hts kc_Mo_place kN_Mo rfl rfl ⟨Nat.le_of_ble_eq_true rfl, Nat.le_of_ble_eq_true rfl⟩) hb hml hz hK hY hAz hA hl.1 (lv_room (Nat.le_of_ble_eq_true rfl)) d_Mo_harm_76 ⟨Nat.zero_le _, Nat.zero_le _⟩ (fun H locs Y => ?_)
      refine gy_zald hf hx hb hK Y 1 (fun _ => gF_52) ht1 d_Mo_harm_79 (fun _ hf => ?_)
      refine lv_iconst (v := 2) hx hb d_Mo_harm_80 (by decide) ?_
      obtain ⟨x26, X26, hF26, hf⟩ := gCi_el hf
      refine gy_callI (rm := { frames := 1, cells := 0, slots := 0, locals := 12 }) (ig := .invokevirtual 152) (av := [Value.ref (b 46), Value.int (X25.I 52 (gn x25)), Value.int 2]) Y (fun ws h hS hw => K_Mo_wrong l htr D tys z _ ws h hS t ht b X25 hw (X25.I 52 (gn x25)) 2 (gR.i x26, X26) hF26) (gx_invV (As := [Value.int (X25.I 52 (gn x25)), Value.int 2]) (rest := []) hx hb hown hts km_Mo_152 kI_Mo_wrong kV_Mo_wrong kc_Mo_wrong (by decide) (show (parseMethodDescriptor y_Mo_wrong.desc).map (fun d => d.parameters.length) = some 2 by decide +kernel) (gy_recv (ci := 8) hK Y rfl gF_46) rfl rfl d_Mo_harm_81) (gx_cw (z := 0) hts kc_Mo_wrong kN_Mo rfl rfl ⟨Nat.le_of_ble_eq_true rfl, Nat.le_of_ble_eq_true rfl⟩) hb hml hz hK hY hAz hA hl.1 (lv_room (Nat.le_of_ble_eq_true rfl)) d_Mo_harm_81 ⟨Nat.zero_le _, Nat.zero_le _⟩ (fun H locs Y => ?_)
      refine lv_if_ne (tgt := 98) hx hb d_Mo_harm_84 (by decide) (fun c84_27 => ?_) (fun c84_27 => ?_)
      · replace hf := gp_f c84_27 hf
        exact J98 X26 _ _ _ hf (lv_sub hl [0] rfl) Y
      · replace hf := gp_t c84_27 hf
        refine lv_aload_n hx hb d_Mo_harm_87 rfl (lv_at hl 0 rfl) ?_
        refine gy_get (ci := 8) (v := Value.ref (b 52)) (C := "CommitLedgerModel") (T := F_Mo) (N := 35) hx hb hts i_Mo hown hK Y gF_46 rfl 8 (by decide) kf_Mo_27 rfl d_Mo_harm_88 ?_
        refine lv_aload_n hx hb d_Mo_harm_91 rfl (lv_at hl 0 rfl) ?_
        refine lv_iload_n hx hb d_Mo_harm_92 rfl (lv_at hl 1 rfl) ?_
        obtain ⟨x28, X28, hF28, hf⟩ := gCi_el hf
        refine gy_callI (rm := { frames := 1, cells := 0, slots := 0, locals := 12 }) (ig := .invokevirtual 128) (av := [Value.ref (b 46), Value.int a1]) Y (fun ws h hS hw => K_Mo_place l htr D tys z _ ws h hS t ht b X26 hw a1 (gR.i x28, X28) hF28) (gx_invV (As := [Value.int a1]) (rest := [Value.ref (b 52)]) hx hb hown hts km_Mo_128 kI_Mo_place kV_Mo_place kc_Mo_place (by decide) (show (parseMethodDescriptor y_Mo_place.desc).map (fun d => d.parameters.length) = some 1 by decide +kernel) (gy_recv (ci := 8) hK Y rfl gF_46) rfl rfl d_Mo_harm_93) (gx_cw (z := 0) hts kc_Mo_place kN_Mo rfl rfl ⟨Nat.le_of_ble_eq_true rfl, Nat.le_of_ble_eq_true rfl⟩) hb hml hz hK hY hAz hA hl.1 (lv_room (Nat.le_of_ble_eq_true rfl)) d_Mo_harm_93 ⟨Nat.zero_le _, Nat.zero_le _⟩ (fun H locs Y => ?_)
        refine lv_iconst (v := 1) hx hb d_Mo_harm_96 (by decide) ?_
        refine gy_zast hf hx hb hK Y 1 (fun _ => gF_52) ht1 d_Mo_harm_97 (fun X29 H locs hf Y => ?_)
        exact J98 X29 _ _ _ hf (lv_sub hl [0] rfl) Y
  refine gy_cut (pcJ := 41) Y (fun s : gX × Int32 => f_Mo_harm_41 s.1 a1 s.2) o (fun s => s.1) (fun s ls => lv_has ls 4 [(0, Value.ref (b 46)), (1, Value.int a1)]) (fun s => [Value.int s.2, Value.ref (b 46)]) ?_ (fun J41 => ?_)
  · rintro ⟨X30, i1000_30⟩ H locs ls hf hl Y
    have hl : lv_has ls 4 [(0, Value.ref (b 46)), (1, Value.int a1)] := hl
    have Y : gy D t b A s.heap X0 X30 H locs := Y
    have hf : f_Mo_harm_41 X30 a1 i1000_30 = some o := hf
    unfold f_Mo_harm_41 at hf
    refine W.eq (g2 := F0 m 41 ls [Value.int i1000_30, Value.ref (b 46)]) rfl ?_
    refine lv_iconst (v := 2) hx hb d_Mo_harm_41 (by decide) ?_
    obtain ⟨x31, X31, hF31, hf⟩ := gCi_el hf
    refine gy_callI (rm := { frames := 1, cells := 0, slots := 0, locals := 12 }) (ig := .invokevirtual 152) (av := [Value.ref (b 46), Value.int i1000_30, Value.int 2]) Y (fun ws h hS hw => K_Mo_wrong l htr D tys z _ ws h hS t ht b X30 hw i1000_30 2 (gR.i x31, X31) hF31) (gx_invV (As := [Value.int i1000_30, Value.int 2]) (rest := []) hx hb hown hts km_Mo_152 kI_Mo_wrong kV_Mo_wrong kc_Mo_wrong (by decide) (show (parseMethodDescriptor y_Mo_wrong.desc).map (fun d => d.parameters.length) = some 2 by decide +kernel) (gy_recv (ci := 8) hK Y rfl gF_46) rfl rfl d_Mo_harm_42) (gx_cw (z := 0) hts kc_Mo_wrong kN_Mo rfl rfl ⟨Nat.le_of_ble_eq_true rfl, Nat.le_of_ble_eq_true rfl⟩) hb hml hz hK hY hAz hA hl.1 (lv_room (Nat.le_of_ble_eq_true rfl)) d_Mo_harm_42 ⟨Nat.zero_le _, Nat.zero_le _⟩ (fun H locs Y => ?_)
    refine lv_if_ne (tgt := 98) hx hb d_Mo_harm_45 (by decide) (fun c45_32 => ?_) (fun c45_32 => ?_)
    · replace hf := gp_f c45_32 hf
      exact J98 X31 _ _ _ hf (lv_sub hl [0] rfl) Y
    · replace hf := gp_t c45_32 hf
      refine lv_aload_n hx hb d_Mo_harm_48 rfl (lv_at hl 0 rfl) ?_
      refine lv_aload_n hx hb d_Mo_harm_49 rfl (lv_at hl 0 rfl) ?_
      refine lv_iload_n hx hb d_Mo_harm_50 rfl (lv_at hl 1 rfl) ?_
      obtain ⟨x33, X33, hF33, hf⟩ := gCi_el hf
      refine gy_callI (rm := { frames := 1, cells := 0, slots := 0, locals := 12 }) (ig := .invokevirtual 128) (av := [Value.ref (b 46), Value.int a1]) Y (fun ws h hS hw => K_Mo_place l htr D tys z _ ws h hS t ht b X31 hw a1 (gR.i x33, X33) hF33) (gx_invV (As := [Value.int a1]) (rest := [Value.ref (b 46)]) hx hb hown hts km_Mo_128 kI_Mo_place kV_Mo_place kc_Mo_place (by decide) (show (parseMethodDescriptor y_Mo_place.desc).map (fun d => d.parameters.length) = some 1 by decide +kernel) (gy_recv (ci := 8) hK Y rfl gF_46) rfl rfl d_Mo_harm_51) (gx_cw (z := 0) hts kc_Mo_place kN_Mo rfl rfl ⟨Nat.le_of_ble_eq_true rfl, Nat.le_of_ble_eq_true rfl⟩) hb hml hz hK hY hAz hA hl.1 (lv_room (Nat.le_of_ble_eq_true rfl)) d_Mo_harm_51 ⟨Nat.zero_le _, Nat.zero_le _⟩ (fun H locs Y => ?_)
      refine lv_if_ge (tgt := 61) hx hb d_Mo_harm_54 (by decide) (fun c54_34 => ?_) (fun c54_34 => ?_)
      · replace hf := gp_t c54_34 hf
        refine lv_iconst (v := 0) hx hb d_Mo_harm_61 (by decide) ?_
        exact J62 (X33, 0) _ _ _ hf (lv_sub hl [0, 1] rfl) Y
      · replace hf := gp_f c54_34 hf
        refine lv_iconst (v := 1) hx hb d_Mo_harm_57 (by decide) ?_
        refine lv_goto (tgt := 62) hx hb d_Mo_harm_58 (by decide) ?_
        exact J62 (X33, 1) _ _ _ hf (lv_sub hl [0, 1] rfl) Y
  refine gy_cut (pcJ := 36) Y (fun s : gX => f_Mo_harm_36 s a1) o (fun s => s) (fun s ls => lv_has ls 4 [(0, Value.ref (b 46)), (1, Value.int a1)]) (fun s => [Value.ref (b 46)]) ?_ (fun J36 => ?_)
  · rintro X35 H locs ls hf hl Y
    have hl : lv_has ls 4 [(0, Value.ref (b 46)), (1, Value.int a1)] := hl
    have Y : gy D t b A s.heap X0 X35 H locs := Y
    have hf : f_Mo_harm_36 X35 a1 = some o := hf
    unfold f_Mo_harm_36 at hf
    refine W.eq (g2 := F0 m 36 ls [Value.ref (b 46)]) rfl ?_
    refine lv_iconst (v := 1) hx hb d_Mo_harm_36 (by decide) ?_
    refine lv_goto (tgt := 41) hx hb d_Mo_harm_37 (by decide) ?_
    exact J41 (X35, 1) _ _ _ hf (lv_sub hl [0, 1] rfl) Y
  refine gy_cut (pcJ := 14) Y (fun s : gX × Int32 => f_Mo_harm_14 s.1 a1 s.2) o (fun s => s.1) (fun s ls => lv_has ls 4 [(0, Value.ref (b 46)), (1, Value.int a1)]) (fun s => [Value.int s.2, Value.ref (b 46)]) ?_ (fun J14 => ?_)
  · rintro ⟨X36, i1000_36⟩ H locs ls hf hl Y
    have hl : lv_has ls 4 [(0, Value.ref (b 46)), (1, Value.int a1)] := hl
    have Y : gy D t b A s.heap X0 X36 H locs := Y
    have hf : f_Mo_harm_14 X36 a1 i1000_36 = some o := hf
    unfold f_Mo_harm_14 at hf
    refine W.eq (g2 := F0 m 14 ls [Value.int i1000_36, Value.ref (b 46)]) rfl ?_
    refine lv_iconst (v := 1) hx hb d_Mo_harm_14 (by decide) ?_
    obtain ⟨x37, X37, hF37, hf⟩ := gCi_el hf
    refine gy_callI (rm := { frames := 1, cells := 0, slots := 0, locals := 12 }) (ig := .invokevirtual 152) (av := [Value.ref (b 46), Value.int i1000_36, Value.int 1]) Y (fun ws h hS hw => K_Mo_wrong l htr D tys z _ ws h hS t ht b X36 hw i1000_36 1 (gR.i x37, X37) hF37) (gx_invV (As := [Value.int i1000_36, Value.int 1]) (rest := []) hx hb hown hts km_Mo_152 kI_Mo_wrong kV_Mo_wrong kc_Mo_wrong (by decide) (show (parseMethodDescriptor y_Mo_wrong.desc).map (fun d => d.parameters.length) = some 2 by decide +kernel) (gy_recv (ci := 8) hK Y rfl gF_46) rfl rfl d_Mo_harm_15) (gx_cw (z := 0) hts kc_Mo_wrong kN_Mo rfl rfl ⟨Nat.le_of_ble_eq_true rfl, Nat.le_of_ble_eq_true rfl⟩) hb hml hz hK hY hAz hA hl.1 (lv_room (Nat.le_of_ble_eq_true rfl)) d_Mo_harm_15 ⟨Nat.zero_le _, Nat.zero_le _⟩ (fun H locs Y => ?_)
    refine lv_if_ne (tgt := 98) hx hb d_Mo_harm_18 (by decide) (fun c18_38 => ?_) (fun c18_38 => ?_)
    · replace hf := gp_f c18_38 hf
      exact J98 X37 _ _ _ hf (lv_sub hl [0] rfl) Y
    · replace hf := gp_t c18_38 hf
      refine lv_aload_n hx hb d_Mo_harm_21 rfl (lv_at hl 0 rfl) ?_
      refine lv_aload_n hx hb d_Mo_harm_22 rfl (lv_at hl 0 rfl) ?_
      refine gy_get (ci := 8) (v := Value.int (X37.I 46 18)) (C := "CommitLedgerModel") (T := F_Mo) (N := 35) hx hb hts i_Mo hown hK Y gF_46 rfl 18 (by decide) kf_Mo_99 rfl d_Mo_harm_23 ?_
      refine lv_if_ne (tgt := 36) hx hb d_Mo_harm_26 (by decide) (fun c26_39 => ?_) (fun c26_39 => ?_)
      · replace hf := gp_f c26_39 hf
        exact J36 X37 _ _ _ hf (lv_sub hl [0, 1] rfl) Y
      · replace hf := gp_t c26_39 hf
        refine lv_aload_n hx hb d_Mo_harm_29 rfl (lv_at hl 0 rfl) ?_
        obtain ⟨x40, X40, hF40, hf⟩ := gCi_el hf
        refine gy_callI (rm := { frames := 1, cells := 0, slots := 0, locals := 12 }) (ig := .invokevirtual 250) (av := [Value.ref (b 46)]) Y (fun ws h hS hw => K_Mo_anyReader l htr D tys z _ ws h hS t ht b X37 hw (gR.i x40, X40) hF40) (gx_invV (As := []) (rest := [Value.ref (b 46)]) hx hb hown hts km_Mo_250 kI_Mo_anyReader kV_Mo_anyReader kc_Mo_anyReader (by decide) (show (parseMethodDescriptor y_Mo_anyReader.desc).map (fun d => d.parameters.length) = some 0 by decide +kernel) (gy_recv (ci := 8) hK Y rfl gF_46) rfl rfl d_Mo_harm_30) (gx_cw (z := 0) hts kc_Mo_anyReader kN_Mo rfl rfl ⟨Nat.le_of_ble_eq_true rfl, Nat.le_of_ble_eq_true rfl⟩) hb hml hz hK hY hAz hA hl.1 (lv_room (Nat.le_of_ble_eq_true rfl)) d_Mo_harm_30 ⟨Nat.zero_le _, Nat.zero_le _⟩ (fun H locs Y => ?_)
        refine lv_if_eq (tgt := 40) hx hb d_Mo_harm_33 (by decide) (fun c33_41 => ?_) (fun c33_41 => ?_)
        · replace hf := gp_t c33_41 hf
          refine lv_iconst (v := 0) hx hb d_Mo_harm_40 (by decide) ?_
          exact J41 (X40, 0) _ _ _ hf (lv_sub hl [0, 1] rfl) Y
        · replace hf := gp_f c33_41 hf
          exact J36 X40 _ _ _ hf (lv_sub hl [0, 1] rfl) Y
  refine gy_cut (pcJ := 9) Y (fun s : gX => f_Mo_harm_9 s a1) o (fun s => s) (fun s ls => lv_has ls 4 [(0, Value.ref (b 46)), (1, Value.int a1)]) (fun s => [Value.ref (b 46)]) ?_ (fun J9 => ?_)
  · rintro X42 H locs ls hf hl Y
    have hl : lv_has ls 4 [(0, Value.ref (b 46)), (1, Value.int a1)] := hl
    have Y : gy D t b A s.heap X0 X42 H locs := Y
    have hf : f_Mo_harm_9 X42 a1 = some o := hf
    unfold f_Mo_harm_9 at hf
    refine W.eq (g2 := F0 m 9 ls [Value.ref (b 46)]) rfl ?_
    refine lv_iconst (v := 1) hx hb d_Mo_harm_9 (by decide) ?_
    refine lv_goto (tgt := 14) hx hb d_Mo_harm_10 (by decide) ?_
    exact J14 (X42, 1) _ _ _ hf (lv_sub hl [0, 1] rfl) Y
  unfold f_Mo_harm at hf
  refine lv_aload_n hx hb d_Mo_harm_0 rfl (lv_at hl 0 rfl) ?_
  refine lv_iload_n hx hb d_Mo_harm_1 rfl (lv_at hl 1 rfl) ?_
  refine lv_if_lt (tgt := 9) hx hb d_Mo_harm_2 (by decide) (fun c2_43 => ?_) (fun c2_43 => ?_)
  · replace hf := gp_t c2_43 hf
    exact J9 X0 _ _ _ hf (lv_sub hl [0, 1] rfl) Y
  · replace hf := gp_f c2_43 hf
    refine lv_iload_n hx hb d_Mo_harm_5 rfl (lv_at hl 2 rfl) ?_
    refine lv_if_ge (tgt := 13) hx hb d_Mo_harm_6 (by decide) (fun c6_44 => ?_) (fun c6_44 => ?_)
    · replace hf := gp_t c6_44 hf
      refine lv_iconst (v := 0) hx hb d_Mo_harm_13 (by decide) ?_
      exact J14 (X0, 0) _ _ _ hf (lv_sub hl [0, 1] rfl) Y
    · replace hf := gp_f c6_44 hf
      exact J9 X0 _ _ _ hf (lv_sub hl [0, 1] rfl) Y

def f_Mo_reader_187 (X : gX) (i2 : Int32) (n1000 : Nat) (n1001 : Nat) : Option (gR × gX) := gCv (f_Ve_copy X n1001 n1000) (fun X22 => gB (X22.w 46 32 ((X22.I 46 32) + 1)) (fun X23 => (if gIn i2 4 then gB (X23.w (84 + 8 * gn i2) 10 (X23.I 46 32)) (fun X25 => gCi (f_Mo_finished X25 (X25.I 46 32) 123456) (fun x26 X26 => some (gR.i x26, X26))) else none)))
def f_Mo_reader_166 (X : gX) (i1 : Int32) (i2 : Int32) : Option (gR × gX) := (if gIn i2 4 then (if i1 = (0 : Int32) then f_Mo_reader_187 X i2 62 (84 + 8 * gn i2) else f_Mo_reader_187 X i2 54 (84 + 8 * gn i2)) else none)
def f_Mo_reader_138 (X : gX) : Option (gR × gX) := gCi (f_Mo_done X 0 123456) (fun x6 X6 => some (gR.i x6, X6))
def f_Mo_reader_131 (X : gX) (i1 : Int32) (i2 : Int32) (i1000 : Int32) : Option (gR × gX) := gCi (f_Mo_wrong X i1000 4) (fun x17 X17 => (if x17 = (0 : Int32) then (if i1 = (1 : Int32) then gCi (f_Mo_flushing X17) (fun x27 X27 => (if x27 = (0 : Int32) then gCi (f_Mo_finished X27 0 123456) (fun x29 X29 => some (gR.i x29, X29)) else f_Mo_reader_166 X27 i1 i2)) else f_Mo_reader_166 X17 i1 i2) else f_Mo_reader_138 X17))
def f_Mo_reader_130 (X : gX) (i1 : Int32) (i2 : Int32) : Option (gR × gX) := f_Mo_reader_131 X i1 i2 0
def f_Mo_reader_107 (X : gX) (i1 : Int32) (i2 : Int32) (i1000 : Int32) : Option (gR × gX) := gCi (f_Mo_wrong X i1000 3) (fun x14 X14 => (if x14 = (0 : Int32) then (if i1 = (0 : Int32) then gCi (f_Mo_corrupt X14) (fun x30 X30 => (if x30 = (0 : Int32) then f_Mo_reader_130 X30 i1 i2 else f_Mo_reader_131 X30 i1 i2 1)) else f_Mo_reader_130 X14 i1 i2) else f_Mo_reader_138 X14))
def f_Mo_reader_106 (X : gX) (i1 : Int32) (i2 : Int32) : Option (gR × gX) := f_Mo_reader_107 X i1 i2 0
def f_Mo_reader_83 (X : gX) (i1 : Int32) (i2 : Int32) (i1000 : Int32) : Option (gR × gX) := gCi (f_Mo_wrong X i1000 5) (fun x11 X11 => (if x11 = (0 : Int32) then (if i1 = (0 : Int32) then (if (X11.I 46 20) = (0 : Int32) then f_Mo_reader_107 X11 i1 i2 1 else f_Mo_reader_106 X11 i1 i2) else f_Mo_reader_106 X11 i1 i2) else f_Mo_reader_138 X11))
def f_Mo_reader_65 (X : gX) (i1 : Int32) (i2 : Int32) (i1000 : Int32) : Option (gR × gX) := gCi (f_Mo_wrong X i1000 2) (fun x8 X8 => (if x8 = (0 : Int32) then (if i2 = (4 : Int32) then f_Mo_reader_83 X8 i1 i2 1 else f_Mo_reader_83 X8 i1 i2 0) else f_Mo_reader_138 X8))
def f_Mo_reader_64 (X : gX) (i1 : Int32) (i2 : Int32) : Option (gR × gX) := f_Mo_reader_65 X i1 i2 0
def f_Mo_reader_40 (X : gX) (i1 : Int32) (i2 : Int32) (i1000 : Int32) : Option (gR × gX) := gCi (f_Mo_wrong X i1000 1) (fun x4 X4 => (if x4 = (0 : Int32) then (if i1 = (1 : Int32) then (if (X4.I 46 18) = (0 : Int32) then f_Mo_reader_65 X4 i1 i2 1 else f_Mo_reader_64 X4 i1 i2) else f_Mo_reader_64 X4 i1 i2) else f_Mo_reader_138 X4))
def f_Mo_reader_35 (X : gX) (i1 : Int32) (i2 : Int32) : Option (gR × gX) := f_Mo_reader_40 X i1 i2 1
def f_Mo_reader_25 (X : gX) (i1 : Int32) (i2 : Int32) : Option (gR × gX) := (if i1 < (0 : Int32) then f_Mo_reader_35 X i1 i2 else (if i1 ≤ (1 : Int32) then f_Mo_reader_40 X i1 i2 0 else f_Mo_reader_35 X i1 i2))
def f_Mo_reader_2 (X : gX) (i1 : Int32) (i2 : Int32) : Option ((Int32) ⊕ (gR × gX)) := (if (4 : Int32) ≤ i2 then gLf (f_Mo_reader_25 X i1 i2) else (if gIn i2 4 then (if (X.I (84 + 8 * gn i2) 10) ≤ (0 : Int32) then gLf (f_Mo_reader_25 X i1 i2) else some (Sum.inl (i2 + 1))) else none))
def f_Mo_reader (X0 : gX) (a1 : Int32) : Option (gR × gX) := gI (fun s : Int32 => f_Mo_reader_2 X0 a1 s) gK 0
set_option maxHeartbeats 4000000 in
set_option maxRecDepth 100000 in
theorem K_Mo_reader (l : Launch) (htr : l.stackTraces = false) (D : va_G) (tys : List (ClassId × FieldType)) (z sz : Nat) (ws : va_W) (h : gm_M) (hM : gm_S h ws) (t : Nat → ClassId) (ht : gTy t tys) (b : Nat → Nat) (X0 : gX) (hw : gw D t b X0 h) (a1 : Int32) (o : gR × gX) (hf : f_Mo_reader X0 a1 = some o) : gx_Met l y_Mo_reader [Cond.code y_Mo_reader b_Mo_reader 3 (some .int)] { frames := 6, cells := 0, slots := 0, locals := 123 } (gx_P z sz D classes tys ws [Value.ref (b 46), Value.int a1]) (gx_Q D classes tys (va_A ws sz) (gPo D t b X0 o)) (0) (0) (va_A ws sz) := by
  refine gx_ofW (cc := b_Mo_reader) (maxL := 3) (ret := (some .int)) (by decide) rfl ?_
  intro p e s m args below meth c s₁ B hml hv
  obtain ⟨rfl, hsz, hz, hP, hK, hD0, hY⟩ := hv
  have hx := B.exec
  have hb := B.bytes
  have hr := B.returns
  have hts := hY.hts (#[Value.ref (b 46), Value.int a1] : Array Value)
  have hown : s.vm.findClass "CommitLedgerModel" = some m.cls := findClass_of_methodNamed B.named
  have hlocks := B.notSynchronized
  subst hsz
  have hAz := gx_az hD0 hz
  have hD := hD0.self (sz := s.heap.size)
  have hA : ∀ q : Nat, s.heap.size ≤ q → va_A ws s.heap.size q := fun q h => Or.inr h
  generalize va_A ws s.heap.size = A at hD hA hAz ⊢
  have Y : gy D t b A s.heap X0 X0 s.heap [] := ⟨h, ⟨ws, hM, hP, hD, va_S.rf⟩, hw, gEq.rf⟩
  clear hP hD hM hD0 hw
  obtain ⟨ht0, ht1, ht2, ht3, ht4, ht5, ht6, ht7, ht8⟩ := id ht
  have hl := lv_entry ([Value.ref (b 46), Value.int a1]) (n := 3) (Nat.le_of_ble_eq_true rfl)
  rw [lg_entry_eq]
  generalize (lg_sl ([Value.ref (b 46), Value.int a1]) ++ List.replicate (3 - (lg_sl ([Value.ref (b 46), Value.int a1])).length) Slot.unset).toArray = ls at hl ⊢
  have hl : lv_has ls 3 [(0, Value.ref (b 46)), (1, Value.int a1)] := hl
  refine gy_cut (pcJ := 187) Y (fun s : gX × Int32 × Nat × Nat => f_Mo_reader_187 s.1 s.2.1 s.2.2.1 s.2.2.2) o (fun s => s.1) (fun s ls => (lv_has ls 3 [(2, Value.int s.2.1), (0, Value.ref (b 46))]) ∧ gVer s.2.2.1 = true ∧ gVer s.2.2.2 = true) (fun s => [Value.ref (b s.2.2.1), Value.ref (b s.2.2.2)]) ?_ (fun J187 => ?_)
  · rintro ⟨X40, i2_40, n1000_40, n1001_40⟩ H locs ls hf hl Y
    obtain ⟨hl, hv1000_40, hv1001_40⟩ := hl
    have hv1000_40 : gVer n1000_40 = true := hv1000_40
    have hv1001_40 : gVer n1001_40 = true := hv1001_40
    have hl : lv_has ls 3 [(2, Value.int i2_40), (0, Value.ref (b 46))] := hl
    have Y : gy D t b A s.heap X0 X40 H locs := Y
    have hf : f_Mo_reader_187 X40 i2_40 n1000_40 n1001_40 = some o := hf
    unfold f_Mo_reader_187 at hf
    refine W.eq (g2 := F0 m 187 ls [Value.ref (b n1000_40), Value.ref (b n1001_40)]) rfl ?_
    obtain ⟨X41, hF41, hf⟩ := gCv_el hf
    refine gy_callV (rm := { frames := 2, cells := 0, slots := 0, locals := 32 }) (ig := .invokevirtual 162) (av := [Value.ref (b n1001_40), Value.ref (b n1000_40)]) Y (fun ws h hS hw => K_Ve_copy l htr D tys z _ ws h hS t ht b X40 hw n1001_40 hv1001_40 n1000_40 hv1000_40 (gR.v, X41) hF41) (gx_invV (As := [Value.ref (b n1000_40)]) (rest := []) hx hb hown hts km_Mo_162 kI_Ve_copy kV_Ve_copy kc_Ve_copy (by decide) (show (parseMethodDescriptor y_Ve_copy.desc).map (fun d => d.parameters.length) = some 1 by decide +kernel) (gy_recv (ci := 9) hK Y rfl (gF_Ve hv1001_40)) rfl rfl d_Mo_reader_187) (gx_cw (z := 0) hts kc_Ve_copy kN_Ve rfl rfl ⟨Nat.le_of_ble_eq_true rfl, Nat.le_of_ble_eq_true rfl⟩) hb hml hz hK hY hAz hA hl.1 (lv_room (Nat.le_of_ble_eq_true rfl)) d_Mo_reader_187 ⟨Nat.zero_le _, Nat.zero_le _⟩ (fun H locs Y => ?_)
    refine lv_aload_n hx hb d_Mo_reader_190 rfl (lv_at hl 1 rfl) ?_
    refine lv_dup hx hb d_Mo_reader_191 rfl ?_
    refine gy_get (ci := 8) (v := Value.int (X41.I 46 32)) (C := "CommitLedgerModel") (T := F_Mo) (N := 35) hx hb hts i_Mo hown hK Y gF_46 rfl 32 (by decide) kf_Mo_254 rfl d_Mo_reader_192 ?_
    refine lv_iconst (v := 1) hx hb d_Mo_reader_195 (by decide) ?_
    refine lv_iadd hx hb d_Mo_reader_196 ?_
    refine gy_put hf (ci := 8) (ty := .int) (C := "CommitLedgerModel") (T := F_Mo) (N := 35) hx hb hts i_Mo t_Mo_ok n_Mo hown hK Y gF_46 rfl (by decide) kf_Mo_254 rfl (by decide +kernel) rfl rfl (Nat.le_of_ble_eq_true rfl) gF_46 d_Mo_reader_197 (fun X42 H locs hf Y => ?_)
    refine lv_aload_n hx hb d_Mo_reader_200 rfl (lv_at hl 1 rfl) ?_
    refine gy_get (ci := 8) (v := Value.ref (b 83)) (C := "CommitLedgerModel") (T := F_Mo) (N := 35) hx hb hts i_Mo hown hK Y gF_46 rfl 31 (by decide) kf_Mo_76 rfl d_Mo_reader_201 ?_
    refine lv_iload_n hx hb d_Mo_reader_204 rfl (lv_at hl 0 rfl) ?_
    refine gy_aalR hf hx hb hK Y 5 gF_83 ht5 d_Mo_reader_205 (fun hi43 hf => ?_)
    refine lv_aload_n hx hb d_Mo_reader_206 rfl (lv_at hl 1 rfl) ?_
    refine gy_get (ci := 8) (v := Value.int (X42.I 46 32)) (C := "CommitLedgerModel") (T := F_Mo) (N := 35) hx hb hts i_Mo hown hK Y gF_46 rfl 32 (by decide) kf_Mo_254 rfl d_Mo_reader_207 ?_
    refine gy_put hf (ci := 9) (ty := .int) (C := "CommitLedgerModel$Version") (T := F_Ve) (N := 11) hx hb hts i_Ve t_Ve_ok n_Ve hown hK Y (gF_Ve (gVer_rd hi43)) rfl (by decide) kf_Mo_103 rfl (by decide +kernel) rfl rfl (Nat.le_of_ble_eq_true rfl) (gF_Ve (gVer_rd hi43)) d_Mo_reader_210 (fun X44 H locs hf Y => ?_)
    refine lv_aload_n hx hb d_Mo_reader_213 rfl (lv_at hl 1 rfl) ?_
    refine lv_aload_n hx hb d_Mo_reader_214 rfl (lv_at hl 1 rfl) ?_
    refine gy_get (ci := 8) (v := Value.int (X44.I 46 32)) (C := "CommitLedgerModel") (T := F_Mo) (N := 35) hx hb hts i_Mo hown hK Y gF_46 rfl 32 (by decide) kf_Mo_254 rfl d_Mo_reader_215 ?_
    refine lv_ldc (v := 123456) hx hb hown (hts _ ki_Mo_253) d_Mo_reader_218 ?_
    obtain ⟨x45, X45, hF45, hf⟩ := gCi_el hf
    refine gy_callI (rm := { frames := 4, cells := 0, slots := 0, locals := 83 }) (ig := .invokevirtual 175) (av := [Value.ref (b 46), Value.int (X44.I 46 32), Value.int 123456]) Y (fun ws h hS hw => K_Mo_finished l htr D tys z _ ws h hS t ht b X44 hw (X44.I 46 32) 123456 (gR.i x45, X45) hF45) (gx_invV (As := [Value.int (X44.I 46 32), Value.int 123456]) (rest := []) hx hb hown hts km_Mo_175 kI_Mo_finished kV_Mo_finished kc_Mo_finished (by decide) (show (parseMethodDescriptor y_Mo_finished.desc).map (fun d => d.parameters.length) = some 2 by decide +kernel) (gy_recv (ci := 8) hK Y rfl gF_46) rfl rfl d_Mo_reader_220) (gx_cw (z := 0) hts kc_Mo_finished kN_Mo rfl rfl ⟨Nat.le_of_ble_eq_true rfl, Nat.le_of_ble_eq_true rfl⟩) hb hml hz hK hY hAz hA hl.1 (lv_room (Nat.le_of_ble_eq_true rfl)) d_Mo_reader_220 ⟨Nat.zero_le _, Nat.zero_le _⟩ (fun H locs Y => ?_)
    exact gy_iret hf hx hb hr hlocks hK Y (Nat.zero_le _) (Nat.zero_le _) d_Mo_reader_223
  refine gy_cut (pcJ := 166) Y (fun s : gX × Int32 => f_Mo_reader_166 s.1 a1 s.2) o (fun s => s.1) (fun s ls => lv_has ls 3 [(2, Value.int s.2), (0, Value.ref (b 46)), (1, Value.int a1)]) (fun s => []) ?_ (fun J166 => ?_)
  · rintro ⟨X46, i2_46⟩ H locs ls hf hl Y
    have hl : lv_has ls 3 [(2, Value.int i2_46), (0, Value.ref (b 46)), (1, Value.int a1)] := hl
    have Y : gy D t b A s.heap X0 X46 H locs := Y
    have hf : f_Mo_reader_166 X46 a1 i2_46 = some o := hf
    unfold f_Mo_reader_166 at hf
    refine lv_aload_n hx hb d_Mo_reader_166 rfl (lv_at hl 1 rfl) ?_
    refine gy_get (ci := 8) (v := Value.ref (b 83)) (C := "CommitLedgerModel") (T := F_Mo) (N := 35) hx hb hts i_Mo hown hK Y gF_46 rfl 31 (by decide) kf_Mo_76 rfl d_Mo_reader_167 ?_
    refine lv_iload_n hx hb d_Mo_reader_170 rfl (lv_at hl 0 rfl) ?_
    refine gy_aalR hf hx hb hK Y 5 gF_83 ht5 d_Mo_reader_171 (fun hi47 hf => ?_)
    refine lv_iload_n hx hb d_Mo_reader_172 rfl (lv_at hl 2 rfl) ?_
    refine lv_if_ne (tgt := 183) hx hb d_Mo_reader_173 (by decide) (fun c173_48 => ?_) (fun c173_48 => ?_)
    · replace hf := gp_f c173_48 hf
      refine lv_aload_n hx hb d_Mo_reader_183 rfl (lv_at hl 1 rfl) ?_
      refine gy_get (ci := 8) (v := Value.ref (b 54)) (C := "CommitLedgerModel") (T := F_Mo) (N := 35) hx hb hts i_Mo hown hK Y gF_46 rfl 15 (by decide) kf_Mo_40 rfl d_Mo_reader_184 ?_
      exact J187 (X46, i2_46, 54, 84 + 8 * gn i2_46) _ _ _ hf (⟨lv_sub hl [0, 1] rfl, (show gVer 54 = true by decide), (gVer_rd hi47)⟩) Y
    · replace hf := gp_t c173_48 hf
      refine lv_aload_n hx hb d_Mo_reader_176 rfl (lv_at hl 1 rfl) ?_
      refine gy_get (ci := 8) (v := Value.ref (b 62)) (C := "CommitLedgerModel") (T := F_Mo) (N := 35) hx hb hts i_Mo hown hK Y gF_46 rfl 16 (by decide) kf_Mo_44 rfl d_Mo_reader_177 ?_
      refine lv_goto (tgt := 187) hx hb d_Mo_reader_180 (by decide) ?_
      exact J187 (X46, i2_46, 62, 84 + 8 * gn i2_46) _ _ _ hf (⟨lv_sub hl [0, 1] rfl, (show gVer 62 = true by decide), (gVer_rd hi47)⟩) Y
  refine gy_cut (pcJ := 138) Y (fun s : gX => f_Mo_reader_138 s) o (fun s => s) (fun s ls => lv_has ls 3 [(0, Value.ref (b 46))]) (fun s => []) ?_ (fun J138 => ?_)
  · rintro X49 H locs ls hf hl Y
    have hl : lv_has ls 3 [(0, Value.ref (b 46))] := hl
    have Y : gy D t b A s.heap X0 X49 H locs := Y
    have hf : f_Mo_reader_138 X49 = some o := hf
    unfold f_Mo_reader_138 at hf
    refine lv_aload_n hx hb d_Mo_reader_138 rfl (lv_at hl 0 rfl) ?_
    refine lv_iconst (v := 0) hx hb d_Mo_reader_139 (by decide) ?_
    refine lv_ldc (v := 123456) hx hb hown (hts _ ki_Mo_253) d_Mo_reader_140 ?_
    obtain ⟨x50, X50, hF50, hf⟩ := gCi_el hf
    refine gy_callI (rm := { frames := 1, cells := 0, slots := 0, locals := 12 }) (ig := .invokevirtual 148) (av := [Value.ref (b 46), Value.int 0, Value.int 123456]) Y (fun ws h hS hw => K_Mo_done l htr D tys z _ ws h hS t ht b X49 hw 0 123456 (gR.i x50, X50) hF50) (gx_invV (As := [Value.int 0, Value.int 123456]) (rest := []) hx hb hown hts km_Mo_148 kI_Mo_done kV_Mo_done kc_Mo_done (by decide) (show (parseMethodDescriptor y_Mo_done.desc).map (fun d => d.parameters.length) = some 2 by decide +kernel) (gy_recv (ci := 8) hK Y rfl gF_46) rfl rfl d_Mo_reader_142) (gx_cw (z := 0) hts kc_Mo_done kN_Mo rfl rfl ⟨Nat.le_of_ble_eq_true rfl, Nat.le_of_ble_eq_true rfl⟩) hb hml hz hK hY hAz hA hl.1 (lv_room (Nat.le_of_ble_eq_true rfl)) d_Mo_reader_142 ⟨Nat.zero_le _, Nat.zero_le _⟩ (fun H locs Y => ?_)
    exact gy_iret hf hx hb hr hlocks hK Y (Nat.zero_le _) (Nat.zero_le _) d_Mo_reader_145
  refine gy_cut (pcJ := 131) Y (fun s : gX × Int32 × Int32 => f_Mo_reader_131 s.1 a1 s.2.1 s.2.2) o (fun s => s.1) (fun s ls => lv_has ls 3 [(2, Value.int s.2.1), (0, Value.ref (b 46)), (1, Value.int a1)]) (fun s => [Value.int s.2.2, Value.ref (b 46)]) ?_ (fun J131 => ?_)
  · rintro ⟨X51, i2_51, i1000_51⟩ H locs ls hf hl Y
    have hl : lv_has ls 3 [(2, Value.int i2_51), (0, Value.ref (b 46)), (1, Value.int a1)] := hl
    have Y : gy D t b A s.heap X0 X51 H locs := Y
    have hf : f_Mo_reader_131 X51 a1 i2_51 i1000_51 = some o := hf
    unfold f_Mo_reader_131 at hf
    refine W.eq (g2 := F0 m 131 ls [Value.int i1000_51, Value.ref (b 46)]) rfl ?_
    refine lv_iconst (v := 4) hx hb d_Mo_reader_131 (by decide) ?_
    obtain ⟨x52, X52, hF52, hf⟩ := gCi_el hf
    refine gy_callI (rm := { frames := 1, cells := 0, slots := 0, locals := 12 }) (ig := .invokevirtual 152) (av := [Value.ref (b 46), Value.int i1000_51, Value.int 4]) Y (fun ws h hS hw => K_Mo_wrong l htr D tys z _ ws h hS t ht b X51 hw i1000_51 4 (gR.i x52, X52) hF52) (gx_invV (As := [Value.int i1000_51, Value.int 4]) (rest := []) hx hb hown hts km_Mo_152 kI_Mo_wrong kV_Mo_wrong kc_Mo_wrong (by decide) (show (parseMethodDescriptor y_Mo_wrong.desc).map (fun d => d.parameters.length) = some 2 by decide +kernel) (gy_recv (ci := 8) hK Y rfl gF_46) rfl rfl d_Mo_reader_132) (gx_cw (z := 0) hts kc_Mo_wrong kN_Mo rfl rfl ⟨Nat.le_of_ble_eq_true rfl, Nat.le_of_ble_eq_true rfl⟩) hb hml hz hK hY hAz hA hl.1 (lv_room (Nat.le_of_ble_eq_true rfl)) d_Mo_reader_132 ⟨Nat.zero_le _, Nat.zero_le _⟩ (fun H locs Y => ?_)
    refine lv_if_eq (tgt := 146) hx hb d_Mo_reader_135 (by decide) (fun c135_53 => ?_) (fun c135_53 => ?_)
    · replace hf := gp_t c135_53 hf
      refine lv_iload_n hx hb d_Mo_reader_146 rfl (lv_at hl 2 rfl) ?_
      refine lv_iconst (v := 1) hx hb d_Mo_reader_147 (by decide) ?_
      refine lv_icmp_ne (tgt := 166) hx hb d_Mo_reader_148 (by decide) (fun c148_54 => ?_) (fun c148_54 => ?_)
      · replace hf := gp_f c148_54 hf
        exact J166 (X52, i2_51) _ _ _ hf (lv_sub hl [0, 1, 2] rfl) Y
      · replace hf := gp_t c148_54 hf
        refine lv_aload_n hx hb d_Mo_reader_151 rfl (lv_at hl 1 rfl) ?_
        obtain ⟨x55, X55, hF55, hf⟩ := gCi_el hf
        refine gy_callI (rm := { frames := 5, cells := 0, slots := 0, locals := 98 }) (ig := .invokevirtual 197) (av := [Value.ref (b 46)]) Y (fun ws h hS hw => K_Mo_flushing l htr D tys z _ ws h hS t ht b X52 hw (gR.i x55, X55) hF55) (gx_invV (As := []) (rest := []) hx hb hown hts km_Mo_197 kI_Mo_flushing kV_Mo_flushing kc_Mo_flushing (by decide) (show (parseMethodDescriptor y_Mo_flushing.desc).map (fun d => d.parameters.length) = some 0 by decide +kernel) (gy_recv (ci := 8) hK Y rfl gF_46) rfl rfl d_Mo_reader_152) (gx_cw (z := 0) hts kc_Mo_flushing kN_Mo rfl rfl ⟨Nat.le_of_ble_eq_true rfl, Nat.le_of_ble_eq_true rfl⟩) hb hml hz hK hY hAz hA hl.1 (lv_room (Nat.le_of_ble_eq_true rfl)) d_Mo_reader_152 ⟨Nat.zero_le _, Nat.zero_le _⟩ (fun H locs Y => ?_)
        refine lv_if_ne (tgt := 166) hx hb d_Mo_reader_155 (by decide) (fun c155_56 => ?_) (fun c155_56 => ?_)
        · replace hf := gp_f c155_56 hf
          exact J166 (X55, i2_51) _ _ _ hf (lv_sub hl [0, 1, 2] rfl) Y
        · replace hf := gp_t c155_56 hf
          refine lv_aload_n hx hb d_Mo_reader_158 rfl (lv_at hl 1 rfl) ?_
          refine lv_iconst (v := 0) hx hb d_Mo_reader_159 (by decide) ?_
          refine lv_ldc (v := 123456) hx hb hown (hts _ ki_Mo_253) d_Mo_reader_160 ?_
          obtain ⟨x57, X57, hF57, hf⟩ := gCi_el hf
          refine gy_callI (rm := { frames := 4, cells := 0, slots := 0, locals := 83 }) (ig := .invokevirtual 175) (av := [Value.ref (b 46), Value.int 0, Value.int 123456]) Y (fun ws h hS hw => K_Mo_finished l htr D tys z _ ws h hS t ht b X55 hw 0 123456 (gR.i x57, X57) hF57) (gx_invV (As := [Value.int 0, Value.int 123456]) (rest := []) hx hb hown hts km_Mo_175 kI_Mo_finished kV_Mo_finished kc_Mo_finished (by decide) (show (parseMethodDescriptor y_Mo_finished.desc).map (fun d => d.parameters.length) = some 2 by decide +kernel) (gy_recv (ci := 8) hK Y rfl gF_46) rfl rfl d_Mo_reader_162) (gx_cw (z := 0) hts kc_Mo_finished kN_Mo rfl rfl ⟨Nat.le_of_ble_eq_true rfl, Nat.le_of_ble_eq_true rfl⟩) hb hml hz hK hY hAz hA hl.1 (lv_room (Nat.le_of_ble_eq_true rfl)) d_Mo_reader_162 ⟨Nat.zero_le _, Nat.zero_le _⟩ (fun H locs Y => ?_)
          exact gy_iret hf hx hb hr hlocks hK Y (Nat.zero_le _) (Nat.zero_le _) d_Mo_reader_165
    · replace hf := gp_f c135_53 hf
      exact J138 X52 _ _ _ hf (lv_sub hl [1] rfl) Y
  refine gy_cut (pcJ := 130) Y (fun s : gX × Int32 => f_Mo_reader_130 s.1 a1 s.2) o (fun s => s.1) (fun s ls => lv_has ls 3 [(2, Value.int s.2), (0, Value.ref (b 46)), (1, Value.int a1)]) (fun s => [Value.ref (b 46)]) ?_ (fun J130 => ?_)
  · rintro ⟨X58, i2_58⟩ H locs ls hf hl Y
    have hl : lv_has ls 3 [(2, Value.int i2_58), (0, Value.ref (b 46)), (1, Value.int a1)] := hl
    have Y : gy D t b A s.heap X0 X58 H locs := Y
    have hf : f_Mo_reader_130 X58 a1 i2_58 = some o := hf
    unfold f_Mo_reader_130 at hf
    refine W.eq (g2 := F0 m 130 ls [Value.ref (b 46)]) rfl ?_
    refine lv_iconst (v := 0) hx hb d_Mo_reader_130 (by decide) ?_
    exact J131 (X58, i2_58, 0) _ _ _ hf (lv_sub hl [0, 1, 2] rfl) Y
  refine gy_cut (pcJ := 107) Y (fun s : gX × Int32 × Int32 => f_Mo_reader_107 s.1 a1 s.2.1 s.2.2) o (fun s => s.1) (fun s ls => lv_has ls 3 [(2, Value.int s.2.1), (0, Value.ref (b 46)), (1, Value.int a1)]) (fun s => [Value.int s.2.2, Value.ref (b 46)]) ?_ (fun J107 => ?_)
  · rintro ⟨X59, i2_59, i1000_59⟩ H locs ls hf hl Y
    have hl : lv_has ls 3 [(2, Value.int i2_59), (0, Value.ref (b 46)), (1, Value.int a1)] := hl
    have Y : gy D t b A s.heap X0 X59 H locs := Y
    have hf : f_Mo_reader_107 X59 a1 i2_59 i1000_59 = some o := hf
    unfold f_Mo_reader_107 at hf
    refine W.eq (g2 := F0 m 107 ls [Value.int i1000_59, Value.ref (b 46)]) rfl ?_
    refine lv_iconst (v := 3) hx hb d_Mo_reader_107 (by decide) ?_
    obtain ⟨x60, X60, hF60, hf⟩ := gCi_el hf
    refine gy_callI (rm := { frames := 1, cells := 0, slots := 0, locals := 12 }) (ig := .invokevirtual 152) (av := [Value.ref (b 46), Value.int i1000_59, Value.int 3]) Y (fun ws h hS hw => K_Mo_wrong l htr D tys z _ ws h hS t ht b X59 hw i1000_59 3 (gR.i x60, X60) hF60) (gx_invV (As := [Value.int i1000_59, Value.int 3]) (rest := []) hx hb hown hts km_Mo_152 kI_Mo_wrong kV_Mo_wrong kc_Mo_wrong (by decide) (show (parseMethodDescriptor y_Mo_wrong.desc).map (fun d => d.parameters.length) = some 2 by decide +kernel) (gy_recv (ci := 8) hK Y rfl gF_46) rfl rfl d_Mo_reader_108) (gx_cw (z := 0) hts kc_Mo_wrong kN_Mo rfl rfl ⟨Nat.le_of_ble_eq_true rfl, Nat.le_of_ble_eq_true rfl⟩) hb hml hz hK hY hAz hA hl.1 (lv_room (Nat.le_of_ble_eq_true rfl)) d_Mo_reader_108 ⟨Nat.zero_le _, Nat.zero_le _⟩ (fun H locs Y => ?_)
    refine lv_if_ne (tgt := 138) hx hb d_Mo_reader_111 (by decide) (fun c111_61 => ?_) (fun c111_61 => ?_)
    · replace hf := gp_f c111_61 hf
      exact J138 X60 _ _ _ hf (lv_sub hl [1] rfl) Y
    · replace hf := gp_t c111_61 hf
      refine lv_aload_n hx hb d_Mo_reader_114 rfl (lv_at hl 1 rfl) ?_
      refine lv_iload_n hx hb d_Mo_reader_115 rfl (lv_at hl 2 rfl) ?_
      refine lv_if_ne (tgt := 130) hx hb d_Mo_reader_116 (by decide) (fun c116_62 => ?_) (fun c116_62 => ?_)
      · replace hf := gp_f c116_62 hf
        exact J130 (X60, i2_59) _ _ _ hf (lv_sub hl [0, 1, 2] rfl) Y
      · replace hf := gp_t c116_62 hf
        refine lv_aload_n hx hb d_Mo_reader_119 rfl (lv_at hl 1 rfl) ?_
        obtain ⟨x63, X63, hF63, hf⟩ := gCi_el hf
        refine gy_callI (rm := { frames := 2, cells := 0, slots := 0, locals := 36 }) (ig := .invokevirtual 156) (av := [Value.ref (b 46)]) Y (fun ws h hS hw => K_Mo_corrupt l htr D tys z _ ws h hS t ht b X60 hw (gR.i x63, X63) hF63) (gx_invV (As := []) (rest := [Value.ref (b 46)]) hx hb hown hts km_Mo_156 kI_Mo_corrupt kV_Mo_corrupt kc_Mo_corrupt (by decide) (show (parseMethodDescriptor y_Mo_corrupt.desc).map (fun d => d.parameters.length) = some 0 by decide +kernel) (gy_recv (ci := 8) hK Y rfl gF_46) rfl rfl d_Mo_reader_120) (gx_cw (z := 0) hts kc_Mo_corrupt kN_Mo rfl rfl ⟨Nat.le_of_ble_eq_true rfl, Nat.le_of_ble_eq_true rfl⟩) hb hml hz hK hY hAz hA hl.1 (lv_room (Nat.le_of_ble_eq_true rfl)) d_Mo_reader_120 ⟨Nat.zero_le _, Nat.zero_le _⟩ (fun H locs Y => ?_)
        refine lv_if_eq (tgt := 130) hx hb d_Mo_reader_123 (by decide) (fun c123_64 => ?_) (fun c123_64 => ?_)
        · replace hf := gp_t c123_64 hf
          exact J130 (X63, i2_59) _ _ _ hf (lv_sub hl [0, 1, 2] rfl) Y
        · replace hf := gp_f c123_64 hf
          refine lv_iconst (v := 1) hx hb d_Mo_reader_126 (by decide) ?_
          refine lv_goto (tgt := 131) hx hb d_Mo_reader_127 (by decide) ?_
          exact J131 (X63, i2_59, 1) _ _ _ hf (lv_sub hl [0, 1, 2] rfl) Y
  refine gy_cut (pcJ := 106) Y (fun s : gX × Int32 => f_Mo_reader_106 s.1 a1 s.2) o (fun s => s.1) (fun s ls => lv_has ls 3 [(2, Value.int s.2), (0, Value.ref (b 46)), (1, Value.int a1)]) (fun s => [Value.ref (b 46)]) ?_ (fun J106 => ?_)
  · rintro ⟨X65, i2_65⟩ H locs ls hf hl Y
    have hl : lv_has ls 3 [(2, Value.int i2_65), (0, Value.ref (b 46)), (1, Value.int a1)] := hl
    have Y : gy D t b A s.heap X0 X65 H locs := Y
    have hf : f_Mo_reader_106 X65 a1 i2_65 = some o := hf
    unfold f_Mo_reader_106 at hf
    refine W.eq (g2 := F0 m 106 ls [Value.ref (b 46)]) rfl ?_
    refine lv_iconst (v := 0) hx hb d_Mo_reader_106 (by decide) ?_
    exact J107 (X65, i2_65, 0) _ _ _ hf (lv_sub hl [0, 1, 2] rfl) Y
  refine gy_cut (pcJ := 83) Y (fun s : gX × Int32 × Int32 => f_Mo_reader_83 s.1 a1 s.2.1 s.2.2) o (fun s => s.1) (fun s ls => lv_has ls 3 [(2, Value.int s.2.1), (0, Value.ref (b 46)), (1, Value.int a1)]) (fun s => [Value.int s.2.2, Value.ref (b 46)]) ?_ (fun J83 => ?_)
  · rintro ⟨X66, i2_66, i1000_66⟩ H locs ls hf hl Y
    have hl : lv_has ls 3 [(2, Value.int i2_66), (0, Value.ref (b 46)), (1, Value.int a1)] := hl
    have Y : gy D t b A s.heap X0 X66 H locs := Y
    have hf : f_Mo_reader_83 X66 a1 i2_66 i1000_66 = some o := hf
    unfold f_Mo_reader_83 at hf
    refine W.eq (g2 := F0 m 83 ls [Value.int i1000_66, Value.ref (b 46)]) rfl ?_
    refine lv_iconst (v := 5) hx hb d_Mo_reader_83 (by decide) ?_
    obtain ⟨x67, X67, hF67, hf⟩ := gCi_el hf
    refine gy_callI (rm := { frames := 1, cells := 0, slots := 0, locals := 12 }) (ig := .invokevirtual 152) (av := [Value.ref (b 46), Value.int i1000_66, Value.int 5]) Y (fun ws h hS hw => K_Mo_wrong l htr D tys z _ ws h hS t ht b X66 hw i1000_66 5 (gR.i x67, X67) hF67) (gx_invV (As := [Value.int i1000_66, Value.int 5]) (rest := []) hx hb hown hts km_Mo_152 kI_Mo_wrong kV_Mo_wrong kc_Mo_wrong (by decide) (show (parseMethodDescriptor y_Mo_wrong.desc).map (fun d => d.parameters.length) = some 2 by decide +kernel) (gy_recv (ci := 8) hK Y rfl gF_46) rfl rfl d_Mo_reader_84) (gx_cw (z := 0) hts kc_Mo_wrong kN_Mo rfl rfl ⟨Nat.le_of_ble_eq_true rfl, Nat.le_of_ble_eq_true rfl⟩) hb hml hz hK hY hAz hA hl.1 (lv_room (Nat.le_of_ble_eq_true rfl)) d_Mo_reader_84 ⟨Nat.zero_le _, Nat.zero_le _⟩ (fun H locs Y => ?_)
    refine lv_if_ne (tgt := 138) hx hb d_Mo_reader_87 (by decide) (fun c87_68 => ?_) (fun c87_68 => ?_)
    · replace hf := gp_f c87_68 hf
      exact J138 X67 _ _ _ hf (lv_sub hl [1] rfl) Y
    · replace hf := gp_t c87_68 hf
      refine lv_aload_n hx hb d_Mo_reader_90 rfl (lv_at hl 1 rfl) ?_
      refine lv_iload_n hx hb d_Mo_reader_91 rfl (lv_at hl 2 rfl) ?_
      refine lv_if_ne (tgt := 106) hx hb d_Mo_reader_92 (by decide) (fun c92_69 => ?_) (fun c92_69 => ?_)
      · replace hf := gp_f c92_69 hf
        exact J106 (X67, i2_66) _ _ _ hf (lv_sub hl [0, 1, 2] rfl) Y
      · replace hf := gp_t c92_69 hf
        refine lv_aload_n hx hb d_Mo_reader_95 rfl (lv_at hl 1 rfl) ?_
        refine gy_get (ci := 8) (v := Value.int (X67.I 46 20)) (C := "CommitLedgerModel") (T := F_Mo) (N := 35) hx hb hts i_Mo hown hK Y gF_46 rfl 20 (by decide) kf_Mo_135 rfl d_Mo_reader_96 ?_
        refine lv_if_ne (tgt := 106) hx hb d_Mo_reader_99 (by decide) (fun c99_70 => ?_) (fun c99_70 => ?_)
        · replace hf := gp_f c99_70 hf
          exact J106 (X67, i2_66) _ _ _ hf (lv_sub hl [0, 1, 2] rfl) Y
        · replace hf := gp_t c99_70 hf
          refine lv_iconst (v := 1) hx hb d_Mo_reader_102 (by decide) ?_
          refine lv_goto (tgt := 107) hx hb d_Mo_reader_103 (by decide) ?_
          exact J107 (X67, i2_66, 1) _ _ _ hf (lv_sub hl [0, 1, 2] rfl) Y
  refine gy_cut (pcJ := 65) Y (fun s : gX × Int32 × Int32 => f_Mo_reader_65 s.1 a1 s.2.1 s.2.2) o (fun s => s.1) (fun s ls => lv_has ls 3 [(2, Value.int s.2.1), (0, Value.ref (b 46)), (1, Value.int a1)]) (fun s => [Value.int s.2.2, Value.ref (b 46)]) ?_ (fun J65 => ?_)
  · rintro ⟨X71, i2_71, i1000_71⟩ H locs ls hf hl Y
    have hl : lv_has ls 3 [(2, Value.int i2_71), (0, Value.ref (b 46)), (1, Value.int a1)] := hl
    have Y : gy D t b A s.heap X0 X71 H locs := Y
    have hf : f_Mo_reader_65 X71 a1 i2_71 i1000_71 = some o := hf
    unfold f_Mo_reader_65 at hf
    refine W.eq (g2 := F0 m 65 ls [Value.int i1000_71, Value.ref (b 46)]) rfl ?_
    refine lv_iconst (v := 2) hx hb d_Mo_reader_65 (by decide) ?_
    obtain ⟨x72, X72, hF72, hf⟩ := gCi_el hf
    refine gy_callI (rm := { frames := 1, cells := 0, slots := 0, locals := 12 }) (ig := .invokevirtual 152) (av := [Value.ref (b 46), Value.int i1000_71, Value.int 2]) Y (fun ws h hS hw => K_Mo_wrong l htr D tys z _ ws h hS t ht b X71 hw i1000_71 2 (gR.i x72, X72) hF72) (gx_invV (As := [Value.int i1000_71, Value.int 2]) (rest := []) hx hb hown hts km_Mo_152 kI_Mo_wrong kV_Mo_wrong kc_Mo_wrong (by decide) (show (parseMethodDescriptor y_Mo_wrong.desc).map (fun d => d.parameters.length) = some 2 by decide +kernel) (gy_recv (ci := 8) hK Y rfl gF_46) rfl rfl d_Mo_reader_66) (gx_cw (z := 0) hts kc_Mo_wrong kN_Mo rfl rfl ⟨Nat.le_of_ble_eq_true rfl, Nat.le_of_ble_eq_true rfl⟩) hb hml hz hK hY hAz hA hl.1 (lv_room (Nat.le_of_ble_eq_true rfl)) d_Mo_reader_66 ⟨Nat.zero_le _, Nat.zero_le _⟩ (fun H locs Y => ?_)
    refine lv_if_ne (tgt := 138) hx hb d_Mo_reader_69 (by decide) (fun c69_73 => ?_) (fun c69_73 => ?_)
    · replace hf := gp_f c69_73 hf
      exact J138 X72 _ _ _ hf (lv_sub hl [1] rfl) Y
    · replace hf := gp_t c69_73 hf
      refine lv_aload_n hx hb d_Mo_reader_72 rfl (lv_at hl 1 rfl) ?_
      refine lv_iload_n hx hb d_Mo_reader_73 rfl (lv_at hl 0 rfl) ?_
      refine lv_iconst (v := 4) hx hb d_Mo_reader_74 (by decide) ?_
      refine lv_icmp_ne (tgt := 82) hx hb d_Mo_reader_75 (by decide) (fun c75_74 => ?_) (fun c75_74 => ?_)
      · replace hf := gp_f c75_74 hf
        refine lv_iconst (v := 0) hx hb d_Mo_reader_82 (by decide) ?_
        exact J83 (X72, i2_71, 0) _ _ _ hf (lv_sub hl [0, 1, 2] rfl) Y
      · replace hf := gp_t c75_74 hf
        refine lv_iconst (v := 1) hx hb d_Mo_reader_78 (by decide) ?_
        refine lv_goto (tgt := 83) hx hb d_Mo_reader_79 (by decide) ?_
        exact J83 (X72, i2_71, 1) _ _ _ hf (lv_sub hl [0, 1, 2] rfl) Y
  refine gy_cut (pcJ := 64) Y (fun s : gX × Int32 => f_Mo_reader_64 s.1 a1 s.2) o (fun s => s.1) (fun s ls => lv_has ls 3 [(2, Value.int s.2), (0, Value.ref (b 46)), (1, Value.int a1)]) (fun s => [Value.ref (b 46)]) ?_ (fun J64 => ?_)
  · rintro ⟨X75, i2_75⟩ H locs ls hf hl Y
    have hl : lv_has ls 3 [(2, Value.int i2_75), (0, Value.ref (b 46)), (1, Value.int a1)] := hl
    have Y : gy D t b A s.heap X0 X75 H locs := Y
    have hf : f_Mo_reader_64 X75 a1 i2_75 = some o := hf
    unfold f_Mo_reader_64 at hf
    refine W.eq (g2 := F0 m 64 ls [Value.ref (b 46)]) rfl ?_
    refine lv_iconst (v := 0) hx hb d_Mo_reader_64 (by decide) ?_
    exact J65 (X75, i2_75, 0) _ _ _ hf (lv_sub hl [0, 1, 2] rfl) Y
  refine gy_cut (pcJ := 40) Y (fun s : gX × Int32 × Int32 => f_Mo_reader_40 s.1 a1 s.2.1 s.2.2) o (fun s => s.1) (fun s ls => lv_has ls 3 [(2, Value.int s.2.1), (0, Value.ref (b 46)), (1, Value.int a1)]) (fun s => [Value.int s.2.2, Value.ref (b 46)]) ?_ (fun J40 => ?_)
  · rintro ⟨X76, i2_76, i1000_76⟩ H locs ls hf hl Y
    have hl : lv_has ls 3 [(2, Value.int i2_76), (0, Value.ref (b 46)), (1, Value.int a1)] := hl
    have Y : gy D t b A s.heap X0 X76 H locs := Y
    have hf : f_Mo_reader_40 X76 a1 i2_76 i1000_76 = some o := hf
    unfold f_Mo_reader_40 at hf
    refine W.eq (g2 := F0 m 40 ls [Value.int i1000_76, Value.ref (b 46)]) rfl ?_
    refine lv_iconst (v := 1) hx hb d_Mo_reader_40 (by decide) ?_
    obtain ⟨x77, X77, hF77, hf⟩ := gCi_el hf
    refine gy_callI (rm := { frames := 1, cells := 0, slots := 0, locals := 12 }) (ig := .invokevirtual 152) (av := [Value.ref (b 46), Value.int i1000_76, Value.int 1]) Y (fun ws h hS hw => K_Mo_wrong l htr D tys z _ ws h hS t ht b X76 hw i1000_76 1 (gR.i x77, X77) hF77) (gx_invV (As := [Value.int i1000_76, Value.int 1]) (rest := []) hx hb hown hts km_Mo_152 kI_Mo_wrong kV_Mo_wrong kc_Mo_wrong (by decide) (show (parseMethodDescriptor y_Mo_wrong.desc).map (fun d => d.parameters.length) = some 2 by decide +kernel) (gy_recv (ci := 8) hK Y rfl gF_46) rfl rfl d_Mo_reader_41) (gx_cw (z := 0) hts kc_Mo_wrong kN_Mo rfl rfl ⟨Nat.le_of_ble_eq_true rfl, Nat.le_of_ble_eq_true rfl⟩) hb hml hz hK hY hAz hA hl.1 (lv_room (Nat.le_of_ble_eq_true rfl)) d_Mo_reader_41 ⟨Nat.zero_le _, Nat.zero_le _⟩ (fun H locs Y => ?_)
    refine lv_if_ne (tgt := 138) hx hb d_Mo_reader_44 (by decide) (fun c44_78 => ?_) (fun c44_78 => ?_)
    · replace hf := gp_f c44_78 hf
      exact J138 X77 _ _ _ hf (lv_sub hl [1] rfl) Y
    · replace hf := gp_t c44_78 hf
      refine lv_aload_n hx hb d_Mo_reader_47 rfl (lv_at hl 1 rfl) ?_
      refine lv_iload_n hx hb d_Mo_reader_48 rfl (lv_at hl 2 rfl) ?_
      refine lv_iconst (v := 1) hx hb d_Mo_reader_49 (by decide) ?_
      refine lv_icmp_ne (tgt := 64) hx hb d_Mo_reader_50 (by decide) (fun c50_79 => ?_) (fun c50_79 => ?_)
      · replace hf := gp_f c50_79 hf
        exact J64 (X77, i2_76) _ _ _ hf (lv_sub hl [0, 1, 2] rfl) Y
      · replace hf := gp_t c50_79 hf
        refine lv_aload_n hx hb d_Mo_reader_53 rfl (lv_at hl 1 rfl) ?_
        refine gy_get (ci := 8) (v := Value.int (X77.I 46 18)) (C := "CommitLedgerModel") (T := F_Mo) (N := 35) hx hb hts i_Mo hown hK Y gF_46 rfl 18 (by decide) kf_Mo_99 rfl d_Mo_reader_54 ?_
        refine lv_if_ne (tgt := 64) hx hb d_Mo_reader_57 (by decide) (fun c57_80 => ?_) (fun c57_80 => ?_)
        · replace hf := gp_f c57_80 hf
          exact J64 (X77, i2_76) _ _ _ hf (lv_sub hl [0, 1, 2] rfl) Y
        · replace hf := gp_t c57_80 hf
          refine lv_iconst (v := 1) hx hb d_Mo_reader_60 (by decide) ?_
          refine lv_goto (tgt := 65) hx hb d_Mo_reader_61 (by decide) ?_
          exact J65 (X77, i2_76, 1) _ _ _ hf (lv_sub hl [0, 1, 2] rfl) Y
  refine gy_cut (pcJ := 35) Y (fun s : gX × Int32 => f_Mo_reader_35 s.1 a1 s.2) o (fun s => s.1) (fun s ls => lv_has ls 3 [(2, Value.int s.2), (0, Value.ref (b 46)), (1, Value.int a1)]) (fun s => [Value.ref (b 46)]) ?_ (fun J35 => ?_)
  · rintro ⟨X81, i2_81⟩ H locs ls hf hl Y
    have hl : lv_has ls 3 [(2, Value.int i2_81), (0, Value.ref (b 46)), (1, Value.int a1)] := hl
    have Y : gy D t b A s.heap X0 X81 H locs := Y
    have hf : f_Mo_reader_35 X81 a1 i2_81 = some o := hf
    unfold f_Mo_reader_35 at hf
    refine W.eq (g2 := F0 m 35 ls [Value.ref (b 46)]) rfl ?_
    refine lv_iconst (v := 1) hx hb d_Mo_reader_35 (by decide) ?_
    refine lv_goto (tgt := 40) hx hb d_Mo_reader_36 (by decide) ?_
    exact J40 (X81, i2_81, 1) _ _ _ hf (lv_sub hl [0, 1, 2] rfl) Y
  refine gy_cut (pcJ := 25) Y (fun s : gX × Int32 => f_Mo_reader_25 s.1 a1 s.2) o (fun s => s.1) (fun s ls => lv_has ls 3 [(2, Value.int s.2), (0, Value.ref (b 46)), (1, Value.int a1)]) (fun s => []) ?_ (fun J25 => ?_)
  · rintro ⟨X82, i2_82⟩ H locs ls hf hl Y
    have hl : lv_has ls 3 [(2, Value.int i2_82), (0, Value.ref (b 46)), (1, Value.int a1)] := hl
    have Y : gy D t b A s.heap X0 X82 H locs := Y
    have hf : f_Mo_reader_25 X82 a1 i2_82 = some o := hf
    unfold f_Mo_reader_25 at hf
    refine lv_aload_n hx hb d_Mo_reader_25 rfl (lv_at hl 1 rfl) ?_
    refine lv_iload_n hx hb d_Mo_reader_26 rfl (lv_at hl 2 rfl) ?_
    refine lv_if_lt (tgt := 35) hx hb d_Mo_reader_27 (by decide) (fun c27_83 => ?_) (fun c27_83 => ?_)
    · replace hf := gp_t c27_83 hf
      exact J35 (X82, i2_82) _ _ _ hf (lv_sub hl [0, 1, 2] rfl) Y
    · replace hf := gp_f c27_83 hf
      refine lv_iload_n hx hb d_Mo_reader_30 rfl (lv_at hl 2 rfl) ?_
      refine lv_iconst (v := 1) hx hb d_Mo_reader_31 (by decide) ?_
      refine lv_icmp_le (tgt := 39) hx hb d_Mo_reader_32 (by decide) (fun c32_84 => ?_) (fun c32_84 => ?_)
      · replace hf := gp_t c32_84 hf
        refine lv_iconst (v := 0) hx hb d_Mo_reader_39 (by decide) ?_
        exact J40 (X82, i2_82, 0) _ _ _ hf (lv_sub hl [0, 1, 2] rfl) Y
      · replace hf := gp_f c32_84 hf
        exact J35 (X82, i2_82) _ _ _ hf (lv_sub hl [0, 1, 2] rfl) Y
  unfold f_Mo_reader at hf
  refine lv_iconst (v := 0) hx hb d_Mo_reader_0 (by decide) ?_
  refine lv_istore_n (lv' := [(2, Value.int 0), (0, Value.ref (b 46)), (1, Value.int a1)]) hx hb d_Mo_reader_1 rfl hl (by decide) rfl (fun ls hl => ?_)
  refine gy_iter (fun s : Int32 => X0) (fun (s : Int32) ls => lv_has ls 3 [(2, Value.int s), (0, Value.ref (b 46)), (1, Value.int a1)]) ?_ gK 0 _ _ _ hf (lv_sub hl [0, 1, 2] rfl) Y
  rintro i2_85 u85 H locs ls hf hl Y hk85 ho85
  have hl : lv_has ls 3 [(2, Value.int i2_85), (0, Value.ref (b 46)), (1, Value.int a1)] := hl
  have Y : gy D t b A s.heap X0 X0 H locs := Y
  have hf : f_Mo_reader_2 X0 a1 i2_85 = some u85 := hf
  unfold f_Mo_reader_2 at hf
  refine lv_iload_n hx hb d_Mo_reader_2 rfl (lv_at hl 0 rfl) ?_
  refine lv_iconst (v := 4) hx hb d_Mo_reader_3 (by decide) ?_
  refine lv_icmp_ge (tgt := 25) hx hb d_Mo_reader_4 (by decide) (fun c4_86 => ?_) (fun c4_86 => ?_)
  · replace hf := gp_t c4_86 hf
    replace hf := gU hf ho85
    exact J25 (X0, i2_85) _ _ _ hf (lv_sub hl [0, 1, 2] rfl) Y
  · replace hf := gp_f c4_86 hf
    refine lv_aload_n hx hb d_Mo_reader_7 rfl (lv_at hl 1 rfl) ?_
    refine gy_get (ci := 8) (v := Value.ref (b 83)) (C := "CommitLedgerModel") (T := F_Mo) (N := 35) hx hb hts i_Mo hown hK Y gF_46 rfl 31 (by decide) kf_Mo_76 rfl d_Mo_reader_8 ?_
    refine lv_iload_n hx hb d_Mo_reader_11 rfl (lv_at hl 0 rfl) ?_
    refine gy_aalR hf hx hb hK Y 5 gF_83 ht5 d_Mo_reader_12 (fun hi87 hf => ?_)
    refine gy_get (ci := 9) (v := Value.int (X0.I (84 + 8 * gn i2_85) 10)) (C := "CommitLedgerModel$Version") (T := F_Ve) (N := 11) hx hb hts i_Ve hown hK Y (gF_Ve (gVer_rd hi87)) rfl 10 (by decide) kf_Mo_103 rfl d_Mo_reader_13 ?_
    refine lv_if_le (tgt := 25) hx hb d_Mo_reader_16 (by decide) (fun c16_88 => ?_) (fun c16_88 => ?_)
    · replace hf := gp_t c16_88 hf
      replace hf := gU hf ho85
      exact J25 (X0, i2_85) _ _ _ hf (lv_sub hl [0, 1, 2] rfl) Y
    · replace hf := gp_f c16_88 hf
      refine lv_iinc (v := i2_85 + 1) (lv' := [(2, Value.int (i2_85 + 1)), (0, Value.ref (b 46)), (1, Value.int a1)]) hx hb d_Mo_reader_19 hl (k := 0) rfl (rfl) (by decide) rfl (fun ls hl => ?_)
      refine lv_goto (tgt := 2) hx hb d_Mo_reader_22 (by decide) ?_
      exact hk85 _ _ _ _ hf (lv_sub hl [0, 1, 2] rfl) Y

def f_Mo_release_18 (X : gX) : Option (gR × gX) := gCi (f_Mo_finished X 0 3) (fun x3 X3 => some (gR.v, X3))
def f_Mo_release (X0 : gX) (a1 : Int32) : Option (gR × gX) := gCa (f_Mo_reading X0 a1) (fun x1 X1 => gM x1 (fun n1 => (if gVer n1 then (if (X1.I 46 0) = (0 : Int32) then gB (X1.w n1 10 0) (fun X4 => f_Mo_release_18 X4) else f_Mo_release_18 X1) else none)))
set_option maxHeartbeats 4000000 in
set_option maxRecDepth 100000 in
theorem K_Mo_release (l : Launch) (htr : l.stackTraces = false) (D : va_G) (tys : List (ClassId × FieldType)) (z sz : Nat) (ws : va_W) (h : gm_M) (hM : gm_S h ws) (t : Nat → ClassId) (ht : gTy t tys) (b : Nat → Nat) (X0 : gX) (hw : gw D t b X0 h) (a1 : Int32) (o : gR × gX) (hf : f_Mo_release X0 a1 = some o) : gx_Met l y_Mo_release [Cond.code y_Mo_release b_Mo_release 4 none] { frames := 5, cells := 0, slots := 0, locals := 105 } (gx_P z sz D classes tys ws [Value.ref (b 46), Value.int a1]) (gx_Q D classes tys (va_A ws sz) (gPo D t b X0 o)) (0) (0) (va_A ws sz) := by
  refine gx_ofW (cc := b_Mo_release) (maxL := 4) (ret := none) (by decide) rfl ?_
  intro p e s m args below meth c s₁ B hml hv
  obtain ⟨rfl, hsz, hz, hP, hK, hD0, hY⟩ := hv
  have hx := B.exec
  have hb := B.bytes
  have hr := B.returns
  have hts := hY.hts (#[Value.ref (b 46), Value.int a1] : Array Value)
  have hown : s.vm.findClass "CommitLedgerModel" = some m.cls := findClass_of_methodNamed B.named
  have hlocks := B.notSynchronized
  subst hsz
  have hAz := gx_az hD0 hz
  have hD := hD0.self (sz := s.heap.size)
  have hA : ∀ q : Nat, s.heap.size ≤ q → va_A ws s.heap.size q := fun q h => Or.inr h
  generalize va_A ws s.heap.size = A at hD hA hAz ⊢
  have Y : gy D t b A s.heap X0 X0 s.heap [] := ⟨h, ⟨ws, hM, hP, hD, va_S.rf⟩, hw, gEq.rf⟩
  clear hP hD hM hD0 hw
  obtain ⟨ht0, ht1, ht2, ht3, ht4, ht5, ht6, ht7, ht8⟩ := id ht
  have hl := lv_entry ([Value.ref (b 46), Value.int a1]) (n := 4) (Nat.le_of_ble_eq_true rfl)
  rw [lg_entry_eq]
  generalize (lg_sl ([Value.ref (b 46), Value.int a1]) ++ List.replicate (4 - (lg_sl ([Value.ref (b 46), Value.int a1])).length) Slot.unset).toArray = ls at hl ⊢
  have hl : lv_has ls 4 [(0, Value.ref (b 46)), (1, Value.int a1)] := hl
  refine gy_cut (pcJ := 18) Y (fun s : gX => f_Mo_release_18 s) o (fun s => s) (fun s ls => lv_has ls 4 [(0, Value.ref (b 46))]) (fun s => []) ?_ (fun J18 => ?_)
  · rintro X5 H locs ls hf hl Y
    have hl : lv_has ls 4 [(0, Value.ref (b 46))] := hl
    have Y : gy D t b A s.heap X0 X5 H locs := Y
    have hf : f_Mo_release_18 X5 = some o := hf
    unfold f_Mo_release_18 at hf
    refine lv_aload_n hx hb d_Mo_release_18 rfl (lv_at hl 0 rfl) ?_
    refine lv_iconst (v := 0) hx hb d_Mo_release_19 (by decide) ?_
    refine lv_iconst (v := 3) hx hb d_Mo_release_20 (by decide) ?_
    obtain ⟨x6, X6, hF6, hf⟩ := gCi_el hf
    refine gy_callI (rm := { frames := 4, cells := 0, slots := 0, locals := 83 }) (ig := .invokevirtual 175) (av := [Value.ref (b 46), Value.int 0, Value.int 3]) Y (fun ws h hS hw => K_Mo_finished l htr D tys z _ ws h hS t ht b X5 hw 0 3 (gR.i x6, X6) hF6) (gx_invV (As := [Value.int 0, Value.int 3]) (rest := []) hx hb hown hts km_Mo_175 kI_Mo_finished kV_Mo_finished kc_Mo_finished (by decide) (show (parseMethodDescriptor y_Mo_finished.desc).map (fun d => d.parameters.length) = some 2 by decide +kernel) (gy_recv (ci := 8) hK Y rfl gF_46) rfl rfl d_Mo_release_21) (gx_cw (z := 0) hts kc_Mo_finished kN_Mo rfl rfl ⟨Nat.le_of_ble_eq_true rfl, Nat.le_of_ble_eq_true rfl⟩) hb hml hz hK hY hAz hA hl.1 (lv_room (Nat.le_of_ble_eq_true rfl)) d_Mo_release_21 ⟨Nat.zero_le _, Nat.zero_le _⟩ (fun H locs Y => ?_)
    refine lv_istore_n (lv' := [(3, Value.int x6), (0, Value.ref (b 46))]) hx hb d_Mo_release_24 rfl hl (by decide) rfl (fun ls hl => ?_)
    exact gy_vret hf hx hb hr hlocks hK Y (Nat.zero_le _) (Nat.zero_le _) d_Mo_release_25
  unfold f_Mo_release at hf
  refine lv_aload_n hx hb d_Mo_release_0 rfl (lv_at hl 0 rfl) ?_
  refine lv_iload_n hx hb d_Mo_release_1 rfl (lv_at hl 1 rfl) ?_
  obtain ⟨x7, X7, hF7, hf⟩ := gCa_el hf
  refine gy_callA (rm := { frames := 1, cells := 0, slots := 0, locals := 12 }) (ig := .invokevirtual 257) (av := [Value.ref (b 46), Value.int a1]) Y (fun ws h hS hw => K_Mo_reading l htr D tys z _ ws h hS t ht b X0 hw a1 (gR.a x7, X7) hF7) (gx_invV (As := [Value.int a1]) (rest := []) hx hb hown hts km_Mo_257 kI_Mo_reading kV_Mo_reading kc_Mo_reading (by decide) (show (parseMethodDescriptor y_Mo_reading.desc).map (fun d => d.parameters.length) = some 1 by decide +kernel) (gy_recv (ci := 8) hK Y rfl gF_46) rfl rfl d_Mo_release_2) (gx_cw (z := 0) hts kc_Mo_reading kN_Mo rfl rfl ⟨Nat.le_of_ble_eq_true rfl, Nat.le_of_ble_eq_true rfl⟩) hb hml hz hK hY hAz hA hl.1 (lv_room (Nat.le_of_ble_eq_true rfl)) d_Mo_release_2 ⟨Nat.zero_le _, Nat.zero_le _⟩ (fun H locs Y => ?_)
  obtain ⟨n7, e9, hf⟩ := gM_el hf
  subst e9
  obtain ⟨hv7, hf⟩ := gp_g hf
  refine W.eq (g2 := F0 m 5 ls [Value.ref (b n7)]) rfl ?_
  refine lv_astore_n (lv' := [(2, Value.ref (b n7)), (0, Value.ref (b 46)), (1, Value.int a1)]) hx hb d_Mo_release_5 rfl hl (by decide) rfl (fun ls hl => ?_)
  refine lv_aload_n hx hb d_Mo_release_6 rfl (lv_at hl 1 rfl) ?_
  refine gy_get (ci := 8) (v := Value.int (X7.I 46 0)) (C := "CommitLedgerModel") (T := F_Mo) (N := 35) hx hb hts i_Mo hown hK Y gF_46 rfl 0 (by decide) kf_Mo_84 rfl d_Mo_release_7 ?_
  refine lv_if_ne (tgt := 18) hx hb d_Mo_release_10 (by decide) (fun c10_8 => ?_) (fun c10_8 => ?_)
  · replace hf := gp_f c10_8 hf
    exact J18 X7 _ _ _ hf (lv_sub hl [1] rfl) Y
  · replace hf := gp_t c10_8 hf
    refine lv_aload_n hx hb d_Mo_release_13 rfl (lv_at hl 0 rfl) ?_
    refine lv_iconst (v := 0) hx hb d_Mo_release_14 (by decide) ?_
    refine gy_put hf (ci := 9) (ty := .int) (C := "CommitLedgerModel$Version") (T := F_Ve) (N := 11) hx hb hts i_Ve t_Ve_ok n_Ve hown hK Y (gF_Ve hv7) rfl (by decide) kf_Mo_103 rfl (by decide +kernel) rfl rfl (Nat.le_of_ble_eq_true rfl) (gF_Ve hv7) d_Mo_release_15 (fun X9 H locs hf Y => ?_)
    exact J18 X9 _ _ _ hf (lv_sub hl [1] rfl) Y

def f_Mo_value_75 (X : gX) (n3 : Nat) (i4 : Int32) (i1000 : Int32) : Option (gR × gX) := gCi (f_Mo_wrong X i1000 3) (fun x6 X6 => (if x6 = (0 : Int32) then (if gIn i4 4096 then (if gIn (X6.I (n3 + 5) (gn i4)) 4096 then gCi (f_Mo_done X6 (X6.I 48 (gn (X6.I (n3 + 5) (gn i4)))) 3) (fun x8 X8 => some (gR.i x8, X8)) else none) else none) else gCi (f_Mo_done X6 0 3) (fun x9 X9 => some (gR.i x9, X9))))
def f_Mo_value_64 (X : gX) (n3 : Nat) (i4 : Int32) : Option (gR × gX) := (if (0 : Int32) ≤ i4 then f_Mo_value_75 X n3 i4 0 else f_Mo_value_75 X n3 i4 1)
def f_Mo_value_58 (X : gX) (i2 : Int32) (n3 : Nat) (i4 : Int32) (i5 : Int32) : Option ((gX × Int32 × Int32) ⊕ (gR × gX)) := some (Sum.inl (X, i4, i5 + 1))
def f_Mo_value_12 (X : gX) (i2 : Int32) (n3 : Nat) (i4 : Int32) (i5 : Int32) : Option ((gX × Int32 × Int32) ⊕ (gR × gX)) := gCi (f_Ve_docs X n3) (fun x3 X3 => (if x3 ≤ i5 then gLf (f_Mo_value_64 X3 n3 i4) else (if (X3.I 46 0) = (0 : Int32) then (if gIn i5 4096 then (if (X3.I (n3 + 6) (gn i5)) = (0 : Int32) then f_Mo_value_58 X3 i2 n3 i4 i5 else (if gIn i5 4096 then (if gIn (X3.I (n3 + 5) (gn i5)) 4096 then (if (X3.I 47 (gn (X3.I (n3 + 5) (gn i5)))) = i2 then f_Mo_value_58 X3 i2 n3 i5 i5 else f_Mo_value_58 X3 i2 n3 i4 i5) else none) else none)) else none) else gLf (f_Mo_value_64 X3 n3 i4))))
def f_Mo_value (X0 : gX) (a1 : Int32) (a2 : Int32) : Option (gR × gX) := gCa (f_Mo_reading X0 a1) (fun x1 X1 => gM x1 (fun n1 => (if gVer n1 then gI (fun s : gX × Int32 × Int32 => f_Mo_value_12 s.1 a2 n1 s.2.1 s.2.2) gK (X1, (-1), 0) else none)))
set_option maxHeartbeats 4000000 in
set_option maxRecDepth 100000 in
theorem K_Mo_value (l : Launch) (htr : l.stackTraces = false) (D : va_G) (tys : List (ClassId × FieldType)) (z sz : Nat) (ws : va_W) (h : gm_M) (hM : gm_S h ws) (t : Nat → ClassId) (ht : gTy t tys) (b : Nat → Nat) (X0 : gX) (hw : gw D t b X0 h) (a1 : Int32) (a2 : Int32) (o : gR × gX) (hf : f_Mo_value X0 a1 a2 = some o) : gx_Met l y_Mo_value [Cond.code y_Mo_value b_Mo_value 6 (some .int)] { frames := 2, cells := 0, slots := 0, locals := 37 } (gx_P z sz D classes tys ws [Value.ref (b 46), Value.int a1, Value.int a2]) (gx_Q D classes tys (va_A ws sz) (gPo D t b X0 o)) (0) (0) (va_A ws sz) := by
  refine gx_ofW (cc := b_Mo_value) (maxL := 6) (ret := (some .int)) (by decide) rfl ?_
  intro p e s m args below meth c s₁ B hml hv
  obtain ⟨rfl, hsz, hz, hP, hK, hD0, hY⟩ := hv
  have hx := B.exec
  have hb := B.bytes
  have hr := B.returns
  have hts := hY.hts (#[Value.ref (b 46), Value.int a1, Value.int a2] : Array Value)
  have hown : s.vm.findClass "CommitLedgerModel" = some m.cls := findClass_of_methodNamed B.named
  have hlocks := B.notSynchronized
  subst hsz
  have hAz := gx_az hD0 hz
  have hD := hD0.self (sz := s.heap.size)
  have hA : ∀ q : Nat, s.heap.size ≤ q → va_A ws s.heap.size q := fun q h => Or.inr h
  generalize va_A ws s.heap.size = A at hD hA hAz ⊢
  have Y : gy D t b A s.heap X0 X0 s.heap [] := ⟨h, ⟨ws, hM, hP, hD, va_S.rf⟩, hw, gEq.rf⟩
  clear hP hD hM hD0 hw
  obtain ⟨ht0, ht1, ht2, ht3, ht4, ht5, ht6, ht7, ht8⟩ := id ht
  have hl := lv_entry ([Value.ref (b 46), Value.int a1, Value.int a2]) (n := 6) (Nat.le_of_ble_eq_true rfl)
  rw [lg_entry_eq]
  generalize (lg_sl ([Value.ref (b 46), Value.int a1, Value.int a2]) ++ List.replicate (6 - (lg_sl ([Value.ref (b 46), Value.int a1, Value.int a2])).length) Slot.unset).toArray = ls at hl ⊢
  have hl : lv_has ls 6 [(0, Value.ref (b 46)), (1, Value.int a1), (2, Value.int a2)] := hl
  refine gy_cut (pcJ := 75) Y (fun s : gX × Nat × Int32 × Int32 => f_Mo_value_75 s.1 s.2.1 s.2.2.1 s.2.2.2) o (fun s => s.1) (fun s ls => (lv_has ls 6 [(3, Value.ref (b s.2.1)), (4, Value.int s.2.2.1), (0, Value.ref (b 46))]) ∧ gVer s.2.1 = true) (fun s => [Value.int s.2.2.2, Value.ref (b 46)]) ?_ (fun J75 => ?_)
  · rintro ⟨X19, n3_19, i4_19, i1000_19⟩ H locs ls hf hl Y
    obtain ⟨hl, hv3_19⟩ := hl
    have hv3_19 : gVer n3_19 = true := hv3_19
    have hl : lv_has ls 6 [(3, Value.ref (b n3_19)), (4, Value.int i4_19), (0, Value.ref (b 46))] := hl
    have Y : gy D t b A s.heap X0 X19 H locs := Y
    have hf : f_Mo_value_75 X19 n3_19 i4_19 i1000_19 = some o := hf
    unfold f_Mo_value_75 at hf
    refine W.eq (g2 := F0 m 75 ls [Value.int i1000_19, Value.ref (b 46)]) rfl ?_
    refine lv_iconst (v := 3) hx hb d_Mo_value_75 (by decide) ?_
    obtain ⟨x20, X20, hF20, hf⟩ := gCi_el hf
    refine gy_callI (rm := { frames := 1, cells := 0, slots := 0, locals := 12 }) (ig := .invokevirtual 152) (av := [Value.ref (b 46), Value.int i1000_19, Value.int 3]) Y (fun ws h hS hw => K_Mo_wrong l htr D tys z _ ws h hS t ht b X19 hw i1000_19 3 (gR.i x20, X20) hF20) (gx_invV (As := [Value.int i1000_19, Value.int 3]) (rest := []) hx hb hown hts km_Mo_152 kI_Mo_wrong kV_Mo_wrong kc_Mo_wrong (by decide) (show (parseMethodDescriptor y_Mo_wrong.desc).map (fun d => d.parameters.length) = some 2 by decide +kernel) (gy_recv (ci := 8) hK Y rfl gF_46) rfl rfl d_Mo_value_76) (gx_cw (z := 0) hts kc_Mo_wrong kN_Mo rfl rfl ⟨Nat.le_of_ble_eq_true rfl, Nat.le_of_ble_eq_true rfl⟩) hb hml hz hK hY hAz hA hl.1 (lv_room (Nat.le_of_ble_eq_true rfl)) d_Mo_value_76 ⟨Nat.zero_le _, Nat.zero_le _⟩ (fun H locs Y => ?_)
    refine lv_if_eq (tgt := 89) hx hb d_Mo_value_79 (by decide) (fun c79_21 => ?_) (fun c79_21 => ?_)
    · replace hf := gp_t c79_21 hf
      refine lv_aload_n hx hb d_Mo_value_89 rfl (lv_at hl 2 rfl) ?_
      refine lv_aload_n hx hb d_Mo_value_90 rfl (lv_at hl 2 rfl) ?_
      refine gy_get (ci := 8) (v := Value.ref (b 48)) (C := "CommitLedgerModel") (T := F_Mo) (N := 35) hx hb hts i_Mo hown hK Y gF_46 rfl 3 (by decide) kf_Mo_13 rfl d_Mo_value_91 ?_
      refine lv_aload_n hx hb d_Mo_value_94 rfl (lv_at hl 0 rfl) ?_
      refine gy_get (ci := 9) (v := Value.ref (b (n3_19 + 5))) (C := "CommitLedgerModel$Version") (T := F_Ve) (N := 11) hx hb hts i_Ve hown hK Y (gF_Ve hv3_19) rfl 4 (by decide) kf_Mo_185 rfl d_Mo_value_95 ?_
      refine lv_iload hx hb d_Mo_value_98 (lv_at hl 1 rfl) ?_
      refine gy_iald hf hx hb hK Y 0 (fun _ => (gF_Ve5 hv3_19)) ht0 d_Mo_value_100 (fun _ hf => ?_)
      refine gy_iald hf hx hb hK Y 0 (fun _ => gF_48) ht0 d_Mo_value_101 (fun _ hf => ?_)
      refine lv_iconst (v := 3) hx hb d_Mo_value_102 (by decide) ?_
      obtain ⟨x22, X22, hF22, hf⟩ := gCi_el hf
      refine gy_callI (rm := { frames := 1, cells := 0, slots := 0, locals := 12 }) (ig := .invokevirtual 148) (av := [Value.ref (b 46), Value.int (X20.I 48 (gn (X20.I (n3_19 + 5) (gn i4_19)))), Value.int 3]) Y (fun ws h hS hw => K_Mo_done l htr D tys z _ ws h hS t ht b X20 hw (X20.I 48 (gn (X20.I (n3_19 + 5) (gn i4_19)))) 3 (gR.i x22, X22) hF22) (gx_invV (As := [Value.int (X20.I 48 (gn (X20.I (n3_19 + 5) (gn i4_19)))), Value.int 3]) (rest := []) hx hb hown hts km_Mo_148 kI_Mo_done kV_Mo_done kc_Mo_done (by decide) (show (parseMethodDescriptor y_Mo_done.desc).map (fun d => d.parameters.length) = some 2 by decide +kernel) (gy_recv (ci := 8) hK Y rfl gF_46) rfl rfl d_Mo_value_103) (gx_cw (z := 0) hts kc_Mo_done kN_Mo rfl rfl ⟨Nat.le_of_ble_eq_true rfl, Nat.le_of_ble_eq_true rfl⟩) hb hml hz hK hY hAz hA hl.1 (lv_room (Nat.le_of_ble_eq_true rfl)) d_Mo_value_103 ⟨Nat.zero_le _, Nat.zero_le _⟩ (fun H locs Y => ?_)
      exact gy_iret hf hx hb hr hlocks hK Y (Nat.zero_le _) (Nat.zero_le _) d_Mo_value_106
    · replace hf := gp_f c79_21 hf
      refine lv_aload_n hx hb d_Mo_value_82 rfl (lv_at hl 2 rfl) ?_
      refine lv_iconst (v := 0) hx hb d_Mo_value_83 (by decide) ?_
      refine lv_iconst (v := 3) hx hb d_Mo_value_84 (by decide) ?_
      obtain ⟨x23, X23, hF23, hf⟩ := gCi_el hf
      refine gy_callI (rm := { frames := 1, cells := 0, slots := 0, locals := 12 }) (ig := .invokevirtual 148) (av := [Value.ref (b 46), Value.int 0, Value.int 3]) Y (fun ws h hS hw => K_Mo_done l htr D tys z _ ws h hS t ht b X20 hw 0 3 (gR.i x23, X23) hF23) (gx_invV (As := [Value.int 0, Value.int 3]) (rest := []) hx hb hown hts km_Mo_148 kI_Mo_done kV_Mo_done kc_Mo_done (by decide) (show (parseMethodDescriptor y_Mo_done.desc).map (fun d => d.parameters.length) = some 2 by decide +kernel) (gy_recv (ci := 8) hK Y rfl gF_46) rfl rfl d_Mo_value_85) (gx_cw (z := 0) hts kc_Mo_done kN_Mo rfl rfl ⟨Nat.le_of_ble_eq_true rfl, Nat.le_of_ble_eq_true rfl⟩) hb hml hz hK hY hAz hA hl.1 (lv_room (Nat.le_of_ble_eq_true rfl)) d_Mo_value_85 ⟨Nat.zero_le _, Nat.zero_le _⟩ (fun H locs Y => ?_)
      exact gy_iret hf hx hb hr hlocks hK Y (Nat.zero_le _) (Nat.zero_le _) d_Mo_value_88
  refine gy_cut (pcJ := 64) Y (fun s : gX × Nat × Int32 => f_Mo_value_64 s.1 s.2.1 s.2.2) o (fun s => s.1) (fun s ls => (lv_has ls 6 [(3, Value.ref (b s.2.1)), (4, Value.int s.2.2), (0, Value.ref (b 46))]) ∧ gVer s.2.1 = true) (fun s => []) ?_ (fun J64 => ?_)
  · rintro ⟨X24, n3_24, i4_24⟩ H locs ls hf hl Y
    obtain ⟨hl, hv3_24⟩ := hl
    have hv3_24 : gVer n3_24 = true := hv3_24
    have hl : lv_has ls 6 [(3, Value.ref (b n3_24)), (4, Value.int i4_24), (0, Value.ref (b 46))] := hl
    have Y : gy D t b A s.heap X0 X24 H locs := Y
    have hf : f_Mo_value_64 X24 n3_24 i4_24 = some o := hf
    unfold f_Mo_value_64 at hf
    refine lv_aload_n hx hb d_Mo_value_64 rfl (lv_at hl 2 rfl) ?_
    refine lv_iload hx hb d_Mo_value_65 (lv_at hl 1 rfl) ?_
    refine lv_if_ge (tgt := 74) hx hb d_Mo_value_67 (by decide) (fun c67_25 => ?_) (fun c67_25 => ?_)
    · replace hf := gp_t c67_25 hf
      refine lv_iconst (v := 0) hx hb d_Mo_value_74 (by decide) ?_
      exact J75 (X24, n3_24, i4_24, 0) _ _ _ hf (⟨lv_sub hl [0, 1, 2] rfl, hv3_24⟩) Y
    · replace hf := gp_f c67_25 hf
      refine lv_iconst (v := 1) hx hb d_Mo_value_70 (by decide) ?_
      refine lv_goto (tgt := 75) hx hb d_Mo_value_71 (by decide) ?_
      exact J75 (X24, n3_24, i4_24, 1) _ _ _ hf (⟨lv_sub hl [0, 1, 2] rfl, hv3_24⟩) Y
  unfold f_Mo_value at hf
  refine lv_aload_n hx hb d_Mo_value_0 rfl (lv_at hl 0 rfl) ?_
  refine lv_iload_n hx hb d_Mo_value_1 rfl (lv_at hl 1 rfl) ?_
  obtain ⟨x26, X26, hF26, hf⟩ := gCa_el hf
  refine gy_callA (rm := { frames := 1, cells := 0, slots := 0, locals := 12 }) (ig := .invokevirtual 257) (av := [Value.ref (b 46), Value.int a1]) Y (fun ws h hS hw => K_Mo_reading l htr D tys z _ ws h hS t ht b X0 hw a1 (gR.a x26, X26) hF26) (gx_invV (As := [Value.int a1]) (rest := []) hx hb hown hts km_Mo_257 kI_Mo_reading kV_Mo_reading kc_Mo_reading (by decide) (show (parseMethodDescriptor y_Mo_reading.desc).map (fun d => d.parameters.length) = some 1 by decide +kernel) (gy_recv (ci := 8) hK Y rfl gF_46) rfl rfl d_Mo_value_2) (gx_cw (z := 0) hts kc_Mo_reading kN_Mo rfl rfl ⟨Nat.le_of_ble_eq_true rfl, Nat.le_of_ble_eq_true rfl⟩) hb hml hz hK hY hAz hA hl.1 (lv_room (Nat.le_of_ble_eq_true rfl)) d_Mo_value_2 ⟨Nat.zero_le _, Nat.zero_le _⟩ (fun H locs Y => ?_)
  obtain ⟨n26, e9, hf⟩ := gM_el hf
  subst e9
  obtain ⟨hv26, hf⟩ := gp_g hf
  refine W.eq (g2 := F0 m 5 ls [Value.ref (b n26)]) rfl ?_
  refine lv_astore_n (lv' := [(3, Value.ref (b n26)), (0, Value.ref (b 46)), (1, Value.int a1), (2, Value.int a2)]) hx hb d_Mo_value_5 rfl hl (by decide) rfl (fun ls hl => ?_)
  refine lv_iconst (v := (-1)) hx hb d_Mo_value_6 (by decide) ?_
  refine lv_istore (lv' := [(4, Value.int (-1)), (3, Value.ref (b n26)), (0, Value.ref (b 46)), (1, Value.int a1), (2, Value.int a2)]) hx hb d_Mo_value_7 hl (by decide) rfl (fun ls hl => ?_)
  refine lv_iconst (v := 0) hx hb d_Mo_value_9 (by decide) ?_
  refine lv_istore (lv' := [(5, Value.int 0), (4, Value.int (-1)), (3, Value.ref (b n26)), (0, Value.ref (b 46)), (1, Value.int a1), (2, Value.int a2)]) hx hb d_Mo_value_10 hl (by decide) rfl (fun ls hl => ?_)
  refine gy_iter (fun s : gX × Int32 × Int32 => s.1) (fun (s : gX × Int32 × Int32) ls => lv_has ls 6 [(4, Value.int s.2.1), (5, Value.int s.2.2), (0, Value.ref (b 46)), (2, Value.int a2), (3, Value.ref (b n26))]) ?_ gK (X26, (-1), 0) _ _ _ hf (lv_sub hl [1, 0, 3, 5, 2] rfl) Y
  rintro ⟨X27, i4_27, i5_27⟩ u27 H locs ls hf hl Y hk27 ho27
  have hl : lv_has ls 6 [(4, Value.int i4_27), (5, Value.int i5_27), (0, Value.ref (b 46)), (2, Value.int a2), (3, Value.ref (b n26))] := hl
  have Y : gy D t b A s.heap X0 X27 H locs := Y
  have hf : f_Mo_value_12 X27 a2 n26 i4_27 i5_27 = some u27 := hf
  refine gy_cut (pcJ := 58) Y (fun s : gX × Int32 × Int32 => f_Mo_value_58 s.1 a2 n26 s.2.1 s.2.2) u27 (fun s => s.1) (fun s ls => lv_has ls 6 [(4, Value.int s.2.1), (5, Value.int s.2.2), (0, Value.ref (b 46)), (2, Value.int a2), (3, Value.ref (b n26))]) (fun s => []) ?_ (fun J58 => ?_)
  · rintro ⟨X28, i4_28, i5_28⟩ H locs ls hf hl Y
    have hl : lv_has ls 6 [(4, Value.int i4_28), (5, Value.int i5_28), (0, Value.ref (b 46)), (2, Value.int a2), (3, Value.ref (b n26))] := hl
    have Y : gy D t b A s.heap X0 X28 H locs := Y
    have hf : f_Mo_value_58 X28 a2 n26 i4_28 i5_28 = some u27 := hf
    unfold f_Mo_value_58 at hf
    refine lv_iinc (v := i5_28 + 1) (lv' := [(5, Value.int (i5_28 + 1)), (4, Value.int i4_28), (0, Value.ref (b 46)), (2, Value.int a2), (3, Value.ref (b n26))]) hx hb d_Mo_value_58 hl (k := 1) rfl (rfl) (by decide) rfl (fun ls hl => ?_)
    refine lv_goto (tgt := 12) hx hb d_Mo_value_61 (by decide) ?_
    exact hk27 _ _ _ _ hf (lv_sub hl [1, 0, 2, 3, 4] rfl) Y
  unfold f_Mo_value_12 at hf
  refine lv_iload hx hb d_Mo_value_12 (lv_at hl 1 rfl) ?_
  refine lv_aload_n hx hb d_Mo_value_14 rfl (lv_at hl 4 rfl) ?_
  obtain ⟨x29, X29, hF29, hf⟩ := gCi_el hf
  refine gy_callI (rm := { frames := 1, cells := 0, slots := 0, locals := 12 }) (ig := .invokevirtual 200) (av := [Value.ref (b n26)]) Y (fun ws h hS hw => K_Ve_docs l htr D tys z _ ws h hS t ht b X27 hw n26 hv26 (gR.i x29, X29) hF29) (gx_invV (As := []) (rest := [Value.int i5_27]) hx hb hown hts km_Mo_200 kI_Ve_docs kV_Ve_docs kc_Ve_docs (by decide) (show (parseMethodDescriptor y_Ve_docs.desc).map (fun d => d.parameters.length) = some 0 by decide +kernel) (gy_recv (ci := 9) hK Y rfl (gF_Ve hv26)) rfl rfl d_Mo_value_15) (gx_cw (z := 0) hts kc_Ve_docs kN_Ve rfl rfl ⟨Nat.le_of_ble_eq_true rfl, Nat.le_of_ble_eq_true rfl⟩) hb hml hz hK hY hAz hA hl.1 (lv_room (Nat.le_of_ble_eq_true rfl)) d_Mo_value_15 ⟨Nat.zero_le _, Nat.zero_le _⟩ (fun H locs Y => ?_)
  refine lv_icmp_ge (tgt := 64) hx hb d_Mo_value_18 (by decide) (fun c18_30 => ?_) (fun c18_30 => ?_)
  · replace hf := gp_t c18_30 hf
    replace hf := gU hf ho27
    exact J64 (X29, n26, i4_27) _ _ _ hf (⟨lv_sub hl [4, 0, 2] rfl, hv26⟩) Y
  · replace hf := gp_f c18_30 hf
    refine lv_aload_n hx hb d_Mo_value_21 rfl (lv_at hl 2 rfl) ?_
    refine gy_get (ci := 8) (v := Value.int (X29.I 46 0)) (C := "CommitLedgerModel") (T := F_Mo) (N := 35) hx hb hts i_Mo hown hK Y gF_46 rfl 0 (by decide) kf_Mo_84 rfl d_Mo_value_22 ?_
    refine lv_if_ne (tgt := 64) hx hb d_Mo_value_25 (by decide) (fun c25_31 => ?_) (fun c25_31 => ?_)
    · replace hf := gp_f c25_31 hf
      replace hf := gU hf ho27
      exact J64 (X29, n26, i4_27) _ _ _ hf (⟨lv_sub hl [4, 0, 2] rfl, hv26⟩) Y
    · replace hf := gp_t c25_31 hf
      refine lv_aload_n hx hb d_Mo_value_28 rfl (lv_at hl 4 rfl) ?_
      refine gy_get (ci := 9) (v := Value.ref (b (n26 + 6))) (C := "CommitLedgerModel$Version") (T := F_Ve) (N := 11) hx hb hts i_Ve hown hK Y (gF_Ve hv26) rfl 5 (by decide) kf_Mo_188 rfl d_Mo_value_29 ?_
      refine lv_iload hx hb d_Mo_value_32 (lv_at hl 1 rfl) ?_
      refine gy_zald hf hx hb hK Y 1 (fun _ => (gF_Ve6 hv26)) ht1 d_Mo_value_34 (fun _ hf => ?_)
      refine lv_if_eq (tgt := 58) hx hb d_Mo_value_35 (by decide) (fun c35_32 => ?_) (fun c35_32 => ?_)
      · replace hf := gp_t c35_32 hf
        exact J58 (X29, i4_27, i5_27) _ _ _ hf (lv_sub hl [0, 1, 2, 3, 4] rfl) Y
      · replace hf := gp_f c35_32 hf
        refine lv_aload_n hx hb d_Mo_value_38 rfl (lv_at hl 2 rfl) ?_
        refine gy_get (ci := 8) (v := Value.ref (b 47)) (C := "CommitLedgerModel") (T := F_Mo) (N := 35) hx hb hts i_Mo hown hK Y gF_46 rfl 2 (by decide) kf_Mo_9 rfl d_Mo_value_39 ?_
        refine lv_aload_n hx hb d_Mo_value_42 rfl (lv_at hl 4 rfl) ?_
        refine gy_get (ci := 9) (v := Value.ref (b (n26 + 5))) (C := "CommitLedgerModel$Version") (T := F_Ve) (N := 11) hx hb hts i_Ve hown hK Y (gF_Ve hv26) rfl 4 (by decide) kf_Mo_185 rfl d_Mo_value_43 ?_
        refine lv_iload hx hb d_Mo_value_46 (lv_at hl 1 rfl) ?_
        refine gy_iald hf hx hb hK Y 0 (fun _ => (gF_Ve5 hv26)) ht0 d_Mo_value_48 (fun _ hf => ?_)
        refine gy_iald hf hx hb hK Y 0 (fun _ => gF_47) ht0 d_Mo_value_49 (fun _ hf => ?_)
        refine lv_iload_n hx hb d_Mo_value_50 rfl (lv_at hl 3 rfl) ?_
        refine lv_icmp_ne (tgt := 58) hx hb d_Mo_value_51 (by decide) (fun c51_33 => ?_) (fun c51_33 => ?_)
        · replace hf := gp_f c51_33 hf
          exact J58 (X29, i4_27, i5_27) _ _ _ hf (lv_sub hl [0, 1, 2, 3, 4] rfl) Y
        · replace hf := gp_t c51_33 hf
          refine lv_iload hx hb d_Mo_value_54 (lv_at hl 1 rfl) ?_
          refine lv_istore (lv' := [(4, Value.int i5_27), (5, Value.int i5_27), (0, Value.ref (b 46)), (2, Value.int a2), (3, Value.ref (b n26))]) hx hb d_Mo_value_56 hl (by decide) rfl (fun ls hl => ?_)
          exact J58 (X29, i5_27, i5_27) _ _ _ hf (lv_sub hl [0, 1, 2, 3, 4] rfl) Y

def f_Mo_many_50 (X : gX) (i2 : Int32) (n3 : Nat) (i4 : Int32) (i5 : Int32) : Option ((gX × Int32 × Int32) ⊕ (gR × gX)) := some (Sum.inl (X, i4, i5 + 1))
def f_Mo_many_12 (X : gX) (i2 : Int32) (n3 : Nat) (i4 : Int32) (i5 : Int32) : Option ((gX × Int32 × Int32) ⊕ (gR × gX)) := gCi (f_Ve_docs X n3) (fun x3 X3 => (if x3 ≤ i5 then gCi (f_Mo_done X3 i4 3) (fun x5 X5 => gLf (some (gR.i x5, X5))) else (if gIn i5 4096 then (if (X3.I (n3 + 6) (gn i5)) = (0 : Int32) then f_Mo_many_50 X3 i2 n3 i4 i5 else (if gIn i5 4096 then (if gIn (X3.I (n3 + 5) (gn i5)) 4096 then (if (X3.I 47 (gn (X3.I (n3 + 5) (gn i5)))) = i2 then f_Mo_many_50 X3 i2 n3 (i4 + 1) i5 else f_Mo_many_50 X3 i2 n3 i4 i5) else none) else none)) else none)))
def f_Mo_many (X0 : gX) (a1 : Int32) (a2 : Int32) : Option (gR × gX) := gCa (f_Mo_reading X0 a1) (fun x1 X1 => gM x1 (fun n1 => (if gVer n1 then gI (fun s : gX × Int32 × Int32 => f_Mo_many_12 s.1 a2 n1 s.2.1 s.2.2) gK (X1, 0, 0) else none)))
set_option maxHeartbeats 4000000 in
set_option maxRecDepth 100000 in
theorem K_Mo_many (l : Launch) (htr : l.stackTraces = false) (D : va_G) (tys : List (ClassId × FieldType)) (z sz : Nat) (ws : va_W) (h : gm_M) (hM : gm_S h ws) (t : Nat → ClassId) (ht : gTy t tys) (b : Nat → Nat) (X0 : gX) (hw : gw D t b X0 h) (a1 : Int32) (a2 : Int32) (o : gR × gX) (hf : f_Mo_many X0 a1 a2 = some o) : gx_Met l y_Mo_many [Cond.code y_Mo_many b_Mo_many 6 (some .int)] { frames := 2, cells := 0, slots := 0, locals := 37 } (gx_P z sz D classes tys ws [Value.ref (b 46), Value.int a1, Value.int a2]) (gx_Q D classes tys (va_A ws sz) (gPo D t b X0 o)) (0) (0) (va_A ws sz) := by
  refine gx_ofW (cc := b_Mo_many) (maxL := 6) (ret := (some .int)) (by decide) rfl ?_
  intro p e s m args below meth c s₁ B hml hv
  obtain ⟨rfl, hsz, hz, hP, hK, hD0, hY⟩ := hv
  have hx := B.exec
  have hb := B.bytes
  have hr := B.returns
  have hts := hY.hts (#[Value.ref (b 46), Value.int a1, Value.int a2] : Array Value)
  have hown : s.vm.findClass "CommitLedgerModel" = some m.cls := findClass_of_methodNamed B.named
  have hlocks := B.notSynchronized
  subst hsz
  have hAz := gx_az hD0 hz
  have hD := hD0.self (sz := s.heap.size)
  have hA : ∀ q : Nat, s.heap.size ≤ q → va_A ws s.heap.size q := fun q h => Or.inr h
  generalize va_A ws s.heap.size = A at hD hA hAz ⊢
  have Y : gy D t b A s.heap X0 X0 s.heap [] := ⟨h, ⟨ws, hM, hP, hD, va_S.rf⟩, hw, gEq.rf⟩
  clear hP hD hM hD0 hw
  obtain ⟨ht0, ht1, ht2, ht3, ht4, ht5, ht6, ht7, ht8⟩ := id ht
  have hl := lv_entry ([Value.ref (b 46), Value.int a1, Value.int a2]) (n := 6) (Nat.le_of_ble_eq_true rfl)
  rw [lg_entry_eq]
  generalize (lg_sl ([Value.ref (b 46), Value.int a1, Value.int a2]) ++ List.replicate (6 - (lg_sl ([Value.ref (b 46), Value.int a1, Value.int a2])).length) Slot.unset).toArray = ls at hl ⊢
  have hl : lv_has ls 6 [(0, Value.ref (b 46)), (1, Value.int a1), (2, Value.int a2)] := hl
  unfold f_Mo_many at hf
  refine lv_aload_n hx hb d_Mo_many_0 rfl (lv_at hl 0 rfl) ?_
  refine lv_iload_n hx hb d_Mo_many_1 rfl (lv_at hl 1 rfl) ?_
  obtain ⟨x14, X14, hF14, hf⟩ := gCa_el hf
  refine gy_callA (rm := { frames := 1, cells := 0, slots := 0, locals := 12 }) (ig := .invokevirtual 257) (av := [Value.ref (b 46), Value.int a1]) Y (fun ws h hS hw => K_Mo_reading l htr D tys z _ ws h hS t ht b X0 hw a1 (gR.a x14, X14) hF14) (gx_invV (As := [Value.int a1]) (rest := []) hx hb hown hts km_Mo_257 kI_Mo_reading kV_Mo_reading kc_Mo_reading (by decide) (show (parseMethodDescriptor y_Mo_reading.desc).map (fun d => d.parameters.length) = some 1 by decide +kernel) (gy_recv (ci := 8) hK Y rfl gF_46) rfl rfl d_Mo_many_2) (gx_cw (z := 0) hts kc_Mo_reading kN_Mo rfl rfl ⟨Nat.le_of_ble_eq_true rfl, Nat.le_of_ble_eq_true rfl⟩) hb hml hz hK hY hAz hA hl.1 (lv_room (Nat.le_of_ble_eq_true rfl)) d_Mo_many_2 ⟨Nat.zero_le _, Nat.zero_le _⟩ (fun H locs Y => ?_)
  obtain ⟨n14, e9, hf⟩ := gM_el hf
  subst e9
  obtain ⟨hv14, hf⟩ := gp_g hf
  refine W.eq (g2 := F0 m 5 ls [Value.ref (b n14)]) rfl ?_
  refine lv_astore_n (lv' := [(3, Value.ref (b n14)), (0, Value.ref (b 46)), (1, Value.int a1), (2, Value.int a2)]) hx hb d_Mo_many_5 rfl hl (by decide) rfl (fun ls hl => ?_)
  refine lv_iconst (v := 0) hx hb d_Mo_many_6 (by decide) ?_
  refine lv_istore (lv' := [(4, Value.int 0), (3, Value.ref (b n14)), (0, Value.ref (b 46)), (1, Value.int a1), (2, Value.int a2)]) hx hb d_Mo_many_7 hl (by decide) rfl (fun ls hl => ?_)
  refine lv_iconst (v := 0) hx hb d_Mo_many_9 (by decide) ?_
  refine lv_istore (lv' := [(5, Value.int 0), (4, Value.int 0), (3, Value.ref (b n14)), (0, Value.ref (b 46)), (1, Value.int a1), (2, Value.int a2)]) hx hb d_Mo_many_10 hl (by decide) rfl (fun ls hl => ?_)
  refine gy_iter (fun s : gX × Int32 × Int32 => s.1) (fun (s : gX × Int32 × Int32) ls => lv_has ls 6 [(4, Value.int s.2.1), (5, Value.int s.2.2), (0, Value.ref (b 46)), (2, Value.int a2), (3, Value.ref (b n14))]) ?_ gK (X14, 0, 0) _ _ _ hf (lv_sub hl [1, 0, 3, 5, 2] rfl) Y
  rintro ⟨X15, i4_15, i5_15⟩ u15 H locs ls hf hl Y hk15 ho15
  have hl : lv_has ls 6 [(4, Value.int i4_15), (5, Value.int i5_15), (0, Value.ref (b 46)), (2, Value.int a2), (3, Value.ref (b n14))] := hl
  have Y : gy D t b A s.heap X0 X15 H locs := Y
  have hf : f_Mo_many_12 X15 a2 n14 i4_15 i5_15 = some u15 := hf
  refine gy_cut (pcJ := 50) Y (fun s : gX × Int32 × Int32 => f_Mo_many_50 s.1 a2 n14 s.2.1 s.2.2) u15 (fun s => s.1) (fun s ls => lv_has ls 6 [(4, Value.int s.2.1), (5, Value.int s.2.2), (0, Value.ref (b 46)), (2, Value.int a2), (3, Value.ref (b n14))]) (fun s => []) ?_ (fun J50 => ?_)
  · rintro ⟨X16, i4_16, i5_16⟩ H locs ls hf hl Y
    have hl : lv_has ls 6 [(4, Value.int i4_16), (5, Value.int i5_16), (0, Value.ref (b 46)), (2, Value.int a2), (3, Value.ref (b n14))] := hl
    have Y : gy D t b A s.heap X0 X16 H locs := Y
    have hf : f_Mo_many_50 X16 a2 n14 i4_16 i5_16 = some u15 := hf
    unfold f_Mo_many_50 at hf
    refine lv_iinc (v := i5_16 + 1) (lv' := [(5, Value.int (i5_16 + 1)), (4, Value.int i4_16), (0, Value.ref (b 46)), (2, Value.int a2), (3, Value.ref (b n14))]) hx hb d_Mo_many_50 hl (k := 1) rfl (rfl) (by decide) rfl (fun ls hl => ?_)
    refine lv_goto (tgt := 12) hx hb d_Mo_many_53 (by decide) ?_
    exact hk15 _ _ _ _ hf (lv_sub hl [1, 0, 2, 3, 4] rfl) Y
  unfold f_Mo_many_12 at hf
  refine lv_iload hx hb d_Mo_many_12 (lv_at hl 1 rfl) ?_
  refine lv_aload_n hx hb d_Mo_many_14 rfl (lv_at hl 4 rfl) ?_
  obtain ⟨x17, X17, hF17, hf⟩ := gCi_el hf
  refine gy_callI (rm := { frames := 1, cells := 0, slots := 0, locals := 12 }) (ig := .invokevirtual 200) (av := [Value.ref (b n14)]) Y (fun ws h hS hw => K_Ve_docs l htr D tys z _ ws h hS t ht b X15 hw n14 hv14 (gR.i x17, X17) hF17) (gx_invV (As := []) (rest := [Value.int i5_15]) hx hb hown hts km_Mo_200 kI_Ve_docs kV_Ve_docs kc_Ve_docs (by decide) (show (parseMethodDescriptor y_Ve_docs.desc).map (fun d => d.parameters.length) = some 0 by decide +kernel) (gy_recv (ci := 9) hK Y rfl (gF_Ve hv14)) rfl rfl d_Mo_many_15) (gx_cw (z := 0) hts kc_Ve_docs kN_Ve rfl rfl ⟨Nat.le_of_ble_eq_true rfl, Nat.le_of_ble_eq_true rfl⟩) hb hml hz hK hY hAz hA hl.1 (lv_room (Nat.le_of_ble_eq_true rfl)) d_Mo_many_15 ⟨Nat.zero_le _, Nat.zero_le _⟩ (fun H locs Y => ?_)
  refine lv_icmp_ge (tgt := 56) hx hb d_Mo_many_18 (by decide) (fun c18_18 => ?_) (fun c18_18 => ?_)
  · replace hf := gp_t c18_18 hf
    refine lv_aload_n hx hb d_Mo_many_56 rfl (lv_at hl 2 rfl) ?_
    refine lv_iload hx hb d_Mo_many_57 (lv_at hl 0 rfl) ?_
    refine lv_iconst (v := 3) hx hb d_Mo_many_59 (by decide) ?_
    obtain ⟨x19, X19, hF19, hf⟩ := gCi_el hf
    refine gy_callI (rm := { frames := 1, cells := 0, slots := 0, locals := 12 }) (ig := .invokevirtual 148) (av := [Value.ref (b 46), Value.int i4_15, Value.int 3]) Y (fun ws h hS hw => K_Mo_done l htr D tys z _ ws h hS t ht b X17 hw i4_15 3 (gR.i x19, X19) hF19) (gx_invV (As := [Value.int i4_15, Value.int 3]) (rest := []) hx hb hown hts km_Mo_148 kI_Mo_done kV_Mo_done kc_Mo_done (by decide) (show (parseMethodDescriptor y_Mo_done.desc).map (fun d => d.parameters.length) = some 2 by decide +kernel) (gy_recv (ci := 8) hK Y rfl gF_46) rfl rfl d_Mo_many_60) (gx_cw (z := 0) hts kc_Mo_done kN_Mo rfl rfl ⟨Nat.le_of_ble_eq_true rfl, Nat.le_of_ble_eq_true rfl⟩) hb hml hz hK hY hAz hA hl.1 (lv_room (Nat.le_of_ble_eq_true rfl)) d_Mo_many_60 ⟨Nat.zero_le _, Nat.zero_le _⟩ (fun H locs Y => ?_)
    replace hf := gU hf ho15
    exact gy_iret hf hx hb hr hlocks hK Y (Nat.zero_le _) (Nat.zero_le _) d_Mo_many_63
  · replace hf := gp_f c18_18 hf
    refine lv_aload_n hx hb d_Mo_many_21 rfl (lv_at hl 4 rfl) ?_
    refine gy_get (ci := 9) (v := Value.ref (b (n14 + 6))) (C := "CommitLedgerModel$Version") (T := F_Ve) (N := 11) hx hb hts i_Ve hown hK Y (gF_Ve hv14) rfl 5 (by decide) kf_Mo_188 rfl d_Mo_many_22 ?_
    refine lv_iload hx hb d_Mo_many_25 (lv_at hl 1 rfl) ?_
    refine gy_zald hf hx hb hK Y 1 (fun _ => (gF_Ve6 hv14)) ht1 d_Mo_many_27 (fun _ hf => ?_)
    refine lv_if_eq (tgt := 50) hx hb d_Mo_many_28 (by decide) (fun c28_20 => ?_) (fun c28_20 => ?_)
    · replace hf := gp_t c28_20 hf
      exact J50 (X17, i4_15, i5_15) _ _ _ hf (lv_sub hl [0, 1, 2, 3, 4] rfl) Y
    · replace hf := gp_f c28_20 hf
      refine lv_aload_n hx hb d_Mo_many_31 rfl (lv_at hl 2 rfl) ?_
      refine gy_get (ci := 8) (v := Value.ref (b 47)) (C := "CommitLedgerModel") (T := F_Mo) (N := 35) hx hb hts i_Mo hown hK Y gF_46 rfl 2 (by decide) kf_Mo_9 rfl d_Mo_many_32 ?_
      refine lv_aload_n hx hb d_Mo_many_35 rfl (lv_at hl 4 rfl) ?_
      refine gy_get (ci := 9) (v := Value.ref (b (n14 + 5))) (C := "CommitLedgerModel$Version") (T := F_Ve) (N := 11) hx hb hts i_Ve hown hK Y (gF_Ve hv14) rfl 4 (by decide) kf_Mo_185 rfl d_Mo_many_36 ?_
      refine lv_iload hx hb d_Mo_many_39 (lv_at hl 1 rfl) ?_
      refine gy_iald hf hx hb hK Y 0 (fun _ => (gF_Ve5 hv14)) ht0 d_Mo_many_41 (fun _ hf => ?_)
      refine gy_iald hf hx hb hK Y 0 (fun _ => gF_47) ht0 d_Mo_many_42 (fun _ hf => ?_)
      refine lv_iload_n hx hb d_Mo_many_43 rfl (lv_at hl 3 rfl) ?_
      refine lv_icmp_ne (tgt := 50) hx hb d_Mo_many_44 (by decide) (fun c44_21 => ?_) (fun c44_21 => ?_)
      · replace hf := gp_f c44_21 hf
        exact J50 (X17, i4_15, i5_15) _ _ _ hf (lv_sub hl [0, 1, 2, 3, 4] rfl) Y
      · replace hf := gp_t c44_21 hf
        refine lv_iinc (v := i4_15 + 1) (lv' := [(4, Value.int (i4_15 + 1)), (5, Value.int i5_15), (0, Value.ref (b 46)), (2, Value.int a2), (3, Value.ref (b n14))]) hx hb d_Mo_many_47 hl (k := 0) rfl (rfl) (by decide) rfl (fun ls hl => ?_)
        exact J50 (X17, i4_15 + 1, i5_15) _ _ _ hf (lv_sub hl [0, 1, 2, 3, 4] rfl) Y

def f_Mo_serial_74 (X : gX) : Option (gR × gX) := gCi (f_Mo_wrong X 1 3) (fun x5 X5 => gCi (f_Mo_done X5 0 3) (fun x6 X6 => some (gR.i x6, X6)))
def f_Mo_serial_68 (X : gX) (i2 : Int32) (n3 : Nat) (i4 : Int32) (i5 : Int32) : Option ((gX × Int32 × Int32) ⊕ (gR × gX)) := some (Sum.inl (X, i4, i5 + 1))
def f_Mo_serial_12 (X : gX) (i2 : Int32) (n3 : Nat) (i4 : Int32) (i5 : Int32) : Option ((gX × Int32 × Int32) ⊕ (gR × gX)) := gCi (f_Ve_docs X n3) (fun x3 X3 => (if x3 ≤ i5 then gLf (f_Mo_serial_74 X3) else (if (X3.I 46 0) = (0 : Int32) then (if gIn i5 4096 then (if (X3.I (n3 + 6) (gn i5)) = (0 : Int32) then f_Mo_serial_68 X3 i2 n3 i4 i5 else (if i4 = i2 then (if gIn i5 4096 then (if gIn (X3.I (n3 + 5) (gn i5)) 4096 then gCi (f_Mo_done X3 (X3.I 49 (gn (X3.I (n3 + 5) (gn i5)))) 3) (fun x10 X10 => gLf (some (gR.i x10, X10))) else none) else none) else f_Mo_serial_68 X3 i2 n3 (i4 + 1) i5)) else none) else gLf (f_Mo_serial_74 X3))))
def f_Mo_serial (X0 : gX) (a1 : Int32) (a2 : Int32) : Option (gR × gX) := gCa (f_Mo_reading X0 a1) (fun x1 X1 => gM x1 (fun n1 => (if gVer n1 then gI (fun s : gX × Int32 × Int32 => f_Mo_serial_12 s.1 a2 n1 s.2.1 s.2.2) gK (X1, 0, 0) else none)))
set_option maxHeartbeats 4000000 in
set_option maxRecDepth 100000 in
theorem K_Mo_serial (l : Launch) (htr : l.stackTraces = false) (D : va_G) (tys : List (ClassId × FieldType)) (z sz : Nat) (ws : va_W) (h : gm_M) (hM : gm_S h ws) (t : Nat → ClassId) (ht : gTy t tys) (b : Nat → Nat) (X0 : gX) (hw : gw D t b X0 h) (a1 : Int32) (a2 : Int32) (o : gR × gX) (hf : f_Mo_serial X0 a1 a2 = some o) : gx_Met l y_Mo_serial [Cond.code y_Mo_serial b_Mo_serial 6 (some .int)] { frames := 2, cells := 0, slots := 0, locals := 37 } (gx_P z sz D classes tys ws [Value.ref (b 46), Value.int a1, Value.int a2]) (gx_Q D classes tys (va_A ws sz) (gPo D t b X0 o)) (0) (0) (va_A ws sz) := by
  refine gx_ofW (cc := b_Mo_serial) (maxL := 6) (ret := (some .int)) (by decide) rfl ?_
  intro p e s m args below meth c s₁ B hml hv
  obtain ⟨rfl, hsz, hz, hP, hK, hD0, hY⟩ := hv
  have hx := B.exec
  have hb := B.bytes
  have hr := B.returns
  have hts := hY.hts (#[Value.ref (b 46), Value.int a1, Value.int a2] : Array Value)
  have hown : s.vm.findClass "CommitLedgerModel" = some m.cls := findClass_of_methodNamed B.named
  have hlocks := B.notSynchronized
  subst hsz
  have hAz := gx_az hD0 hz
  have hD := hD0.self (sz := s.heap.size)
  have hA : ∀ q : Nat, s.heap.size ≤ q → va_A ws s.heap.size q := fun q h => Or.inr h
  generalize va_A ws s.heap.size = A at hD hA hAz ⊢
  have Y : gy D t b A s.heap X0 X0 s.heap [] := ⟨h, ⟨ws, hM, hP, hD, va_S.rf⟩, hw, gEq.rf⟩
  clear hP hD hM hD0 hw
  obtain ⟨ht0, ht1, ht2, ht3, ht4, ht5, ht6, ht7, ht8⟩ := id ht
  have hl := lv_entry ([Value.ref (b 46), Value.int a1, Value.int a2]) (n := 6) (Nat.le_of_ble_eq_true rfl)
  rw [lg_entry_eq]
  generalize (lg_sl ([Value.ref (b 46), Value.int a1, Value.int a2]) ++ List.replicate (6 - (lg_sl ([Value.ref (b 46), Value.int a1, Value.int a2])).length) Slot.unset).toArray = ls at hl ⊢
  have hl : lv_has ls 6 [(0, Value.ref (b 46)), (1, Value.int a1), (2, Value.int a2)] := hl
  refine gy_cut (pcJ := 74) Y (fun s : gX => f_Mo_serial_74 s) o (fun s => s) (fun s ls => lv_has ls 6 [(0, Value.ref (b 46))]) (fun s => []) ?_ (fun J74 => ?_)
  · rintro X18 H locs ls hf hl Y
    have hl : lv_has ls 6 [(0, Value.ref (b 46))] := hl
    have Y : gy D t b A s.heap X0 X18 H locs := Y
    have hf : f_Mo_serial_74 X18 = some o := hf
    unfold f_Mo_serial_74 at hf
    refine lv_aload_n hx hb d_Mo_serial_74 rfl (lv_at hl 0 rfl) ?_
    refine lv_iconst (v := 1) hx hb d_Mo_serial_75 (by decide) ?_
    refine lv_iconst (v := 3) hx hb d_Mo_serial_76 (by decide) ?_
    obtain ⟨x19, X19, hF19, hf⟩ := gCi_el hf
    refine gy_callI (rm := { frames := 1, cells := 0, slots := 0, locals := 12 }) (ig := .invokevirtual 152) (av := [Value.ref (b 46), Value.int 1, Value.int 3]) Y (fun ws h hS hw => K_Mo_wrong l htr D tys z _ ws h hS t ht b X18 hw 1 3 (gR.i x19, X19) hF19) (gx_invV (As := [Value.int 1, Value.int 3]) (rest := []) hx hb hown hts km_Mo_152 kI_Mo_wrong kV_Mo_wrong kc_Mo_wrong (by decide) (show (parseMethodDescriptor y_Mo_wrong.desc).map (fun d => d.parameters.length) = some 2 by decide +kernel) (gy_recv (ci := 8) hK Y rfl gF_46) rfl rfl d_Mo_serial_77) (gx_cw (z := 0) hts kc_Mo_wrong kN_Mo rfl rfl ⟨Nat.le_of_ble_eq_true rfl, Nat.le_of_ble_eq_true rfl⟩) hb hml hz hK hY hAz hA hl.1 (lv_room (Nat.le_of_ble_eq_true rfl)) d_Mo_serial_77 ⟨Nat.zero_le _, Nat.zero_le _⟩ (fun H locs Y => ?_)
    refine lv_pop hx hb d_Mo_serial_80 rfl ?_
    refine lv_aload_n hx hb d_Mo_serial_81 rfl (lv_at hl 0 rfl) ?_
    refine lv_iconst (v := 0) hx hb d_Mo_serial_82 (by decide) ?_
    refine lv_iconst (v := 3) hx hb d_Mo_serial_83 (by decide) ?_
    obtain ⟨x20, X20, hF20, hf⟩ := gCi_el hf
    refine gy_callI (rm := { frames := 1, cells := 0, slots := 0, locals := 12 }) (ig := .invokevirtual 148) (av := [Value.ref (b 46), Value.int 0, Value.int 3]) Y (fun ws h hS hw => K_Mo_done l htr D tys z _ ws h hS t ht b X19 hw 0 3 (gR.i x20, X20) hF20) (gx_invV (As := [Value.int 0, Value.int 3]) (rest := []) hx hb hown hts km_Mo_148 kI_Mo_done kV_Mo_done kc_Mo_done (by decide) (show (parseMethodDescriptor y_Mo_done.desc).map (fun d => d.parameters.length) = some 2 by decide +kernel) (gy_recv (ci := 8) hK Y rfl gF_46) rfl rfl d_Mo_serial_84) (gx_cw (z := 0) hts kc_Mo_done kN_Mo rfl rfl ⟨Nat.le_of_ble_eq_true rfl, Nat.le_of_ble_eq_true rfl⟩) hb hml hz hK hY hAz hA hl.1 (lv_room (Nat.le_of_ble_eq_true rfl)) d_Mo_serial_84 ⟨Nat.zero_le _, Nat.zero_le _⟩ (fun H locs Y => ?_)
    exact gy_iret hf hx hb hr hlocks hK Y (Nat.zero_le _) (Nat.zero_le _) d_Mo_serial_87
  unfold f_Mo_serial at hf
  refine lv_aload_n hx hb d_Mo_serial_0 rfl (lv_at hl 0 rfl) ?_
  refine lv_iload_n hx hb d_Mo_serial_1 rfl (lv_at hl 1 rfl) ?_
  obtain ⟨x21, X21, hF21, hf⟩ := gCa_el hf
  refine gy_callA (rm := { frames := 1, cells := 0, slots := 0, locals := 12 }) (ig := .invokevirtual 257) (av := [Value.ref (b 46), Value.int a1]) Y (fun ws h hS hw => K_Mo_reading l htr D tys z _ ws h hS t ht b X0 hw a1 (gR.a x21, X21) hF21) (gx_invV (As := [Value.int a1]) (rest := []) hx hb hown hts km_Mo_257 kI_Mo_reading kV_Mo_reading kc_Mo_reading (by decide) (show (parseMethodDescriptor y_Mo_reading.desc).map (fun d => d.parameters.length) = some 1 by decide +kernel) (gy_recv (ci := 8) hK Y rfl gF_46) rfl rfl d_Mo_serial_2) (gx_cw (z := 0) hts kc_Mo_reading kN_Mo rfl rfl ⟨Nat.le_of_ble_eq_true rfl, Nat.le_of_ble_eq_true rfl⟩) hb hml hz hK hY hAz hA hl.1 (lv_room (Nat.le_of_ble_eq_true rfl)) d_Mo_serial_2 ⟨Nat.zero_le _, Nat.zero_le _⟩ (fun H locs Y => ?_)
  obtain ⟨n21, e9, hf⟩ := gM_el hf
  subst e9
  obtain ⟨hv21, hf⟩ := gp_g hf
  refine W.eq (g2 := F0 m 5 ls [Value.ref (b n21)]) rfl ?_
  refine lv_astore_n (lv' := [(3, Value.ref (b n21)), (0, Value.ref (b 46)), (1, Value.int a1), (2, Value.int a2)]) hx hb d_Mo_serial_5 rfl hl (by decide) rfl (fun ls hl => ?_)
  refine lv_iconst (v := 0) hx hb d_Mo_serial_6 (by decide) ?_
  refine lv_istore (lv' := [(4, Value.int 0), (3, Value.ref (b n21)), (0, Value.ref (b 46)), (1, Value.int a1), (2, Value.int a2)]) hx hb d_Mo_serial_7 hl (by decide) rfl (fun ls hl => ?_)
  refine lv_iconst (v := 0) hx hb d_Mo_serial_9 (by decide) ?_
  refine lv_istore (lv' := [(5, Value.int 0), (4, Value.int 0), (3, Value.ref (b n21)), (0, Value.ref (b 46)), (1, Value.int a1), (2, Value.int a2)]) hx hb d_Mo_serial_10 hl (by decide) rfl (fun ls hl => ?_)
  refine gy_iter (fun s : gX × Int32 × Int32 => s.1) (fun (s : gX × Int32 × Int32) ls => lv_has ls 6 [(4, Value.int s.2.1), (5, Value.int s.2.2), (0, Value.ref (b 46)), (2, Value.int a2), (3, Value.ref (b n21))]) ?_ gK (X21, 0, 0) _ _ _ hf (lv_sub hl [1, 0, 3, 5, 2] rfl) Y
  rintro ⟨X22, i4_22, i5_22⟩ u22 H locs ls hf hl Y hk22 ho22
  have hl : lv_has ls 6 [(4, Value.int i4_22), (5, Value.int i5_22), (0, Value.ref (b 46)), (2, Value.int a2), (3, Value.ref (b n21))] := hl
  have Y : gy D t b A s.heap X0 X22 H locs := Y
  have hf : f_Mo_serial_12 X22 a2 n21 i4_22 i5_22 = some u22 := hf
  refine gy_cut (pcJ := 68) Y (fun s : gX × Int32 × Int32 => f_Mo_serial_68 s.1 a2 n21 s.2.1 s.2.2) u22 (fun s => s.1) (fun s ls => lv_has ls 6 [(4, Value.int s.2.1), (5, Value.int s.2.2), (0, Value.ref (b 46)), (2, Value.int a2), (3, Value.ref (b n21))]) (fun s => []) ?_ (fun J68 => ?_)
  · rintro ⟨X23, i4_23, i5_23⟩ H locs ls hf hl Y
    have hl : lv_has ls 6 [(4, Value.int i4_23), (5, Value.int i5_23), (0, Value.ref (b 46)), (2, Value.int a2), (3, Value.ref (b n21))] := hl
    have Y : gy D t b A s.heap X0 X23 H locs := Y
    have hf : f_Mo_serial_68 X23 a2 n21 i4_23 i5_23 = some u22 := hf
    unfold f_Mo_serial_68 at hf
    refine lv_iinc (v := i5_23 + 1) (lv' := [(5, Value.int (i5_23 + 1)), (4, Value.int i4_23), (0, Value.ref (b 46)), (2, Value.int a2), (3, Value.ref (b n21))]) hx hb d_Mo_serial_68 hl (k := 1) rfl (rfl) (by decide) rfl (fun ls hl => ?_)
    refine lv_goto (tgt := 12) hx hb d_Mo_serial_71 (by decide) ?_
    exact hk22 _ _ _ _ hf (lv_sub hl [1, 0, 2, 3, 4] rfl) Y
  unfold f_Mo_serial_12 at hf
  refine lv_iload hx hb d_Mo_serial_12 (lv_at hl 1 rfl) ?_
  refine lv_aload_n hx hb d_Mo_serial_14 rfl (lv_at hl 4 rfl) ?_
  obtain ⟨x24, X24, hF24, hf⟩ := gCi_el hf
  refine gy_callI (rm := { frames := 1, cells := 0, slots := 0, locals := 12 }) (ig := .invokevirtual 200) (av := [Value.ref (b n21)]) Y (fun ws h hS hw => K_Ve_docs l htr D tys z _ ws h hS t ht b X22 hw n21 hv21 (gR.i x24, X24) hF24) (gx_invV (As := []) (rest := [Value.int i5_22]) hx hb hown hts km_Mo_200 kI_Ve_docs kV_Ve_docs kc_Ve_docs (by decide) (show (parseMethodDescriptor y_Ve_docs.desc).map (fun d => d.parameters.length) = some 0 by decide +kernel) (gy_recv (ci := 9) hK Y rfl (gF_Ve hv21)) rfl rfl d_Mo_serial_15) (gx_cw (z := 0) hts kc_Ve_docs kN_Ve rfl rfl ⟨Nat.le_of_ble_eq_true rfl, Nat.le_of_ble_eq_true rfl⟩) hb hml hz hK hY hAz hA hl.1 (lv_room (Nat.le_of_ble_eq_true rfl)) d_Mo_serial_15 ⟨Nat.zero_le _, Nat.zero_le _⟩ (fun H locs Y => ?_)
  refine lv_icmp_ge (tgt := 74) hx hb d_Mo_serial_18 (by decide) (fun c18_25 => ?_) (fun c18_25 => ?_)
  · replace hf := gp_t c18_25 hf
    replace hf := gU hf ho22
    exact J74 X24 _ _ _ hf (lv_sub hl [2] rfl) Y
  · replace hf := gp_f c18_25 hf
    refine lv_aload_n hx hb d_Mo_serial_21 rfl (lv_at hl 2 rfl) ?_
    refine gy_get (ci := 8) (v := Value.int (X24.I 46 0)) (C := "CommitLedgerModel") (T := F_Mo) (N := 35) hx hb hts i_Mo hown hK Y gF_46 rfl 0 (by decide) kf_Mo_84 rfl d_Mo_serial_22 ?_
    refine lv_if_ne (tgt := 74) hx hb d_Mo_serial_25 (by decide) (fun c25_26 => ?_) (fun c25_26 => ?_)
    · replace hf := gp_f c25_26 hf
      replace hf := gU hf ho22
      exact J74 X24 _ _ _ hf (lv_sub hl [2] rfl) Y
    · replace hf := gp_t c25_26 hf
      refine lv_aload_n hx hb d_Mo_serial_28 rfl (lv_at hl 4 rfl) ?_
      refine gy_get (ci := 9) (v := Value.ref (b (n21 + 6))) (C := "CommitLedgerModel$Version") (T := F_Ve) (N := 11) hx hb hts i_Ve hown hK Y (gF_Ve hv21) rfl 5 (by decide) kf_Mo_188 rfl d_Mo_serial_29 ?_
      refine lv_iload hx hb d_Mo_serial_32 (lv_at hl 1 rfl) ?_
      refine gy_zald hf hx hb hK Y 1 (fun _ => (gF_Ve6 hv21)) ht1 d_Mo_serial_34 (fun _ hf => ?_)
      refine lv_if_ne (tgt := 41) hx hb d_Mo_serial_35 (by decide) (fun c35_27 => ?_) (fun c35_27 => ?_)
      · replace hf := gp_f c35_27 hf
        refine lv_iload hx hb d_Mo_serial_41 (lv_at hl 0 rfl) ?_
        refine lv_iload_n hx hb d_Mo_serial_43 rfl (lv_at hl 3 rfl) ?_
        refine lv_icmp_ne (tgt := 65) hx hb d_Mo_serial_44 (by decide) (fun c44_28 => ?_) (fun c44_28 => ?_)
        · replace hf := gp_f c44_28 hf
          refine lv_iinc (v := i4_22 + 1) (lv' := [(4, Value.int (i4_22 + 1)), (5, Value.int i5_22), (0, Value.ref (b 46)), (2, Value.int a2), (3, Value.ref (b n21))]) hx hb d_Mo_serial_65 hl (k := 0) rfl (rfl) (by decide) rfl (fun ls hl => ?_)
          exact J68 (X24, i4_22 + 1, i5_22) _ _ _ hf (lv_sub hl [0, 1, 2, 3, 4] rfl) Y
        · replace hf := gp_t c44_28 hf
          refine lv_aload_n hx hb d_Mo_serial_47 rfl (lv_at hl 2 rfl) ?_
          refine lv_aload_n hx hb d_Mo_serial_48 rfl (lv_at hl 2 rfl) ?_
          refine gy_get (ci := 8) (v := Value.ref (b 49)) (C := "CommitLedgerModel") (T := F_Mo) (N := 35) hx hb hts i_Mo hown hK Y gF_46 rfl 4 (by decide) kf_Mo_16 rfl d_Mo_serial_49 ?_
          refine lv_aload_n hx hb d_Mo_serial_52 rfl (lv_at hl 4 rfl) ?_
          refine gy_get (ci := 9) (v := Value.ref (b (n21 + 5))) (C := "CommitLedgerModel$Version") (T := F_Ve) (N := 11) hx hb hts i_Ve hown hK Y (gF_Ve hv21) rfl 4 (by decide) kf_Mo_185 rfl d_Mo_serial_53 ?_
          refine lv_iload hx hb d_Mo_serial_56 (lv_at hl 1 rfl) ?_
          refine gy_iald hf hx hb hK Y 0 (fun _ => (gF_Ve5 hv21)) ht0 d_Mo_serial_58 (fun _ hf => ?_)
          refine gy_iald hf hx hb hK Y 0 (fun _ => gF_49) ht0 d_Mo_serial_59 (fun _ hf => ?_)
          refine lv_iconst (v := 3) hx hb d_Mo_serial_60 (by decide) ?_
          obtain ⟨x29, X29, hF29, hf⟩ := gCi_el hf
          refine gy_callI (rm := { frames := 1, cells := 0, slots := 0, locals := 12 }) (ig := .invokevirtual 148) (av := [Value.ref (b 46), Value.int (X24.I 49 (gn (X24.I (n21 + 5) (gn i5_22)))), Value.int 3]) Y (fun ws h hS hw => K_Mo_done l htr D tys z _ ws h hS t ht b X24 hw (X24.I 49 (gn (X24.I (n21 + 5) (gn i5_22)))) 3 (gR.i x29, X29) hF29) (gx_invV (As := [Value.int (X24.I 49 (gn (X24.I (n21 + 5) (gn i5_22)))), Value.int 3]) (rest := []) hx hb hown hts km_Mo_148 kI_Mo_done kV_Mo_done kc_Mo_done (by decide) (show (parseMethodDescriptor y_Mo_done.desc).map (fun d => d.parameters.length) = some 2 by decide +kernel) (gy_recv (ci := 8) hK Y rfl gF_46) rfl rfl d_Mo_serial_61) (gx_cw (z := 0) hts kc_Mo_done kN_Mo rfl rfl ⟨Nat.le_of_ble_eq_true rfl, Nat.le_of_ble_eq_true rfl⟩) hb hml hz hK hY hAz hA hl.1 (lv_room (Nat.le_of_ble_eq_true rfl)) d_Mo_serial_61 ⟨Nat.zero_le _, Nat.zero_le _⟩ (fun H locs Y => ?_)
          replace hf := gU hf ho22
          exact gy_iret hf hx hb hr hlocks hK Y (Nat.zero_le _) (Nat.zero_le _) d_Mo_serial_64
      · replace hf := gp_t c35_27 hf
        refine lv_goto (tgt := 68) hx hb d_Mo_serial_38 (by decide) ?_
        exact J68 (X24, i4_22, i5_22) _ _ _ hf (lv_sub hl [0, 1, 2, 3, 4] rfl) Y

def f_Mo_seen_79 (X : gX) (i1000 : Int32) : Option (gR × gX) := gCi (f_Mo_done X i1000 13) (fun x8 X8 => some (gR.i x8, X8))
def f_Mo_seen_15 (X : gX) (i1 : Int32) (i2 : Int32) (i1000 : Int32) : Option (gR × gX) := gCi (f_Mo_wrong X i1000 1) (fun x2 X2 => (if x2 = (0 : Int32) then gCa (f_Mo_reading X2 i1) (fun x4 X4 => gM x4 (fun n4 => (if gVer n4 then (if (X4.I 46 0) = (0 : Int32) then (if i2 = (0 : Int32) then gCi (f_Ve_live X4 n4) (fun x10 X10 => f_Mo_seen_79 X10 x10) else (if i2 = (1 : Int32) then gCi (f_Ve_docs X4 n4) (fun x9 X9 => f_Mo_seen_79 X9 x9) else f_Mo_seen_79 X4 (X4.I n4 7))) else gCi (f_Mo_done X4 0 13) (fun x11 X11 => some (gR.i x11, X11))) else none))) else gCi (f_Mo_done X2 0 13) (fun x12 X12 => some (gR.i x12, X12))))
def f_Mo_seen_10 (X : gX) (i1 : Int32) (i2 : Int32) : Option (gR × gX) := f_Mo_seen_15 X i1 i2 1
def f_Mo_seen (X0 : gX) (a1 : Int32) (a2 : Int32) : Option (gR × gX) := (if a2 < (0 : Int32) then f_Mo_seen_10 X0 a1 a2 else (if a2 ≤ (2 : Int32) then f_Mo_seen_15 X0 a1 a2 0 else f_Mo_seen_10 X0 a1 a2))
set_option maxHeartbeats 4000000 in
set_option maxRecDepth 100000 in
theorem K_Mo_seen (l : Launch) (htr : l.stackTraces = false) (D : va_G) (tys : List (ClassId × FieldType)) (z sz : Nat) (ws : va_W) (h : gm_M) (hM : gm_S h ws) (t : Nat → ClassId) (ht : gTy t tys) (b : Nat → Nat) (X0 : gX) (hw : gw D t b X0 h) (a1 : Int32) (a2 : Int32) (o : gR × gX) (hf : f_Mo_seen X0 a1 a2 = some o) : gx_Met l y_Mo_seen [Cond.code y_Mo_seen b_Mo_seen 4 (some .int)] { frames := 3, cells := 0, slots := 0, locals := 54 } (gx_P z sz D classes tys ws [Value.ref (b 46), Value.int a1, Value.int a2]) (gx_Q D classes tys (va_A ws sz) (gPo D t b X0 o)) (0) (0) (va_A ws sz) := by
  refine gx_ofW (cc := b_Mo_seen) (maxL := 4) (ret := (some .int)) (by decide) rfl ?_
  intro p e s m args below meth c s₁ B hml hv
  obtain ⟨rfl, hsz, hz, hP, hK, hD0, hY⟩ := hv
  have hx := B.exec
  have hb := B.bytes
  have hr := B.returns
  have hts := hY.hts (#[Value.ref (b 46), Value.int a1, Value.int a2] : Array Value)
  have hown : s.vm.findClass "CommitLedgerModel" = some m.cls := findClass_of_methodNamed B.named
  have hlocks := B.notSynchronized
  subst hsz
  have hAz := gx_az hD0 hz
  have hD := hD0.self (sz := s.heap.size)
  have hA : ∀ q : Nat, s.heap.size ≤ q → va_A ws s.heap.size q := fun q h => Or.inr h
  generalize va_A ws s.heap.size = A at hD hA hAz ⊢
  have Y : gy D t b A s.heap X0 X0 s.heap [] := ⟨h, ⟨ws, hM, hP, hD, va_S.rf⟩, hw, gEq.rf⟩
  clear hP hD hM hD0 hw
  obtain ⟨ht0, ht1, ht2, ht3, ht4, ht5, ht6, ht7, ht8⟩ := id ht
  have hl := lv_entry ([Value.ref (b 46), Value.int a1, Value.int a2]) (n := 4) (Nat.le_of_ble_eq_true rfl)
  rw [lg_entry_eq]
  generalize (lg_sl ([Value.ref (b 46), Value.int a1, Value.int a2]) ++ List.replicate (4 - (lg_sl ([Value.ref (b 46), Value.int a1, Value.int a2])).length) Slot.unset).toArray = ls at hl ⊢
  have hl : lv_has ls 4 [(0, Value.ref (b 46)), (1, Value.int a1), (2, Value.int a2)] := hl
  refine gy_cut (pcJ := 79) Y (fun s : gX × Int32 => f_Mo_seen_79 s.1 s.2) o (fun s => s.1) (fun s ls => lv_has ls 4 []) (fun s => [Value.int s.2, Value.ref (b 46)]) ?_ (fun J79 => ?_)
  · rintro ⟨X14, i1000_14⟩ H locs ls hf hl Y
    have hl : lv_has ls 4 [] := hl
    have Y : gy D t b A s.heap X0 X14 H locs := Y
    have hf : f_Mo_seen_79 X14 i1000_14 = some o := hf
    unfold f_Mo_seen_79 at hf
    refine W.eq (g2 := F0 m 79 ls [Value.int i1000_14, Value.ref (b 46)]) rfl ?_
    refine lv_bipush (v := 13) hx hb d_Mo_seen_79 (by decide) ?_
    obtain ⟨x15, X15, hF15, hf⟩ := gCi_el hf
    refine gy_callI (rm := { frames := 1, cells := 0, slots := 0, locals := 12 }) (ig := .invokevirtual 148) (av := [Value.ref (b 46), Value.int i1000_14, Value.int 13]) Y (fun ws h hS hw => K_Mo_done l htr D tys z _ ws h hS t ht b X14 hw i1000_14 13 (gR.i x15, X15) hF15) (gx_invV (As := [Value.int i1000_14, Value.int 13]) (rest := []) hx hb hown hts km_Mo_148 kI_Mo_done kV_Mo_done kc_Mo_done (by decide) (show (parseMethodDescriptor y_Mo_done.desc).map (fun d => d.parameters.length) = some 2 by decide +kernel) (gy_recv (ci := 8) hK Y rfl gF_46) rfl rfl d_Mo_seen_81) (gx_cw (z := 0) hts kc_Mo_done kN_Mo rfl rfl ⟨Nat.le_of_ble_eq_true rfl, Nat.le_of_ble_eq_true rfl⟩) hb hml hz hK hY hAz hA hl.1 (lv_room (Nat.le_of_ble_eq_true rfl)) d_Mo_seen_81 ⟨Nat.zero_le _, Nat.zero_le _⟩ (fun H locs Y => ?_)
    exact gy_iret hf hx hb hr hlocks hK Y (Nat.zero_le _) (Nat.zero_le _) d_Mo_seen_84
  refine gy_cut (pcJ := 15) Y (fun s : gX × Int32 => f_Mo_seen_15 s.1 a1 a2 s.2) o (fun s => s.1) (fun s ls => lv_has ls 4 [(0, Value.ref (b 46)), (1, Value.int a1), (2, Value.int a2)]) (fun s => [Value.int s.2, Value.ref (b 46)]) ?_ (fun J15 => ?_)
  · rintro ⟨X16, i1000_16⟩ H locs ls hf hl Y
    have hl : lv_has ls 4 [(0, Value.ref (b 46)), (1, Value.int a1), (2, Value.int a2)] := hl
    have Y : gy D t b A s.heap X0 X16 H locs := Y
    have hf : f_Mo_seen_15 X16 a1 a2 i1000_16 = some o := hf
    unfold f_Mo_seen_15 at hf
    refine W.eq (g2 := F0 m 15 ls [Value.int i1000_16, Value.ref (b 46)]) rfl ?_
    refine lv_iconst (v := 1) hx hb d_Mo_seen_15 (by decide) ?_
    obtain ⟨x17, X17, hF17, hf⟩ := gCi_el hf
    refine gy_callI (rm := { frames := 1, cells := 0, slots := 0, locals := 12 }) (ig := .invokevirtual 152) (av := [Value.ref (b 46), Value.int i1000_16, Value.int 1]) Y (fun ws h hS hw => K_Mo_wrong l htr D tys z _ ws h hS t ht b X16 hw i1000_16 1 (gR.i x17, X17) hF17) (gx_invV (As := [Value.int i1000_16, Value.int 1]) (rest := []) hx hb hown hts km_Mo_152 kI_Mo_wrong kV_Mo_wrong kc_Mo_wrong (by decide) (show (parseMethodDescriptor y_Mo_wrong.desc).map (fun d => d.parameters.length) = some 2 by decide +kernel) (gy_recv (ci := 8) hK Y rfl gF_46) rfl rfl d_Mo_seen_16) (gx_cw (z := 0) hts kc_Mo_wrong kN_Mo rfl rfl ⟨Nat.le_of_ble_eq_true rfl, Nat.le_of_ble_eq_true rfl⟩) hb hml hz hK hY hAz hA hl.1 (lv_room (Nat.le_of_ble_eq_true rfl)) d_Mo_seen_16 ⟨Nat.zero_le _, Nat.zero_le _⟩ (fun H locs Y => ?_)
    refine lv_if_eq (tgt := 30) hx hb d_Mo_seen_19 (by decide) (fun c19_18 => ?_) (fun c19_18 => ?_)
    · replace hf := gp_t c19_18 hf
      refine lv_aload_n hx hb d_Mo_seen_30 rfl (lv_at hl 0 rfl) ?_
      refine lv_iload_n hx hb d_Mo_seen_31 rfl (lv_at hl 1 rfl) ?_
      obtain ⟨x19, X19, hF19, hf⟩ := gCa_el hf
      refine gy_callA (rm := { frames := 1, cells := 0, slots := 0, locals := 12 }) (ig := .invokevirtual 257) (av := [Value.ref (b 46), Value.int a1]) Y (fun ws h hS hw => K_Mo_reading l htr D tys z _ ws h hS t ht b X17 hw a1 (gR.a x19, X19) hF19) (gx_invV (As := [Value.int a1]) (rest := []) hx hb hown hts km_Mo_257 kI_Mo_reading kV_Mo_reading kc_Mo_reading (by decide) (show (parseMethodDescriptor y_Mo_reading.desc).map (fun d => d.parameters.length) = some 1 by decide +kernel) (gy_recv (ci := 8) hK Y rfl gF_46) rfl rfl d_Mo_seen_32) (gx_cw (z := 0) hts kc_Mo_reading kN_Mo rfl rfl ⟨Nat.le_of_ble_eq_true rfl, Nat.le_of_ble_eq_true rfl⟩) hb hml hz hK hY hAz hA hl.1 (lv_room (Nat.le_of_ble_eq_true rfl)) d_Mo_seen_32 ⟨Nat.zero_le _, Nat.zero_le _⟩ (fun H locs Y => ?_)
      obtain ⟨n19, e9, hf⟩ := gM_el hf
      subst e9
      obtain ⟨hv19, hf⟩ := gp_g hf
      refine W.eq (g2 := F0 m 35 ls [Value.ref (b n19)]) rfl ?_
      refine lv_astore_n (lv' := [(3, Value.ref (b n19)), (0, Value.ref (b 46)), (1, Value.int a1), (2, Value.int a2)]) hx hb d_Mo_seen_35 rfl hl (by decide) rfl (fun ls hl => ?_)
      refine lv_aload_n hx hb d_Mo_seen_36 rfl (lv_at hl 1 rfl) ?_
      refine gy_get (ci := 8) (v := Value.int (X19.I 46 0)) (C := "CommitLedgerModel") (T := F_Mo) (N := 35) hx hb hts i_Mo hown hK Y gF_46 rfl 0 (by decide) kf_Mo_84 rfl d_Mo_seen_37 ?_
      refine lv_if_eq (tgt := 51) hx hb d_Mo_seen_40 (by decide) (fun c40_20 => ?_) (fun c40_20 => ?_)
      · replace hf := gp_t c40_20 hf
        refine lv_aload_n hx hb d_Mo_seen_51 rfl (lv_at hl 1 rfl) ?_
        refine lv_iload_n hx hb d_Mo_seen_52 rfl (lv_at hl 3 rfl) ?_
        refine lv_if_ne (tgt := 63) hx hb d_Mo_seen_53 (by decide) (fun c53_21 => ?_) (fun c53_21 => ?_)
        · replace hf := gp_f c53_21 hf
          refine lv_iload_n hx hb d_Mo_seen_63 rfl (lv_at hl 3 rfl) ?_
          refine lv_iconst (v := 1) hx hb d_Mo_seen_64 (by decide) ?_
          refine lv_icmp_ne (tgt := 75) hx hb d_Mo_seen_65 (by decide) (fun c65_22 => ?_) (fun c65_22 => ?_)
          · replace hf := gp_f c65_22 hf
            refine lv_aload_n hx hb d_Mo_seen_75 rfl (lv_at hl 0 rfl) ?_
            refine gy_get (ci := 9) (v := Value.int (X19.I n19 7)) (C := "CommitLedgerModel$Version") (T := F_Ve) (N := 11) hx hb hts i_Ve hown hK Y (gF_Ve hv19) rfl 7 (by decide) kf_Mo_122 rfl d_Mo_seen_76 ?_
            exact J79 (X19, X19.I n19 7) _ _ _ hf (lv_sub hl [] rfl) Y
          · replace hf := gp_t c65_22 hf
            refine lv_aload_n hx hb d_Mo_seen_68 rfl (lv_at hl 0 rfl) ?_
            obtain ⟨x23, X23, hF23, hf⟩ := gCi_el hf
            refine gy_callI (rm := { frames := 1, cells := 0, slots := 0, locals := 12 }) (ig := .invokevirtual 200) (av := [Value.ref (b n19)]) Y (fun ws h hS hw => K_Ve_docs l htr D tys z _ ws h hS t ht b X19 hw n19 hv19 (gR.i x23, X23) hF23) (gx_invV (As := []) (rest := [Value.ref (b 46)]) hx hb hown hts km_Mo_200 kI_Ve_docs kV_Ve_docs kc_Ve_docs (by decide) (show (parseMethodDescriptor y_Ve_docs.desc).map (fun d => d.parameters.length) = some 0 by decide +kernel) (gy_recv (ci := 9) hK Y rfl (gF_Ve hv19)) rfl rfl d_Mo_seen_69) (gx_cw (z := 0) hts kc_Ve_docs kN_Ve rfl rfl ⟨Nat.le_of_ble_eq_true rfl, Nat.le_of_ble_eq_true rfl⟩) hb hml hz hK hY hAz hA hl.1 (lv_room (Nat.le_of_ble_eq_true rfl)) d_Mo_seen_69 ⟨Nat.zero_le _, Nat.zero_le _⟩ (fun H locs Y => ?_)
            refine lv_goto (tgt := 79) hx hb d_Mo_seen_72 (by decide) ?_
            exact J79 (X23, x23) _ _ _ hf (lv_sub hl [] rfl) Y
        · replace hf := gp_t c53_21 hf
          refine lv_aload_n hx hb d_Mo_seen_56 rfl (lv_at hl 0 rfl) ?_
          obtain ⟨x24, X24, hF24, hf⟩ := gCi_el hf
          refine gy_callI (rm := { frames := 2, cells := 0, slots := 0, locals := 32 }) (ig := .invokevirtual 261) (av := [Value.ref (b n19)]) Y (fun ws h hS hw => K_Ve_live l htr D tys z _ ws h hS t ht b X19 hw n19 hv19 (gR.i x24, X24) hF24) (gx_invV (As := []) (rest := [Value.ref (b 46)]) hx hb hown hts km_Mo_261 kI_Ve_live kV_Ve_live kc_Ve_live (by decide) (show (parseMethodDescriptor y_Ve_live.desc).map (fun d => d.parameters.length) = some 0 by decide +kernel) (gy_recv (ci := 9) hK Y rfl (gF_Ve hv19)) rfl rfl d_Mo_seen_57) (gx_cw (z := 0) hts kc_Ve_live kN_Ve rfl rfl ⟨Nat.le_of_ble_eq_true rfl, Nat.le_of_ble_eq_true rfl⟩) hb hml hz hK hY hAz hA hl.1 (lv_room (Nat.le_of_ble_eq_true rfl)) d_Mo_seen_57 ⟨Nat.zero_le _, Nat.zero_le _⟩ (fun H locs Y => ?_)
          refine lv_goto (tgt := 79) hx hb d_Mo_seen_60 (by decide) ?_
          exact J79 (X24, x24) _ _ _ hf (lv_sub hl [] rfl) Y
      · replace hf := gp_f c40_20 hf
        refine lv_aload_n hx hb d_Mo_seen_43 rfl (lv_at hl 1 rfl) ?_
        refine lv_iconst (v := 0) hx hb d_Mo_seen_44 (by decide) ?_
        refine lv_bipush (v := 13) hx hb d_Mo_seen_45 (by decide) ?_
        obtain ⟨x25, X25, hF25, hf⟩ := gCi_el hf
        refine gy_callI (rm := { frames := 1, cells := 0, slots := 0, locals := 12 }) (ig := .invokevirtual 148) (av := [Value.ref (b 46), Value.int 0, Value.int 13]) Y (fun ws h hS hw => K_Mo_done l htr D tys z _ ws h hS t ht b X19 hw 0 13 (gR.i x25, X25) hF25) (gx_invV (As := [Value.int 0, Value.int 13]) (rest := []) hx hb hown hts km_Mo_148 kI_Mo_done kV_Mo_done kc_Mo_done (by decide) (show (parseMethodDescriptor y_Mo_done.desc).map (fun d => d.parameters.length) = some 2 by decide +kernel) (gy_recv (ci := 8) hK Y rfl gF_46) rfl rfl d_Mo_seen_47) (gx_cw (z := 0) hts kc_Mo_done kN_Mo rfl rfl ⟨Nat.le_of_ble_eq_true rfl, Nat.le_of_ble_eq_true rfl⟩) hb hml hz hK hY hAz hA hl.1 (lv_room (Nat.le_of_ble_eq_true rfl)) d_Mo_seen_47 ⟨Nat.zero_le _, Nat.zero_le _⟩ (fun H locs Y => ?_)
        exact gy_iret hf hx hb hr hlocks hK Y (Nat.zero_le _) (Nat.zero_le _) d_Mo_seen_50
    · replace hf := gp_f c19_18 hf
      refine lv_aload_n hx hb d_Mo_seen_22 rfl (lv_at hl 0 rfl) ?_
      refine lv_iconst (v := 0) hx hb d_Mo_seen_23 (by decide) ?_
      refine lv_bipush (v := 13) hx hb d_Mo_seen_24 (by decide) ?_
      obtain ⟨x26, X26, hF26, hf⟩ := gCi_el hf
      refine gy_callI (rm := { frames := 1, cells := 0, slots := 0, locals := 12 }) (ig := .invokevirtual 148) (av := [Value.ref (b 46), Value.int 0, Value.int 13]) Y (fun ws h hS hw => K_Mo_done l htr D tys z _ ws h hS t ht b X17 hw 0 13 (gR.i x26, X26) hF26) (gx_invV (As := [Value.int 0, Value.int 13]) (rest := []) hx hb hown hts km_Mo_148 kI_Mo_done kV_Mo_done kc_Mo_done (by decide) (show (parseMethodDescriptor y_Mo_done.desc).map (fun d => d.parameters.length) = some 2 by decide +kernel) (gy_recv (ci := 8) hK Y rfl gF_46) rfl rfl d_Mo_seen_26) (gx_cw (z := 0) hts kc_Mo_done kN_Mo rfl rfl ⟨Nat.le_of_ble_eq_true rfl, Nat.le_of_ble_eq_true rfl⟩) hb hml hz hK hY hAz hA hl.1 (lv_room (Nat.le_of_ble_eq_true rfl)) d_Mo_seen_26 ⟨Nat.zero_le _, Nat.zero_le _⟩ (fun H locs Y => ?_)
      exact gy_iret hf hx hb hr hlocks hK Y (Nat.zero_le _) (Nat.zero_le _) d_Mo_seen_29
  refine gy_cut (pcJ := 10) Y (fun s : gX => f_Mo_seen_10 s a1 a2) o (fun s => s) (fun s ls => lv_has ls 4 [(0, Value.ref (b 46)), (1, Value.int a1), (2, Value.int a2)]) (fun s => [Value.ref (b 46)]) ?_ (fun J10 => ?_)
  · rintro X27 H locs ls hf hl Y
    have hl : lv_has ls 4 [(0, Value.ref (b 46)), (1, Value.int a1), (2, Value.int a2)] := hl
    have Y : gy D t b A s.heap X0 X27 H locs := Y
    have hf : f_Mo_seen_10 X27 a1 a2 = some o := hf
    unfold f_Mo_seen_10 at hf
    refine W.eq (g2 := F0 m 10 ls [Value.ref (b 46)]) rfl ?_
    refine lv_iconst (v := 1) hx hb d_Mo_seen_10 (by decide) ?_
    refine lv_goto (tgt := 15) hx hb d_Mo_seen_11 (by decide) ?_
    exact J15 (X27, 1) _ _ _ hf (lv_sub hl [0, 1, 2] rfl) Y
  unfold f_Mo_seen at hf
  refine lv_aload_n hx hb d_Mo_seen_0 rfl (lv_at hl 0 rfl) ?_
  refine lv_iload_n hx hb d_Mo_seen_1 rfl (lv_at hl 2 rfl) ?_
  refine lv_if_lt (tgt := 10) hx hb d_Mo_seen_2 (by decide) (fun c2_28 => ?_) (fun c2_28 => ?_)
  · replace hf := gp_t c2_28 hf
    exact J10 X0 _ _ _ hf (lv_sub hl [0, 1, 2] rfl) Y
  · replace hf := gp_f c2_28 hf
    refine lv_iload_n hx hb d_Mo_seen_5 rfl (lv_at hl 2 rfl) ?_
    refine lv_iconst (v := 2) hx hb d_Mo_seen_6 (by decide) ?_
    refine lv_icmp_le (tgt := 14) hx hb d_Mo_seen_7 (by decide) (fun c7_29 => ?_) (fun c7_29 => ?_)
    · replace hf := gp_t c7_29 hf
      refine lv_iconst (v := 0) hx hb d_Mo_seen_14 (by decide) ?_
      exact J15 (X0, 0) _ _ _ hf (lv_sub hl [0, 1, 2] rfl) Y
    · replace hf := gp_f c7_29 hf
      exact J10 X0 _ _ _ hf (lv_sub hl [0, 1, 2] rfl) Y

def f_Mo_segment_70 (X : gX) : Option (gR × gX) := gCi (f_Mo_done X 0 123) (fun x4 X4 => some (gR.i x4, X4))
def f_Mo_segment_63 (X : gX) (i1 : Int32) (i2 : Int32) (i1000 : Int32) : Option (gR × gX) := gCi (f_Mo_wrong X i1000 3) (fun x9 X9 => (if x9 = (0 : Int32) then (if gIn (i1 + 1) 4098 then (if gIn i1 4098 then (if i2 = (0 : Int32) then gCi (f_Mo_done X9 ((X9.I 57 (gn (i1 + 1))) - (X9.I 57 (gn i1))) 123) (fun x12 X12 => some (gR.i x12, X12)) else (if i2 = (1 : Int32) then gCi (f_Ve_liveIn X9 54 i1) (fun x13 X13 => gCi (f_Mo_done X13 (((X9.I 57 (gn (i1 + 1))) - (X9.I 57 (gn i1))) - x13) 123) (fun x14 X14 => some (gR.i x14, X14))) else (if i2 = (2 : Int32) then gCi (f_Mo_level X9 i1) (fun x15 X15 => gCi (f_Mo_done X15 x15 123) (fun x16 X16 => some (gR.i x16, X16))) else (if i2 = (3 : Int32) then (if gIn i1 4097 then gCi (f_Mo_done X9 (X9.I 58 (gn i1)) 123) (fun x17 X17 => some (gR.i x17, X17)) else none) else (if gIn i1 4098 then (if gIn (X9.I 57 (gn i1)) 4096 then (if gIn (X9.I 59 (gn (X9.I 57 (gn i1)))) 4096 then gCi (f_Mo_done X9 (X9.I 49 (gn (X9.I 59 (gn (X9.I 57 (gn i1)))))) 123) (fun x18 X18 => some (gR.i x18, X18)) else none) else none) else none))))) else none) else none) else f_Mo_segment_70 X9))
def f_Mo_segment_58 (X : gX) (i1 : Int32) (i2 : Int32) : Option (gR × gX) := f_Mo_segment_63 X i1 i2 1
def f_Mo_segment_35 (X : gX) (i1 : Int32) (i2 : Int32) (i1000 : Int32) : Option (gR × gX) := gCi (f_Mo_wrong X i1000 2) (fun x6 X6 => (if x6 = (0 : Int32) then (if i1 < (0 : Int32) then f_Mo_segment_58 X6 i1 i2 else (if i1 < (X6.I 54 7) then f_Mo_segment_63 X6 i1 i2 0 else f_Mo_segment_58 X6 i1 i2)) else f_Mo_segment_70 X6))
def f_Mo_segment_15 (X : gX) (i1 : Int32) (i2 : Int32) (i1000 : Int32) : Option (gR × gX) := gCi (f_Mo_wrong X i1000 1) (fun x2 X2 => (if x2 = (0 : Int32) then (if (X2.I 46 18) = (0 : Int32) then f_Mo_segment_35 X2 i1 i2 1 else f_Mo_segment_35 X2 i1 i2 0) else f_Mo_segment_70 X2))
def f_Mo_segment_10 (X : gX) (i1 : Int32) (i2 : Int32) : Option (gR × gX) := f_Mo_segment_15 X i1 i2 1
def f_Mo_segment (X0 : gX) (a1 : Int32) (a2 : Int32) : Option (gR × gX) := (if a2 < (0 : Int32) then f_Mo_segment_10 X0 a1 a2 else (if a2 ≤ (4 : Int32) then f_Mo_segment_15 X0 a1 a2 0 else f_Mo_segment_10 X0 a1 a2))
set_option maxHeartbeats 4000000 in
set_option maxRecDepth 100000 in
theorem K_Mo_segment (l : Launch) (htr : l.stackTraces = false) (D : va_G) (tys : List (ClassId × FieldType)) (z sz : Nat) (ws : va_W) (h : gm_M) (hM : gm_S h ws) (t : Nat → ClassId) (ht : gTy t tys) (b : Nat → Nat) (X0 : gX) (hw : gw D t b X0 h) (a1 : Int32) (a2 : Int32) (o : gR × gX) (hf : f_Mo_segment X0 a1 a2 = some o) : gx_Met l y_Mo_segment [Cond.code y_Mo_segment b_Mo_segment 4 (some .int)] { frames := 3, cells := 0, slots := 0, locals := 60 } (gx_P z sz D classes tys ws [Value.ref (b 46), Value.int a1, Value.int a2]) (gx_Q D classes tys (va_A ws sz) (gPo D t b X0 o)) (0) (0) (va_A ws sz) := by
  refine gx_ofW (cc := b_Mo_segment) (maxL := 4) (ret := (some .int)) (by decide) rfl ?_
  intro p e s m args below meth c s₁ B hml hv
  obtain ⟨rfl, hsz, hz, hP, hK, hD0, hY⟩ := hv
  have hx := B.exec
  have hb := B.bytes
  have hr := B.returns
  have hts := hY.hts (#[Value.ref (b 46), Value.int a1, Value.int a2] : Array Value)
  have hown : s.vm.findClass "CommitLedgerModel" = some m.cls := findClass_of_methodNamed B.named
  have hlocks := B.notSynchronized
  subst hsz
  have hAz := gx_az hD0 hz
  have hD := hD0.self (sz := s.heap.size)
  have hA : ∀ q : Nat, s.heap.size ≤ q → va_A ws s.heap.size q := fun q h => Or.inr h
  generalize va_A ws s.heap.size = A at hD hA hAz ⊢
  have Y : gy D t b A s.heap X0 X0 s.heap [] := ⟨h, ⟨ws, hM, hP, hD, va_S.rf⟩, hw, gEq.rf⟩
  clear hP hD hM hD0 hw
  obtain ⟨ht0, ht1, ht2, ht3, ht4, ht5, ht6, ht7, ht8⟩ := id ht
  have hl := lv_entry ([Value.ref (b 46), Value.int a1, Value.int a2]) (n := 4) (Nat.le_of_ble_eq_true rfl)
  rw [lg_entry_eq]
  generalize (lg_sl ([Value.ref (b 46), Value.int a1, Value.int a2]) ++ List.replicate (4 - (lg_sl ([Value.ref (b 46), Value.int a1, Value.int a2])).length) Slot.unset).toArray = ls at hl ⊢
  have hl : lv_has ls 4 [(0, Value.ref (b 46)), (1, Value.int a1), (2, Value.int a2)] := hl
  refine gy_cut (pcJ := 70) Y (fun s : gX => f_Mo_segment_70 s) o (fun s => s) (fun s ls => lv_has ls 4 [(0, Value.ref (b 46))]) (fun s => []) ?_ (fun J70 => ?_)
  · rintro X21 H locs ls hf hl Y
    have hl : lv_has ls 4 [(0, Value.ref (b 46))] := hl
    have Y : gy D t b A s.heap X0 X21 H locs := Y
    have hf : f_Mo_segment_70 X21 = some o := hf
    unfold f_Mo_segment_70 at hf
    refine lv_aload_n hx hb d_Mo_segment_70 rfl (lv_at hl 0 rfl) ?_
    refine lv_iconst (v := 0) hx hb d_Mo_segment_71 (by decide) ?_
    refine lv_bipush (v := 123) hx hb d_Mo_segment_72 (by decide) ?_
    obtain ⟨x22, X22, hF22, hf⟩ := gCi_el hf
    refine gy_callI (rm := { frames := 1, cells := 0, slots := 0, locals := 12 }) (ig := .invokevirtual 148) (av := [Value.ref (b 46), Value.int 0, Value.int 123]) Y (fun ws h hS hw => K_Mo_done l htr D tys z _ ws h hS t ht b X21 hw 0 123 (gR.i x22, X22) hF22) (gx_invV (As := [Value.int 0, Value.int 123]) (rest := []) hx hb hown hts km_Mo_148 kI_Mo_done kV_Mo_done kc_Mo_done (by decide) (show (parseMethodDescriptor y_Mo_done.desc).map (fun d => d.parameters.length) = some 2 by decide +kernel) (gy_recv (ci := 8) hK Y rfl gF_46) rfl rfl d_Mo_segment_74) (gx_cw (z := 0) hts kc_Mo_done kN_Mo rfl rfl ⟨Nat.le_of_ble_eq_true rfl, Nat.le_of_ble_eq_true rfl⟩) hb hml hz hK hY hAz hA hl.1 (lv_room (Nat.le_of_ble_eq_true rfl)) d_Mo_segment_74 ⟨Nat.zero_le _, Nat.zero_le _⟩ (fun H locs Y => ?_)
    exact gy_iret hf hx hb hr hlocks hK Y (Nat.zero_le _) (Nat.zero_le _) d_Mo_segment_77
  refine gy_cut (pcJ := 63) Y (fun s : gX × Int32 => f_Mo_segment_63 s.1 a1 a2 s.2) o (fun s => s.1) (fun s ls => lv_has ls 4 [(0, Value.ref (b 46)), (1, Value.int a1), (2, Value.int a2)]) (fun s => [Value.int s.2, Value.ref (b 46)]) ?_ (fun J63 => ?_)
  · rintro ⟨X23, i1000_23⟩ H locs ls hf hl Y
    have hl : lv_has ls 4 [(0, Value.ref (b 46)), (1, Value.int a1), (2, Value.int a2)] := hl
    have Y : gy D t b A s.heap X0 X23 H locs := Y
    have hf : f_Mo_segment_63 X23 a1 a2 i1000_23 = some o := hf
    unfold f_Mo_segment_63 at hf
    refine W.eq (g2 := F0 m 63 ls [Value.int i1000_23, Value.ref (b 46)]) rfl ?_
    refine lv_iconst (v := 3) hx hb d_Mo_segment_63 (by decide) ?_
    obtain ⟨x24, X24, hF24, hf⟩ := gCi_el hf
    refine gy_callI (rm := { frames := 1, cells := 0, slots := 0, locals := 12 }) (ig := .invokevirtual 152) (av := [Value.ref (b 46), Value.int i1000_23, Value.int 3]) Y (fun ws h hS hw => K_Mo_wrong l htr D tys z _ ws h hS t ht b X23 hw i1000_23 3 (gR.i x24, X24) hF24) (gx_invV (As := [Value.int i1000_23, Value.int 3]) (rest := []) hx hb hown hts km_Mo_152 kI_Mo_wrong kV_Mo_wrong kc_Mo_wrong (by decide) (show (parseMethodDescriptor y_Mo_wrong.desc).map (fun d => d.parameters.length) = some 2 by decide +kernel) (gy_recv (ci := 8) hK Y rfl gF_46) rfl rfl d_Mo_segment_64) (gx_cw (z := 0) hts kc_Mo_wrong kN_Mo rfl rfl ⟨Nat.le_of_ble_eq_true rfl, Nat.le_of_ble_eq_true rfl⟩) hb hml hz hK hY hAz hA hl.1 (lv_room (Nat.le_of_ble_eq_true rfl)) d_Mo_segment_64 ⟨Nat.zero_le _, Nat.zero_le _⟩ (fun H locs Y => ?_)
    refine lv_if_eq (tgt := 78) hx hb d_Mo_segment_67 (by decide) (fun c67_25 => ?_) (fun c67_25 => ?_)
    · replace hf := gp_t c67_25 hf
      refine lv_aload_n hx hb d_Mo_segment_78 rfl (lv_at hl 0 rfl) ?_
      refine gy_get (ci := 8) (v := Value.ref (b 54)) (C := "CommitLedgerModel") (T := F_Mo) (N := 35) hx hb hts i_Mo hown hK Y gF_46 rfl 15 (by decide) kf_Mo_40 rfl d_Mo_segment_79 ?_
      refine gy_get (ci := 9) (v := Value.ref (b 57)) (C := "CommitLedgerModel$Version") (T := F_Ve) (N := 11) hx hb hts i_Ve hown hK Y gF_54 rfl 2 (by decide) kf_Mo_182 rfl d_Mo_segment_82 ?_
      refine lv_iload_n hx hb d_Mo_segment_85 rfl (lv_at hl 1 rfl) ?_
      refine lv_iconst (v := 1) hx hb d_Mo_segment_86 (by decide) ?_
      refine lv_iadd hx hb d_Mo_segment_87 ?_
      refine gy_iald hf hx hb hK Y 0 (fun _ => gF_57) ht0 d_Mo_segment_88 (fun _ hf => ?_)
      refine lv_aload_n hx hb d_Mo_segment_89 rfl (lv_at hl 0 rfl) ?_
      refine gy_get (ci := 8) (v := Value.ref (b 54)) (C := "CommitLedgerModel") (T := F_Mo) (N := 35) hx hb hts i_Mo hown hK Y gF_46 rfl 15 (by decide) kf_Mo_40 rfl d_Mo_segment_90 ?_
      refine gy_get (ci := 9) (v := Value.ref (b 57)) (C := "CommitLedgerModel$Version") (T := F_Ve) (N := 11) hx hb hts i_Ve hown hK Y gF_54 rfl 2 (by decide) kf_Mo_182 rfl d_Mo_segment_93 ?_
      refine lv_iload_n hx hb d_Mo_segment_96 rfl (lv_at hl 1 rfl) ?_
      refine gy_iald hf hx hb hK Y 0 (fun _ => gF_57) ht0 d_Mo_segment_97 (fun _ hf => ?_)
      refine lv_isub hx hb d_Mo_segment_98 ?_
      refine lv_istore_n (lv' := [(3, Value.int ((X24.I 57 (gn (a1 + 1))) - (X24.I 57 (gn a1)))), (0, Value.ref (b 46)), (1, Value.int a1), (2, Value.int a2)]) hx hb d_Mo_segment_99 rfl hl (by decide) rfl (fun ls hl => ?_)
      refine lv_iload_n hx hb d_Mo_segment_100 rfl (lv_at hl 3 rfl) ?_
      by_cases s26_0 : a2 = (0 : Int32)
      · replace hf := gp_t s26_0 hf
        refine gx_topi s26_0 ?_
        refine lv_tableIn (off := 31) (tgt := 132) hx hb d_Mo_segment_101 (by decide) (by decide) rfl (by decide) ?_
        refine lv_aload_n hx hb d_Mo_segment_132 rfl (lv_at hl 1 rfl) ?_
        refine lv_iload_n hx hb d_Mo_segment_133 rfl (lv_at hl 0 rfl) ?_
        refine lv_bipush (v := 123) hx hb d_Mo_segment_134 (by decide) ?_
        obtain ⟨x27, X27, hF27, hf⟩ := gCi_el hf
        refine gy_callI (rm := { frames := 1, cells := 0, slots := 0, locals := 12 }) (ig := .invokevirtual 148) (av := [Value.ref (b 46), Value.int ((X24.I 57 (gn (a1 + 1))) - (X24.I 57 (gn a1))), Value.int 123]) Y (fun ws h hS hw => K_Mo_done l htr D tys z _ ws h hS t ht b X24 hw ((X24.I 57 (gn (a1 + 1))) - (X24.I 57 (gn a1))) 123 (gR.i x27, X27) hF27) (gx_invV (As := [Value.int ((X24.I 57 (gn (a1 + 1))) - (X24.I 57 (gn a1))), Value.int 123]) (rest := []) hx hb hown hts km_Mo_148 kI_Mo_done kV_Mo_done kc_Mo_done (by decide) (show (parseMethodDescriptor y_Mo_done.desc).map (fun d => d.parameters.length) = some 2 by decide +kernel) (gy_recv (ci := 8) hK Y rfl gF_46) rfl rfl d_Mo_segment_136) (gx_cw (z := 0) hts kc_Mo_done kN_Mo rfl rfl ⟨Nat.le_of_ble_eq_true rfl, Nat.le_of_ble_eq_true rfl⟩) hb hml hz hK hY hAz hA hl.1 (lv_room (Nat.le_of_ble_eq_true rfl)) d_Mo_segment_136 ⟨Nat.zero_le _, Nat.zero_le _⟩ (fun H locs Y => ?_)
        exact gy_iret hf hx hb hr hlocks hK Y (Nat.zero_le _) (Nat.zero_le _) d_Mo_segment_139
      replace hf := gp_f s26_0 hf
      by_cases s26_1 : a2 = (1 : Int32)
      · replace hf := gp_t s26_1 hf
        refine gx_topi s26_1 ?_
        refine lv_tableIn (off := 39) (tgt := 140) hx hb d_Mo_segment_101 (by decide) (by decide) rfl (by decide) ?_
        refine lv_aload_n hx hb d_Mo_segment_140 rfl (lv_at hl 1 rfl) ?_
        refine lv_iload_n hx hb d_Mo_segment_141 rfl (lv_at hl 0 rfl) ?_
        refine lv_aload_n hx hb d_Mo_segment_142 rfl (lv_at hl 1 rfl) ?_
        refine gy_get (ci := 8) (v := Value.ref (b 54)) (C := "CommitLedgerModel") (T := F_Mo) (N := 35) hx hb hts i_Mo hown hK Y gF_46 rfl 15 (by decide) kf_Mo_40 rfl d_Mo_segment_143 ?_
        refine lv_iload_n hx hb d_Mo_segment_146 rfl (lv_at hl 2 rfl) ?_
        obtain ⟨x28, X28, hF28, hf⟩ := gCi_el hf
        refine gy_callI (rm := { frames := 1, cells := 0, slots := 0, locals := 12 }) (ig := .invokevirtual 202) (av := [Value.ref (b 54), Value.int a1]) Y (fun ws h hS hw => K_Ve_liveIn l htr D tys z _ ws h hS t ht b X24 hw 54 (by decide) a1 (gR.i x28, X28) hF28) (gx_invV (As := [Value.int a1]) (rest := [Value.int ((X24.I 57 (gn (a1 + 1))) - (X24.I 57 (gn a1))), Value.ref (b 46)]) hx hb hown hts km_Mo_202 kI_Ve_liveIn kV_Ve_liveIn kc_Ve_liveIn (by decide) (show (parseMethodDescriptor y_Ve_liveIn.desc).map (fun d => d.parameters.length) = some 1 by decide +kernel) (gy_recv (ci := 9) hK Y rfl gF_54) rfl rfl d_Mo_segment_147) (gx_cw (z := 0) hts kc_Ve_liveIn kN_Ve rfl rfl ⟨Nat.le_of_ble_eq_true rfl, Nat.le_of_ble_eq_true rfl⟩) hb hml hz hK hY hAz hA hl.1 (lv_room (Nat.le_of_ble_eq_true rfl)) d_Mo_segment_147 ⟨Nat.zero_le _, Nat.zero_le _⟩ (fun H locs Y => ?_)
        refine lv_isub hx hb d_Mo_segment_150 ?_
        refine lv_bipush (v := 123) hx hb d_Mo_segment_151 (by decide) ?_
        obtain ⟨x29, X29, hF29, hf⟩ := gCi_el hf
        refine gy_callI (rm := { frames := 1, cells := 0, slots := 0, locals := 12 }) (ig := .invokevirtual 148) (av := [Value.ref (b 46), Value.int (((X24.I 57 (gn (a1 + 1))) - (X24.I 57 (gn a1))) - x28), Value.int 123]) Y (fun ws h hS hw => K_Mo_done l htr D tys z _ ws h hS t ht b X28 hw (((X24.I 57 (gn (a1 + 1))) - (X24.I 57 (gn a1))) - x28) 123 (gR.i x29, X29) hF29) (gx_invV (As := [Value.int (((X24.I 57 (gn (a1 + 1))) - (X24.I 57 (gn a1))) - x28), Value.int 123]) (rest := []) hx hb hown hts km_Mo_148 kI_Mo_done kV_Mo_done kc_Mo_done (by decide) (show (parseMethodDescriptor y_Mo_done.desc).map (fun d => d.parameters.length) = some 2 by decide +kernel) (gy_recv (ci := 8) hK Y rfl gF_46) rfl rfl d_Mo_segment_153) (gx_cw (z := 0) hts kc_Mo_done kN_Mo rfl rfl ⟨Nat.le_of_ble_eq_true rfl, Nat.le_of_ble_eq_true rfl⟩) hb hml hz hK hY hAz hA hl.1 (lv_room (Nat.le_of_ble_eq_true rfl)) d_Mo_segment_153 ⟨Nat.zero_le _, Nat.zero_le _⟩ (fun H locs Y => ?_)
        exact gy_iret hf hx hb hr hlocks hK Y (Nat.zero_le _) (Nat.zero_le _) d_Mo_segment_156
      replace hf := gp_f s26_1 hf
      by_cases s26_2 : a2 = (2 : Int32)
      · replace hf := gp_t s26_2 hf
        refine gx_topi s26_2 ?_
        refine lv_tableIn (off := 56) (tgt := 157) hx hb d_Mo_segment_101 (by decide) (by decide) rfl (by decide) ?_
        refine lv_aload_n hx hb d_Mo_segment_157 rfl (lv_at hl 1 rfl) ?_
        refine lv_aload_n hx hb d_Mo_segment_158 rfl (lv_at hl 1 rfl) ?_
        refine lv_iload_n hx hb d_Mo_segment_159 rfl (lv_at hl 2 rfl) ?_
        obtain ⟨x30, X30, hF30, hf⟩ := gCi_el hf
        refine gy_callI (rm := { frames := 2, cells := 0, slots := 0, locals := 35 }) (ig := .invokevirtual 205) (av := [Value.ref (b 46), Value.int a1]) Y (fun ws h hS hw => K_Mo_level l htr D tys z _ ws h hS t ht b X24 hw a1 (gR.i x30, X30) hF30) (gx_invV (As := [Value.int a1]) (rest := [Value.ref (b 46)]) hx hb hown hts km_Mo_205 kI_Mo_level kV_Mo_level kc_Mo_level (by decide) (show (parseMethodDescriptor y_Mo_level.desc).map (fun d => d.parameters.length) = some 1 by decide +kernel) (gy_recv (ci := 8) hK Y rfl gF_46) rfl rfl d_Mo_segment_160) (gx_cw (z := 0) hts kc_Mo_level kN_Mo rfl rfl ⟨Nat.le_of_ble_eq_true rfl, Nat.le_of_ble_eq_true rfl⟩) hb hml hz hK hY hAz hA hl.1 (lv_room (Nat.le_of_ble_eq_true rfl)) d_Mo_segment_160 ⟨Nat.zero_le _, Nat.zero_le _⟩ (fun H locs Y => ?_)
        refine lv_bipush (v := 123) hx hb d_Mo_segment_163 (by decide) ?_
        obtain ⟨x31, X31, hF31, hf⟩ := gCi_el hf
        refine gy_callI (rm := { frames := 1, cells := 0, slots := 0, locals := 12 }) (ig := .invokevirtual 148) (av := [Value.ref (b 46), Value.int x30, Value.int 123]) Y (fun ws h hS hw => K_Mo_done l htr D tys z _ ws h hS t ht b X30 hw x30 123 (gR.i x31, X31) hF31) (gx_invV (As := [Value.int x30, Value.int 123]) (rest := []) hx hb hown hts km_Mo_148 kI_Mo_done kV_Mo_done kc_Mo_done (by decide) (show (parseMethodDescriptor y_Mo_done.desc).map (fun d => d.parameters.length) = some 2 by decide +kernel) (gy_recv (ci := 8) hK Y rfl gF_46) rfl rfl d_Mo_segment_165) (gx_cw (z := 0) hts kc_Mo_done kN_Mo rfl rfl ⟨Nat.le_of_ble_eq_true rfl, Nat.le_of_ble_eq_true rfl⟩) hb hml hz hK hY hAz hA hl.1 (lv_room (Nat.le_of_ble_eq_true rfl)) d_Mo_segment_165 ⟨Nat.zero_le _, Nat.zero_le _⟩ (fun H locs Y => ?_)
        exact gy_iret hf hx hb hr hlocks hK Y (Nat.zero_le _) (Nat.zero_le _) d_Mo_segment_168
      replace hf := gp_f s26_2 hf
      by_cases s26_3 : a2 = (3 : Int32)
      · replace hf := gp_t s26_3 hf
        refine gx_topi s26_3 ?_
        refine lv_tableIn (off := 68) (tgt := 169) hx hb d_Mo_segment_101 (by decide) (by decide) rfl (by decide) ?_
        refine lv_aload_n hx hb d_Mo_segment_169 rfl (lv_at hl 1 rfl) ?_
        refine lv_aload_n hx hb d_Mo_segment_170 rfl (lv_at hl 1 rfl) ?_
        refine gy_get (ci := 8) (v := Value.ref (b 54)) (C := "CommitLedgerModel") (T := F_Mo) (N := 35) hx hb hts i_Mo hown hK Y gF_46 rfl 15 (by decide) kf_Mo_40 rfl d_Mo_segment_171 ?_
        refine gy_get (ci := 9) (v := Value.ref (b 58)) (C := "CommitLedgerModel$Version") (T := F_Ve) (N := 11) hx hb hts i_Ve hown hK Y gF_54 rfl 3 (by decide) kf_Mo_166 rfl d_Mo_segment_174 ?_
        refine lv_iload_n hx hb d_Mo_segment_177 rfl (lv_at hl 2 rfl) ?_
        refine gy_iald hf hx hb hK Y 0 (fun _ => gF_58) ht0 d_Mo_segment_178 (fun _ hf => ?_)
        refine lv_bipush (v := 123) hx hb d_Mo_segment_179 (by decide) ?_
        obtain ⟨x32, X32, hF32, hf⟩ := gCi_el hf
        refine gy_callI (rm := { frames := 1, cells := 0, slots := 0, locals := 12 }) (ig := .invokevirtual 148) (av := [Value.ref (b 46), Value.int (X24.I 58 (gn a1)), Value.int 123]) Y (fun ws h hS hw => K_Mo_done l htr D tys z _ ws h hS t ht b X24 hw (X24.I 58 (gn a1)) 123 (gR.i x32, X32) hF32) (gx_invV (As := [Value.int (X24.I 58 (gn a1)), Value.int 123]) (rest := []) hx hb hown hts km_Mo_148 kI_Mo_done kV_Mo_done kc_Mo_done (by decide) (show (parseMethodDescriptor y_Mo_done.desc).map (fun d => d.parameters.length) = some 2 by decide +kernel) (gy_recv (ci := 8) hK Y rfl gF_46) rfl rfl d_Mo_segment_181) (gx_cw (z := 0) hts kc_Mo_done kN_Mo rfl rfl ⟨Nat.le_of_ble_eq_true rfl, Nat.le_of_ble_eq_true rfl⟩) hb hml hz hK hY hAz hA hl.1 (lv_room (Nat.le_of_ble_eq_true rfl)) d_Mo_segment_181 ⟨Nat.zero_le _, Nat.zero_le _⟩ (fun H locs Y => ?_)
        exact gy_iret hf hx hb hr hlocks hK Y (Nat.zero_le _) (Nat.zero_le _) d_Mo_segment_184
      replace hf := gp_f s26_3 hf
      refine lv_tableOut (tgt := 185) hx hb d_Mo_segment_101 (by have e0 := lv_neT s26_0 (a := 0) (by decide); have e1 := lv_neT s26_1 (a := 1) (by decide); have e2 := lv_neT s26_2 (a := 2) (by decide); have e3 := lv_neT s26_3 (a := 3) (by decide); omega) (by decide) ?_
      refine lv_aload_n hx hb d_Mo_segment_185 rfl (lv_at hl 1 rfl) ?_
      refine lv_aload_n hx hb d_Mo_segment_186 rfl (lv_at hl 1 rfl) ?_
      refine gy_get (ci := 8) (v := Value.ref (b 49)) (C := "CommitLedgerModel") (T := F_Mo) (N := 35) hx hb hts i_Mo hown hK Y gF_46 rfl 4 (by decide) kf_Mo_16 rfl d_Mo_segment_187 ?_
      refine lv_aload_n hx hb d_Mo_segment_190 rfl (lv_at hl 1 rfl) ?_
      refine gy_get (ci := 8) (v := Value.ref (b 54)) (C := "CommitLedgerModel") (T := F_Mo) (N := 35) hx hb hts i_Mo hown hK Y gF_46 rfl 15 (by decide) kf_Mo_40 rfl d_Mo_segment_191 ?_
      refine gy_get (ci := 9) (v := Value.ref (b 59)) (C := "CommitLedgerModel$Version") (T := F_Ve) (N := 11) hx hb hts i_Ve hown hK Y gF_54 rfl 4 (by decide) kf_Mo_185 rfl d_Mo_segment_194 ?_
      refine lv_aload_n hx hb d_Mo_segment_197 rfl (lv_at hl 1 rfl) ?_
      refine gy_get (ci := 8) (v := Value.ref (b 54)) (C := "CommitLedgerModel") (T := F_Mo) (N := 35) hx hb hts i_Mo hown hK Y gF_46 rfl 15 (by decide) kf_Mo_40 rfl d_Mo_segment_198 ?_
      refine gy_get (ci := 9) (v := Value.ref (b 57)) (C := "CommitLedgerModel$Version") (T := F_Ve) (N := 11) hx hb hts i_Ve hown hK Y gF_54 rfl 2 (by decide) kf_Mo_182 rfl d_Mo_segment_201 ?_
      refine lv_iload_n hx hb d_Mo_segment_204 rfl (lv_at hl 2 rfl) ?_
      refine gy_iald hf hx hb hK Y 0 (fun _ => gF_57) ht0 d_Mo_segment_205 (fun _ hf => ?_)
      refine gy_iald hf hx hb hK Y 0 (fun _ => gF_59) ht0 d_Mo_segment_206 (fun _ hf => ?_)
      refine gy_iald hf hx hb hK Y 0 (fun _ => gF_49) ht0 d_Mo_segment_207 (fun _ hf => ?_)
      refine lv_bipush (v := 123) hx hb d_Mo_segment_208 (by decide) ?_
      obtain ⟨x33, X33, hF33, hf⟩ := gCi_el hf
      refine gy_callI (rm := { frames := 1, cells := 0, slots := 0, locals := 12 }) (ig := .invokevirtual 148) (av := [Value.ref (b 46), Value.int (X24.I 49 (gn (X24.I 59 (gn (X24.I 57 (gn a1)))))), Value.int 123]) Y (fun ws h hS hw => K_Mo_done l htr D tys z _ ws h hS t ht b X24 hw (X24.I 49 (gn (X24.I 59 (gn (X24.I 57 (gn a1)))))) 123 (gR.i x33, X33) hF33) (gx_invV (As := [Value.int (X24.I 49 (gn (X24.I 59 (gn (X24.I 57 (gn a1)))))), Value.int 123]) (rest := []) hx hb hown hts km_Mo_148 kI_Mo_done kV_Mo_done kc_Mo_done (by decide) (show (parseMethodDescriptor y_Mo_done.desc).map (fun d => d.parameters.length) = some 2 by decide +kernel) (gy_recv (ci := 8) hK Y rfl gF_46) rfl rfl d_Mo_segment_210) (gx_cw (z := 0) hts kc_Mo_done kN_Mo rfl rfl ⟨Nat.le_of_ble_eq_true rfl, Nat.le_of_ble_eq_true rfl⟩) hb hml hz hK hY hAz hA hl.1 (lv_room (Nat.le_of_ble_eq_true rfl)) d_Mo_segment_210 ⟨Nat.zero_le _, Nat.zero_le _⟩ (fun H locs Y => ?_)
      exact gy_iret hf hx hb hr hlocks hK Y (Nat.zero_le _) (Nat.zero_le _) d_Mo_segment_213
    · replace hf := gp_f c67_25 hf
      exact J70 X24 _ _ _ hf (lv_sub hl [0] rfl) Y
  refine gy_cut (pcJ := 58) Y (fun s : gX => f_Mo_segment_58 s a1 a2) o (fun s => s) (fun s ls => lv_has ls 4 [(0, Value.ref (b 46)), (1, Value.int a1), (2, Value.int a2)]) (fun s => [Value.ref (b 46)]) ?_ (fun J58 => ?_)
  · rintro X34 H locs ls hf hl Y
    have hl : lv_has ls 4 [(0, Value.ref (b 46)), (1, Value.int a1), (2, Value.int a2)] := hl
    have Y : gy D t b A s.heap X0 X34 H locs := Y
    have hf : f_Mo_segment_58 X34 a1 a2 = some o := hf
    unfold f_Mo_segment_58 at hf
    refine W.eq (g2 := F0 m 58 ls [Value.ref (b 46)]) rfl ?_
    refine lv_iconst (v := 1) hx hb d_Mo_segment_58 (by decide) ?_
    refine lv_goto (tgt := 63) hx hb d_Mo_segment_59 (by decide) ?_
    exact J63 (X34, 1) _ _ _ hf (lv_sub hl [0, 1, 2] rfl) Y
  refine gy_cut (pcJ := 35) Y (fun s : gX × Int32 => f_Mo_segment_35 s.1 a1 a2 s.2) o (fun s => s.1) (fun s ls => lv_has ls 4 [(0, Value.ref (b 46)), (1, Value.int a1), (2, Value.int a2)]) (fun s => [Value.int s.2, Value.ref (b 46)]) ?_ (fun J35 => ?_)
  · rintro ⟨X35, i1000_35⟩ H locs ls hf hl Y
    have hl : lv_has ls 4 [(0, Value.ref (b 46)), (1, Value.int a1), (2, Value.int a2)] := hl
    have Y : gy D t b A s.heap X0 X35 H locs := Y
    have hf : f_Mo_segment_35 X35 a1 a2 i1000_35 = some o := hf
    unfold f_Mo_segment_35 at hf
    refine W.eq (g2 := F0 m 35 ls [Value.int i1000_35, Value.ref (b 46)]) rfl ?_
    refine lv_iconst (v := 2) hx hb d_Mo_segment_35 (by decide) ?_
    obtain ⟨x36, X36, hF36, hf⟩ := gCi_el hf
    refine gy_callI (rm := { frames := 1, cells := 0, slots := 0, locals := 12 }) (ig := .invokevirtual 152) (av := [Value.ref (b 46), Value.int i1000_35, Value.int 2]) Y (fun ws h hS hw => K_Mo_wrong l htr D tys z _ ws h hS t ht b X35 hw i1000_35 2 (gR.i x36, X36) hF36) (gx_invV (As := [Value.int i1000_35, Value.int 2]) (rest := []) hx hb hown hts km_Mo_152 kI_Mo_wrong kV_Mo_wrong kc_Mo_wrong (by decide) (show (parseMethodDescriptor y_Mo_wrong.desc).map (fun d => d.parameters.length) = some 2 by decide +kernel) (gy_recv (ci := 8) hK Y rfl gF_46) rfl rfl d_Mo_segment_36) (gx_cw (z := 0) hts kc_Mo_wrong kN_Mo rfl rfl ⟨Nat.le_of_ble_eq_true rfl, Nat.le_of_ble_eq_true rfl⟩) hb hml hz hK hY hAz hA hl.1 (lv_room (Nat.le_of_ble_eq_true rfl)) d_Mo_segment_36 ⟨Nat.zero_le _, Nat.zero_le _⟩ (fun H locs Y => ?_)
    refine lv_if_ne (tgt := 70) hx hb d_Mo_segment_39 (by decide) (fun c39_37 => ?_) (fun c39_37 => ?_)
    · replace hf := gp_f c39_37 hf
      exact J70 X36 _ _ _ hf (lv_sub hl [0] rfl) Y
    · replace hf := gp_t c39_37 hf
      refine lv_aload_n hx hb d_Mo_segment_42 rfl (lv_at hl 0 rfl) ?_
      refine lv_iload_n hx hb d_Mo_segment_43 rfl (lv_at hl 1 rfl) ?_
      refine lv_if_lt (tgt := 58) hx hb d_Mo_segment_44 (by decide) (fun c44_38 => ?_) (fun c44_38 => ?_)
      · replace hf := gp_t c44_38 hf
        exact J58 X36 _ _ _ hf (lv_sub hl [0, 1, 2] rfl) Y
      · replace hf := gp_f c44_38 hf
        refine lv_iload_n hx hb d_Mo_segment_47 rfl (lv_at hl 1 rfl) ?_
        refine lv_aload_n hx hb d_Mo_segment_48 rfl (lv_at hl 0 rfl) ?_
        refine gy_get (ci := 8) (v := Value.ref (b 54)) (C := "CommitLedgerModel") (T := F_Mo) (N := 35) hx hb hts i_Mo hown hK Y gF_46 rfl 15 (by decide) kf_Mo_40 rfl d_Mo_segment_49 ?_
        refine gy_get (ci := 9) (v := Value.int (X36.I 54 7)) (C := "CommitLedgerModel$Version") (T := F_Ve) (N := 11) hx hb hts i_Ve hown hK Y gF_54 rfl 7 (by decide) kf_Mo_122 rfl d_Mo_segment_52 ?_
        refine lv_icmp_lt (tgt := 62) hx hb d_Mo_segment_55 (by decide) (fun c55_39 => ?_) (fun c55_39 => ?_)
        · replace hf := gp_t c55_39 hf
          refine lv_iconst (v := 0) hx hb d_Mo_segment_62 (by decide) ?_
          exact J63 (X36, 0) _ _ _ hf (lv_sub hl [0, 1, 2] rfl) Y
        · replace hf := gp_f c55_39 hf
          exact J58 X36 _ _ _ hf (lv_sub hl [0, 1, 2] rfl) Y
  refine gy_cut (pcJ := 15) Y (fun s : gX × Int32 => f_Mo_segment_15 s.1 a1 a2 s.2) o (fun s => s.1) (fun s ls => lv_has ls 4 [(0, Value.ref (b 46)), (1, Value.int a1), (2, Value.int a2)]) (fun s => [Value.int s.2, Value.ref (b 46)]) ?_ (fun J15 => ?_)
  · rintro ⟨X40, i1000_40⟩ H locs ls hf hl Y
    have hl : lv_has ls 4 [(0, Value.ref (b 46)), (1, Value.int a1), (2, Value.int a2)] := hl
    have Y : gy D t b A s.heap X0 X40 H locs := Y
    have hf : f_Mo_segment_15 X40 a1 a2 i1000_40 = some o := hf
    unfold f_Mo_segment_15 at hf
    refine W.eq (g2 := F0 m 15 ls [Value.int i1000_40, Value.ref (b 46)]) rfl ?_
    refine lv_iconst (v := 1) hx hb d_Mo_segment_15 (by decide) ?_
    obtain ⟨x41, X41, hF41, hf⟩ := gCi_el hf
    refine gy_callI (rm := { frames := 1, cells := 0, slots := 0, locals := 12 }) (ig := .invokevirtual 152) (av := [Value.ref (b 46), Value.int i1000_40, Value.int 1]) Y (fun ws h hS hw => K_Mo_wrong l htr D tys z _ ws h hS t ht b X40 hw i1000_40 1 (gR.i x41, X41) hF41) (gx_invV (As := [Value.int i1000_40, Value.int 1]) (rest := []) hx hb hown hts km_Mo_152 kI_Mo_wrong kV_Mo_wrong kc_Mo_wrong (by decide) (show (parseMethodDescriptor y_Mo_wrong.desc).map (fun d => d.parameters.length) = some 2 by decide +kernel) (gy_recv (ci := 8) hK Y rfl gF_46) rfl rfl d_Mo_segment_16) (gx_cw (z := 0) hts kc_Mo_wrong kN_Mo rfl rfl ⟨Nat.le_of_ble_eq_true rfl, Nat.le_of_ble_eq_true rfl⟩) hb hml hz hK hY hAz hA hl.1 (lv_room (Nat.le_of_ble_eq_true rfl)) d_Mo_segment_16 ⟨Nat.zero_le _, Nat.zero_le _⟩ (fun H locs Y => ?_)
    refine lv_if_ne (tgt := 70) hx hb d_Mo_segment_19 (by decide) (fun c19_42 => ?_) (fun c19_42 => ?_)
    · replace hf := gp_f c19_42 hf
      exact J70 X41 _ _ _ hf (lv_sub hl [0] rfl) Y
    · replace hf := gp_t c19_42 hf
      refine lv_aload_n hx hb d_Mo_segment_22 rfl (lv_at hl 0 rfl) ?_
      refine lv_aload_n hx hb d_Mo_segment_23 rfl (lv_at hl 0 rfl) ?_
      refine gy_get (ci := 8) (v := Value.int (X41.I 46 18)) (C := "CommitLedgerModel") (T := F_Mo) (N := 35) hx hb hts i_Mo hown hK Y gF_46 rfl 18 (by decide) kf_Mo_99 rfl d_Mo_segment_24 ?_
      refine lv_if_ne (tgt := 34) hx hb d_Mo_segment_27 (by decide) (fun c27_43 => ?_) (fun c27_43 => ?_)
      · replace hf := gp_f c27_43 hf
        refine lv_iconst (v := 0) hx hb d_Mo_segment_34 (by decide) ?_
        exact J35 (X41, 0) _ _ _ hf (lv_sub hl [0, 1, 2] rfl) Y
      · replace hf := gp_t c27_43 hf
        refine lv_iconst (v := 1) hx hb d_Mo_segment_30 (by decide) ?_
        refine lv_goto (tgt := 35) hx hb d_Mo_segment_31 (by decide) ?_
        exact J35 (X41, 1) _ _ _ hf (lv_sub hl [0, 1, 2] rfl) Y
  refine gy_cut (pcJ := 10) Y (fun s : gX => f_Mo_segment_10 s a1 a2) o (fun s => s) (fun s ls => lv_has ls 4 [(0, Value.ref (b 46)), (1, Value.int a1), (2, Value.int a2)]) (fun s => [Value.ref (b 46)]) ?_ (fun J10 => ?_)
  · rintro X44 H locs ls hf hl Y
    have hl : lv_has ls 4 [(0, Value.ref (b 46)), (1, Value.int a1), (2, Value.int a2)] := hl
    have Y : gy D t b A s.heap X0 X44 H locs := Y
    have hf : f_Mo_segment_10 X44 a1 a2 = some o := hf
    unfold f_Mo_segment_10 at hf
    refine W.eq (g2 := F0 m 10 ls [Value.ref (b 46)]) rfl ?_
    refine lv_iconst (v := 1) hx hb d_Mo_segment_10 (by decide) ?_
    refine lv_goto (tgt := 15) hx hb d_Mo_segment_11 (by decide) ?_
    exact J15 (X44, 1) _ _ _ hf (lv_sub hl [0, 1, 2] rfl) Y
  unfold f_Mo_segment at hf
  refine lv_aload_n hx hb d_Mo_segment_0 rfl (lv_at hl 0 rfl) ?_
  refine lv_iload_n hx hb d_Mo_segment_1 rfl (lv_at hl 2 rfl) ?_
  refine lv_if_lt (tgt := 10) hx hb d_Mo_segment_2 (by decide) (fun c2_45 => ?_) (fun c2_45 => ?_)
  · replace hf := gp_t c2_45 hf
    exact J10 X0 _ _ _ hf (lv_sub hl [0, 1, 2] rfl) Y
  · replace hf := gp_f c2_45 hf
    refine lv_iload_n hx hb d_Mo_segment_5 rfl (lv_at hl 2 rfl) ?_
    refine lv_iconst (v := 4) hx hb d_Mo_segment_6 (by decide) ?_
    refine lv_icmp_le (tgt := 14) hx hb d_Mo_segment_7 (by decide) (fun c7_46 => ?_) (fun c7_46 => ?_)
    · replace hf := gp_t c7_46 hf
      refine lv_iconst (v := 0) hx hb d_Mo_segment_14 (by decide) ?_
      exact J15 (X0, 0) _ _ _ hf (lv_sub hl [0, 1, 2] rfl) Y
    · replace hf := gp_f c7_46 hf
      exact J10 X0 _ _ _ hf (lv_sub hl [0, 1, 2] rfl) Y

def f_Mo_count (X0 : gX) (a1 : Int32) : Option (gR × gX) := gCi (f_Mo_counted X0 a1) (fun x1 X1 => gCi (f_Mo_done X1 x1 0) (fun x2 X2 => some (gR.i x2, X2)))
set_option maxHeartbeats 4000000 in
set_option maxRecDepth 100000 in
theorem K_Mo_count (l : Launch) (htr : l.stackTraces = false) (D : va_G) (tys : List (ClassId × FieldType)) (z sz : Nat) (ws : va_W) (h : gm_M) (hM : gm_S h ws) (t : Nat → ClassId) (ht : gTy t tys) (b : Nat → Nat) (X0 : gX) (hw : gw D t b X0 h) (a1 : Int32) (o : gR × gX) (hf : f_Mo_count X0 a1 = some o) : gx_Met l y_Mo_count [Cond.code y_Mo_count b_Mo_count 2 (some .int)] { frames := 4, cells := 0, slots := 0, locals := 75 } (gx_P z sz D classes tys ws [Value.ref (b 46), Value.int a1]) (gx_Q D classes tys (va_A ws sz) (gPo D t b X0 o)) (0) (0) (va_A ws sz) := by
  refine gx_ofW (cc := b_Mo_count) (maxL := 2) (ret := (some .int)) (by decide) rfl ?_
  intro p e s m args below meth c s₁ B hml hv
  obtain ⟨rfl, hsz, hz, hP, hK, hD0, hY⟩ := hv
  have hx := B.exec
  have hb := B.bytes
  have hr := B.returns
  have hts := hY.hts (#[Value.ref (b 46), Value.int a1] : Array Value)
  have hown : s.vm.findClass "CommitLedgerModel" = some m.cls := findClass_of_methodNamed B.named
  have hlocks := B.notSynchronized
  subst hsz
  have hAz := gx_az hD0 hz
  have hD := hD0.self (sz := s.heap.size)
  have hA : ∀ q : Nat, s.heap.size ≤ q → va_A ws s.heap.size q := fun q h => Or.inr h
  generalize va_A ws s.heap.size = A at hD hA hAz ⊢
  have Y : gy D t b A s.heap X0 X0 s.heap [] := ⟨h, ⟨ws, hM, hP, hD, va_S.rf⟩, hw, gEq.rf⟩
  clear hP hD hM hD0 hw
  obtain ⟨ht0, ht1, ht2, ht3, ht4, ht5, ht6, ht7, ht8⟩ := id ht
  have hl := lv_entry ([Value.ref (b 46), Value.int a1]) (n := 2) (Nat.le_of_ble_eq_true rfl)
  rw [lg_entry_eq]
  generalize (lg_sl ([Value.ref (b 46), Value.int a1]) ++ List.replicate (2 - (lg_sl ([Value.ref (b 46), Value.int a1])).length) Slot.unset).toArray = ls at hl ⊢
  have hl : lv_has ls 2 [(0, Value.ref (b 46)), (1, Value.int a1)] := hl
  unfold f_Mo_count at hf
  refine lv_aload_n hx hb d_Mo_count_0 rfl (lv_at hl 0 rfl) ?_
  refine lv_aload_n hx hb d_Mo_count_1 rfl (lv_at hl 0 rfl) ?_
  refine lv_iload_n hx hb d_Mo_count_2 rfl (lv_at hl 1 rfl) ?_
  obtain ⟨x3, X3, hF3, hf⟩ := gCi_el hf
  refine gy_callI (rm := { frames := 3, cells := 0, slots := 0, locals := 54 }) (ig := .invokevirtual 263) (av := [Value.ref (b 46), Value.int a1]) Y (fun ws h hS hw => K_Mo_counted l htr D tys z _ ws h hS t ht b X0 hw a1 (gR.i x3, X3) hF3) (gx_invV (As := [Value.int a1]) (rest := [Value.ref (b 46)]) hx hb hown hts km_Mo_263 kI_Mo_counted kV_Mo_counted kc_Mo_counted (by decide) (show (parseMethodDescriptor y_Mo_counted.desc).map (fun d => d.parameters.length) = some 1 by decide +kernel) (gy_recv (ci := 8) hK Y rfl gF_46) rfl rfl d_Mo_count_3) (gx_cw (z := 0) hts kc_Mo_counted kN_Mo rfl rfl ⟨Nat.le_of_ble_eq_true rfl, Nat.le_of_ble_eq_true rfl⟩) hb hml hz hK hY hAz hA hl.1 (lv_room (Nat.le_of_ble_eq_true rfl)) d_Mo_count_3 ⟨Nat.zero_le _, Nat.zero_le _⟩ (fun H locs Y => ?_)
  refine lv_iconst (v := 0) hx hb d_Mo_count_6 (by decide) ?_
  obtain ⟨x4, X4, hF4, hf⟩ := gCi_el hf
  refine gy_callI (rm := { frames := 1, cells := 0, slots := 0, locals := 12 }) (ig := .invokevirtual 148) (av := [Value.ref (b 46), Value.int x3, Value.int 0]) Y (fun ws h hS hw => K_Mo_done l htr D tys z _ ws h hS t ht b X3 hw x3 0 (gR.i x4, X4) hF4) (gx_invV (As := [Value.int x3, Value.int 0]) (rest := []) hx hb hown hts km_Mo_148 kI_Mo_done kV_Mo_done kc_Mo_done (by decide) (show (parseMethodDescriptor y_Mo_done.desc).map (fun d => d.parameters.length) = some 2 by decide +kernel) (gy_recv (ci := 8) hK Y rfl gF_46) rfl rfl d_Mo_count_7) (gx_cw (z := 0) hts kc_Mo_done kN_Mo rfl rfl ⟨Nat.le_of_ble_eq_true rfl, Nat.le_of_ble_eq_true rfl⟩) hb hml hz hK hY hAz hA hl.1 (lv_room (Nat.le_of_ble_eq_true rfl)) d_Mo_count_7 ⟨Nat.zero_le _, Nat.zero_le _⟩ (fun H locs Y => ?_)
  exact gy_iret hf hx hb hr hlocks hK Y (Nat.zero_le _) (Nat.zero_le _) d_Mo_count_10
