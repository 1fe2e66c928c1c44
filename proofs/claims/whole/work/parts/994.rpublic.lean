/-! THE THIRD LAYER, the reference: its calls (first): programs of numbers and the proof that the machine does what they say; printed by an own text program -/
def f_Mo_open_113 (X : gX) (i2 : Int32) : Option ((gX × Int32) ⊕ (gR × gX)) := (if (X.I 54 7) ≤ i2 then gCv (f_Ve_tidy X 54) (fun X15 => gB (X15.w 46 18 1) (fun X16 => gB (X16.w 46 14 0) (fun X17 => gB (X17.w 46 23 0) (fun X18 => gB (X18.w 46 30 0) (fun X19 => gB (X19.w 46 19 0) (fun X20 => gCi (f_Mo_finished X20 (X20.I 54 7) 124) (fun x21 X21 => gLf (some (gR.i x21, X21))))))))) else (if gIn i2 4097 then gB (X.w 58 (gn i2) 0) (fun X22 => some (Sum.inl (X22, i2 + 1))) else none))
def f_Mo_open_111 (X : gX) : Option (gR × gX) := gI (fun s : gX × Int32 => f_Mo_open_113 s.1 s.2) gK (X, 0)
def f_Mo_open_65 (X : gX) : Option (gR × gX) := gCi (f_Mo_done X 0 124) (fun x4 X4 => some (gR.i x4, X4))
def f_Mo_open_58 (X : gX) (i1 : Int32) (i1000 : Int32) : Option (gR × gX) := gCi (f_Mo_wrong X i1000 4) (fun x8 X8 => (if x8 = (0 : Int32) then gB (X8.w 54 7 0) (fun X10 => gB (X10.w 54 8 0) (fun X11 => (if i1 = (0 : Int32) then (if (X11.I 46 20) ≤ (0 : Int32) then f_Mo_open_111 X11 else gCv (f_Ve_copy X11 54 62) (fun X33 => f_Mo_open_111 X33)) else f_Mo_open_111 X11))) else f_Mo_open_65 X8))
def f_Mo_open_57 (X : gX) (i1 : Int32) : Option (gR × gX) := f_Mo_open_58 X i1 0
def f_Mo_open_15 (X : gX) (i1 : Int32) (i1000 : Int32) : Option (gR × gX) := gCi (f_Mo_wrong X i1000 1) (fun x2 X2 => (if x2 = (0 : Int32) then gCi (f_Mo_wrong X2 (X2.I 46 18) 2) (fun x5 X5 => (if x5 = (0 : Int32) then (if i1 = (0 : Int32) then (if (X5.I 46 20) ≤ (0 : Int32) then f_Mo_open_57 X5 i1 else gCi (f_Mo_corrupt X5) (fun x35 X35 => (if x35 = (0 : Int32) then f_Mo_open_57 X35 i1 else f_Mo_open_58 X35 i1 1))) else f_Mo_open_57 X5 i1) else f_Mo_open_65 X5)) else f_Mo_open_65 X2))
def f_Mo_open_10 (X : gX) (i1 : Int32) : Option (gR × gX) := f_Mo_open_15 X i1 1
def f_Mo_open (X0 : gX) (a1 : Int32) : Option (gR × gX) := (if a1 < (0 : Int32) then f_Mo_open_10 X0 a1 else (if a1 ≤ (1 : Int32) then f_Mo_open_15 X0 a1 0 else f_Mo_open_10 X0 a1))
set_option maxHeartbeats 4000000 in
set_option maxRecDepth 100000 in
theorem K_Mo_open (l : Launch) (htr : l.stackTraces = false) (D : va_G) (tys : List (ClassId × FieldType)) (z sz : Nat) (ws : va_W) (h : gm_M) (hM : gm_S h ws) (t : Nat → ClassId) (ht : gTy t tys) (b : Nat → Nat) (X0 : gX) (hw : gw D t b X0 h) (a1 : Int32) (o : gR × gX) (hf : f_Mo_open X0 a1 = some o) : gx_Met l y_Mo_open [Cond.code y_Mo_open b_Mo_open 3 (some .int)] { frames := 5, cells := 0, slots := 0, locals := 105 } (gx_P z sz D classes tys ws [Value.ref (b 46), Value.int a1]) (gx_Q D classes tys (va_A ws sz) (gPo D t b X0 o)) (0) (0) (va_A ws sz) := by
  refine gx_ofW (cc := b_Mo_open) (maxL := 3) (ret := (some .int)) (by decide) rfl ?_
  intro p e s m args below meth c s₁ B hml hv
  obtain ⟨rfl, hsz, hz, hP, hK, hD0, hY⟩ := hv
  have hx := B.exec
  have hb := B.bytes
  have hr := B.returns
  have hts := hY.hts (#[Value.ref (b 46), Value.int a1] : Array Value)
  have hown : s.vm.findClass "CommitLedgerModel" = some m.cls := findClass_of_methodNamed B.named
  have hlocks := B.notSynchronized
  subst hsz
  have hAz := gx_az hD0 hz
  have hD := hD0.self (sz := s.heap.size)
  have hA : ∀ q : Nat, s.heap.size ≤ q → va_A ws s.heap.size q := fun q h => Or.inr h
  generalize va_A ws s.heap.size = A at hD hA hAz ⊢
  have Y : gy D t b A s.heap X0 X0 s.heap [] := ⟨h, ⟨ws, hM, hP, hD, va_S.rf⟩, hw, gEq.rf⟩
  clear hP hD hM hD0 hw
  obtain ⟨ht0, ht1, ht2, ht3, ht4, ht5, ht6, ht7, ht8⟩ := id ht
  have hl := lv_entry ([Value.ref (b 46), Value.int a1]) (n := 3) (Nat.le_of_ble_eq_true rfl)
  rw [lg_entry_eq]
  generalize (lg_sl ([Value.ref (b 46), Value.int a1]) ++ List.replicate (3 - (lg_sl ([Value.ref (b 46), Value.int a1])).length) Slot.unset).toArray = ls at hl ⊢
  have hl : lv_has ls 3 [(0, Value.ref (b 46)), (1, Value.int a1)] := hl
  refine gy_cut (pcJ := 111) Y (fun s : gX => f_Mo_open_111 s) o (fun s => s) (fun s ls => lv_has ls 3 [(0, Value.ref (b 46))]) (fun s => []) ?_ (fun J111 => ?_)
  · rintro X38 H locs ls hf hl Y
    have hl : lv_has ls 3 [(0, Value.ref (b 46))] := hl
    have Y : gy D t b A s.heap X0 X38 H locs := Y
    have hf : f_Mo_open_111 X38 = some o := hf
    unfold f_Mo_open_111 at hf
    refine lv_iconst (v := 0) hx hb d_Mo_open_111 (by decide) ?_
    refine lv_istore_n (lv' := [(2, Value.int 0), (0, Value.ref (b 46))]) hx hb d_Mo_open_112 rfl hl (by decide) rfl (fun ls hl => ?_)
    refine gy_iter (fun s : gX × Int32 => s.1) (fun (s : gX × Int32) ls => lv_has ls 3 [(2, Value.int s.2), (0, Value.ref (b 46))]) ?_ gK (X38, 0) _ _ _ hf (lv_sub hl [0, 1] rfl) Y
    rintro ⟨X39, i2_39⟩ u39 H locs ls hf hl Y hk39 ho39
    have hl : lv_has ls 3 [(2, Value.int i2_39), (0, Value.ref (b 46))] := hl
    have Y : gy D t b A s.heap X0 X39 H locs := Y
    have hf : f_Mo_open_113 X39 i2_39 = some u39 := hf
    unfold f_Mo_open_113 at hf
    refine lv_iload_n hx hb d_Mo_open_113 rfl (lv_at hl 0 rfl) ?_
    refine lv_aload_n hx hb d_Mo_open_114 rfl (lv_at hl 1 rfl) ?_
    refine gy_get (ci := 8) (v := Value.ref (b 54)) (C := "CommitLedgerModel") (T := F_Mo) (N := 35) hx hb hts i_Mo hown hK Y gF_46 rfl 15 (by decide) kf_Mo_40 rfl d_Mo_open_115 ?_
    refine gy_get (ci := 9) (v := Value.int (X39.I 54 7)) (C := "CommitLedgerModel$Version") (T := F_Ve) (N := 11) hx hb hts i_Ve hown hK Y gF_54 rfl 7 (by decide) kf_Mo_122 rfl d_Mo_open_118 ?_
    refine lv_icmp_ge (tgt := 140) hx hb d_Mo_open_121 (by decide) (fun c121_40 => ?_) (fun c121_40 => ?_)
    · replace hf := gp_t c121_40 hf
      refine lv_aload_n hx hb d_Mo_open_140 rfl (lv_at hl 1 rfl) ?_
      refine gy_get (ci := 8) (v := Value.ref (b 54)) (C := "CommitLedgerModel") (T := F_Mo) (N := 35) hx hb hts i_Mo hown hK Y gF_46 rfl 15 (by decide) kf_Mo_40 rfl d_Mo_open_141 ?_
      obtain ⟨X41, hF41, hf⟩ := gCv_el hf
      refine gy_callV (rm := { frames := 3, cells := 0, slots := 0, locals := 55 }) (ig := .invokevirtual 169) (av := [Value.ref (b 54)]) Y (fun ws h hS hw => K_Ve_tidy l htr D tys z _ ws h hS t ht b X39 hw 54 (by decide) (gR.v, X41) hF41) (gx_invV (As := []) (rest := []) hx hb hown hts km_Mo_169 kI_Ve_tidy kV_Ve_tidy kc_Ve_tidy (by decide) (show (parseMethodDescriptor y_Ve_tidy.desc).map (fun d => d.parameters.length) = some 0 by decide +kernel) (gy_recv (ci := 9) hK Y rfl gF_54) rfl rfl d_Mo_open_144) (gx_cw (z := 0) hts kc_Ve_tidy kN_Ve rfl rfl ⟨Nat.le_of_ble_eq_true rfl, Nat.le_of_ble_eq_true rfl⟩) hb hml hz hK hY hAz hA hl.1 (lv_room (Nat.le_of_ble_eq_true rfl)) d_Mo_open_144 ⟨Nat.zero_le _, Nat.zero_le _⟩ (fun H locs Y => ?_)
      refine lv_aload_n hx hb d_Mo_open_147 rfl (lv_at hl 1 rfl) ?_
      refine lv_iconst (v := 1) hx hb d_Mo_open_148 (by decide) ?_
      refine gy_put hf (ci := 8) (ty := .boolean) (C := "CommitLedgerModel") (T := F_Mo) (N := 35) hx hb hts i_Mo t_Mo_ok n_Mo hown hK Y gF_46 rfl (by decide) kf_Mo_99 rfl (by decide +kernel) rfl rfl (Nat.le_of_ble_eq_true rfl) gF_46 d_Mo_open_149 (fun X42 H locs hf Y => ?_)
      refine lv_aload_n hx hb d_Mo_open_152 rfl (lv_at hl 1 rfl) ?_
      refine lv_iconst (v := 0) hx hb d_Mo_open_153 (by decide) ?_
      refine gy_put hf (ci := 8) (ty := .boolean) (C := "CommitLedgerModel") (T := F_Mo) (N := 35) hx hb hts i_Mo t_Mo_ok n_Mo hown hK Y gF_46 rfl (by decide) kf_Mo_112 rfl (by decide +kernel) rfl rfl (Nat.le_of_ble_eq_true rfl) gF_46 d_Mo_open_154 (fun X43 H locs hf Y => ?_)
      refine lv_aload_n hx hb d_Mo_open_157 rfl (lv_at hl 1 rfl) ?_
      refine lv_iconst (v := 0) hx hb d_Mo_open_158 (by decide) ?_
      refine gy_put hf (ci := 8) (ty := .int) (C := "CommitLedgerModel") (T := F_Mo) (N := 35) hx hb hts i_Mo t_Mo_ok n_Mo hown hK Y gF_46 rfl (by decide) kf_Mo_172 rfl (by decide +kernel) rfl rfl (Nat.le_of_ble_eq_true rfl) gF_46 d_Mo_open_159 (fun X44 H locs hf Y => ?_)
      refine lv_aload_n hx hb d_Mo_open_162 rfl (lv_at hl 1 rfl) ?_
      refine lv_iconst (v := 0) hx hb d_Mo_open_163 (by decide) ?_
      refine gy_put hf (ci := 8) (ty := .int) (C := "CommitLedgerModel") (T := F_Mo) (N := 35) hx hb hts i_Mo t_Mo_ok n_Mo hown hK Y gF_46 rfl (by decide) kf_Mo_106 rfl (by decide +kernel) rfl rfl (Nat.le_of_ble_eq_true rfl) gF_46 d_Mo_open_164 (fun X45 H locs hf Y => ?_)
      refine lv_aload_n hx hb d_Mo_open_167 rfl (lv_at hl 1 rfl) ?_
      refine lv_iconst (v := 0) hx hb d_Mo_open_168 (by decide) ?_
      refine gy_put hf (ci := 8) (ty := .boolean) (C := "CommitLedgerModel") (T := F_Mo) (N := 35) hx hb hts i_Mo t_Mo_ok n_Mo hown hK Y gF_46 rfl (by decide) kf_Mo_109 rfl (by decide +kernel) rfl rfl (Nat.le_of_ble_eq_true rfl) gF_46 d_Mo_open_169 (fun X46 H locs hf Y => ?_)
      refine lv_aload_n hx hb d_Mo_open_172 rfl (lv_at hl 1 rfl) ?_
      refine lv_aload_n hx hb d_Mo_open_173 rfl (lv_at hl 1 rfl) ?_
      refine gy_get (ci := 8) (v := Value.ref (b 54)) (C := "CommitLedgerModel") (T := F_Mo) (N := 35) hx hb hts i_Mo hown hK Y gF_46 rfl 15 (by decide) kf_Mo_40 rfl d_Mo_open_174 ?_
      refine gy_get (ci := 9) (v := Value.int (X46.I 54 7)) (C := "CommitLedgerModel$Version") (T := F_Ve) (N := 11) hx hb hts i_Ve hown hK Y gF_54 rfl 7 (by decide) kf_Mo_122 rfl d_Mo_open_177 ?_
      refine lv_bipush (v := 124) hx hb d_Mo_open_180 (by decide) ?_
      obtain ⟨x47, X47, hF47, hf⟩ := gCi_el hf
      refine gy_callI (rm := { frames := 4, cells := 0, slots := 0, locals := 83 }) (ig := .invokevirtual 175) (av := [Value.ref (b 46), Value.int (X46.I 54 7), Value.int 124]) Y (fun ws h hS hw => K_Mo_finished l htr D tys z _ ws h hS t ht b X46 hw (X46.I 54 7) 124 (gR.i x47, X47) hF47) (gx_invV (As := [Value.int (X46.I 54 7), Value.int 124]) (rest := []) hx hb hown hts km_Mo_175 kI_Mo_finished kV_Mo_finished kc_Mo_finished (by decide) (show (parseMethodDescriptor y_Mo_finished.desc).map (fun d => d.parameters.length) = some 2 by decide +kernel) (gy_recv (ci := 8) hK Y rfl gF_46) rfl rfl d_Mo_open_182) (gx_cw (z := 0) hts kc_Mo_finished kN_Mo rfl rfl ⟨Nat.le_of_ble_eq_true rfl, Nat.le_of_ble_eq_true rfl⟩) hb hml hz hK hY hAz hA hl.1 (lv_room (Nat.le_of_ble_eq_true rfl)) d_Mo_open_182 ⟨Nat.zero_le _, Nat.zero_le _⟩ (fun H locs Y => ?_)
      replace hf := gU hf ho39
      exact gy_iret hf hx hb hr hlocks hK Y (Nat.zero_le _) (Nat.zero_le _) d_Mo_open_185
    · replace hf := gp_f c121_40 hf
      refine lv_aload_n hx hb d_Mo_open_124 rfl (lv_at hl 1 rfl) ?_
      refine gy_get (ci := 8) (v := Value.ref (b 54)) (C := "CommitLedgerModel") (T := F_Mo) (N := 35) hx hb hts i_Mo hown hK Y gF_46 rfl 15 (by decide) kf_Mo_40 rfl d_Mo_open_125 ?_
      refine gy_get (ci := 9) (v := Value.ref (b 58)) (C := "CommitLedgerModel$Version") (T := F_Ve) (N := 11) hx hb hts i_Ve hown hK Y gF_54 rfl 3 (by decide) kf_Mo_166 rfl d_Mo_open_128 ?_
      refine lv_iload_n hx hb d_Mo_open_131 rfl (lv_at hl 0 rfl) ?_
      refine lv_iconst (v := 0) hx hb d_Mo_open_132 (by decide) ?_
      refine gy_iast hf hx hb hK Y 0 (fun _ => gF_58) ht0 d_Mo_open_133 (fun X48 H locs hf Y => ?_)
      refine lv_iinc (v := i2_39 + 1) (lv' := [(2, Value.int (i2_39 + 1)), (0, Value.ref (b 46))]) hx hb d_Mo_open_134 hl (k := 0) rfl (rfl) (by decide) rfl (fun ls hl => ?_)
      refine lv_goto (tgt := 113) hx hb d_Mo_open_137 (by decide) ?_
      exact hk39 _ _ _ _ hf (lv_sub hl [0, 1] rfl) Y
  refine gy_cut (pcJ := 65) Y (fun s : gX => f_Mo_open_65 s) o (fun s => s) (fun s ls => lv_has ls 3 [(0, Value.ref (b 46))]) (fun s => []) ?_ (fun J65 => ?_)
  · rintro X49 H locs ls hf hl Y
    have hl : lv_has ls 3 [(0, Value.ref (b 46))] := hl
    have Y : gy D t b A s.heap X0 X49 H locs := Y
    have hf : f_Mo_open_65 X49 = some o := hf
    unfold f_Mo_open_65 at hf
    refine lv_aload_n hx hb d_Mo_open_65 rfl (lv_at hl 0 rfl) ?_
    refine lv_iconst (v := 0) hx hb d_Mo_open_66 (by decide) ?_
    refine lv_bipush (v := 124) hx hb d_Mo_open_67 (by decide) ?_
    obtain ⟨x50, X50, hF50, hf⟩ := gCi_el hf
    refine gy_callI (rm := { frames := 1, cells := 0, slots := 0, locals := 12 }) (ig := .invokevirtual 148) (av := [Value.ref (b 46), Value.int 0, Value.int 124]) Y (fun ws h hS hw => K_Mo_done l htr D tys z _ ws h hS t ht b X49 hw 0 124 (gR.i x50, X50) hF50) (gx_invV (As := [Value.int 0, Value.int 124]) (rest := []) hx hb hown hts km_Mo_148 kI_Mo_done kV_Mo_done kc_Mo_done (by decide) (show (parseMethodDescriptor y_Mo_done.desc).map (fun d => d.parameters.length) = some 2 by decide +kernel) (gy_recv (ci := 8) hK Y rfl gF_46) rfl rfl d_Mo_open_69) (gx_cw (z := 0) hts kc_Mo_done kN_Mo rfl rfl ⟨Nat.le_of_ble_eq_true rfl, Nat.le_of_ble_eq_true rfl⟩) hb hml hz hK hY hAz hA hl.1 (lv_room (Nat.le_of_ble_eq_true rfl)) d_Mo_open_69 ⟨Nat.zero_le _, Nat.zero_le _⟩ (fun H locs Y => ?_)
    exact gy_iret hf hx hb hr hlocks hK Y (Nat.zero_le _) (Nat.zero_le _) d_Mo_open_72
  refine gy_cut (pcJ := 58) Y (fun s : gX × Int32 => f_Mo_open_58 s.1 a1 s.2) o (fun s => s.1) (fun s ls => lv_has ls 3 [(0, Value.ref (b 46)), (1, Value.int a1)]) (fun s => [Value.int s.2, Value.ref (b 46)]) ?_ (fun J58 => ?_)
  · rintro ⟨X51, i1000_51⟩ H locs ls hf hl Y
    have hl : lv_has ls 3 [(0, Value.ref (b 46)), (1, Value.int a1)] := hl
    have Y : gy D t b A s.heap X0 X51 H locs := Y
    have hf : f_Mo_open_58 X51 a1 i1000_51 = some o := hf
    unfold f_Mo_open_58 at hf
    refine W.eq (g2 := F0 m 58 ls [Value.int i1000_51, Value.ref (b 46)]) rfl ?_
    refine lv_iconst (v := 4) hx hb d_Mo_open_58 (by decide) ?_
    obtain ⟨x52, X52, hF52, hf⟩ := gCi_el hf
    refine gy_callI (rm := { frames := 1, cells := 0, slots := 0, locals := 12 }) (ig := .invokevirtual 152) (av := [Value.ref (b 46), Value.int i1000_51, Value.int 4]) Y (fun ws h hS hw => K_Mo_wrong l htr D tys z _ ws h hS t ht b X51 hw i1000_51 4 (gR.i x52, X52) hF52) (gx_invV (As := [Value.int i1000_51, Value.int 4]) (rest := []) hx hb hown hts km_Mo_152 kI_Mo_wrong kV_Mo_wrong kc_Mo_wrong (by decide) (show (parseMethodDescriptor y_Mo_wrong.desc).map (fun d => d.parameters.length) = some 2 by decide +kernel) (gy_recv (ci := 8) hK Y rfl gF_46) rfl rfl d_Mo_open_59) (gx_cw (z := 0) hts kc_Mo_wrong kN_Mo rfl rfl ⟨Nat.le_of_ble_eq_true rfl, Nat.le_of_ble_eq_true rfl⟩) hb hml hz hK hY hAz hA hl.1 (lv_room (Nat.le_of_ble_eq_true rfl)) d_Mo_open_59 ⟨Nat.zero_le _, Nat.zero_le _⟩ (fun H locs Y => ?_)
    refine lv_if_eq (tgt := 73) hx hb d_Mo_open_62 (by decide) (fun c62_53 => ?_) (fun c62_53 => ?_)
    · replace hf := gp_t c62_53 hf
      refine lv_aload_n hx hb d_Mo_open_73 rfl (lv_at hl 0 rfl) ?_
      refine gy_get (ci := 8) (v := Value.ref (b 54)) (C := "CommitLedgerModel") (T := F_Mo) (N := 35) hx hb hts i_Mo hown hK Y gF_46 rfl 15 (by decide) kf_Mo_40 rfl d_Mo_open_74 ?_
      refine lv_iconst (v := 0) hx hb d_Mo_open_77 (by decide) ?_
      refine gy_put hf (ci := 9) (ty := .int) (C := "CommitLedgerModel$Version") (T := F_Ve) (N := 11) hx hb hts i_Ve t_Ve_ok n_Ve hown hK Y gF_54 rfl (by decide) kf_Mo_122 rfl (by decide +kernel) rfl rfl (Nat.le_of_ble_eq_true rfl) gF_54 d_Mo_open_78 (fun X54 H locs hf Y => ?_)
      refine lv_aload_n hx hb d_Mo_open_81 rfl (lv_at hl 0 rfl) ?_
      refine gy_get (ci := 8) (v := Value.ref (b 54)) (C := "CommitLedgerModel") (T := F_Mo) (N := 35) hx hb hts i_Mo hown hK Y gF_46 rfl 15 (by decide) kf_Mo_40 rfl d_Mo_open_82 ?_
      refine lv_iconst (v := 0) hx hb d_Mo_open_85 (by decide) ?_
      refine gy_put hf (ci := 9) (ty := .int) (C := "CommitLedgerModel$Version") (T := F_Ve) (N := 11) hx hb hts i_Ve t_Ve_ok n_Ve hown hK Y gF_54 rfl (by decide) kf_Mo_159 rfl (by decide +kernel) rfl rfl (Nat.le_of_ble_eq_true rfl) gF_54 d_Mo_open_86 (fun X55 H locs hf Y => ?_)
      refine lv_iload_n hx hb d_Mo_open_89 rfl (lv_at hl 1 rfl) ?_
      refine lv_if_ne (tgt := 111) hx hb d_Mo_open_90 (by decide) (fun c90_56 => ?_) (fun c90_56 => ?_)
      · replace hf := gp_f c90_56 hf
        exact J111 X55 _ _ _ hf (lv_sub hl [0] rfl) Y
      · replace hf := gp_t c90_56 hf
        refine lv_aload_n hx hb d_Mo_open_93 rfl (lv_at hl 0 rfl) ?_
        refine gy_get (ci := 8) (v := Value.int (X55.I 46 20)) (C := "CommitLedgerModel") (T := F_Mo) (N := 35) hx hb hts i_Mo hown hK Y gF_46 rfl 20 (by decide) kf_Mo_135 rfl d_Mo_open_94 ?_
        refine lv_if_le (tgt := 111) hx hb d_Mo_open_97 (by decide) (fun c97_57 => ?_) (fun c97_57 => ?_)
        · replace hf := gp_t c97_57 hf
          exact J111 X55 _ _ _ hf (lv_sub hl [0] rfl) Y
        · replace hf := gp_f c97_57 hf
          refine lv_aload_n hx hb d_Mo_open_100 rfl (lv_at hl 0 rfl) ?_
          refine gy_get (ci := 8) (v := Value.ref (b 54)) (C := "CommitLedgerModel") (T := F_Mo) (N := 35) hx hb hts i_Mo hown hK Y gF_46 rfl 15 (by decide) kf_Mo_40 rfl d_Mo_open_101 ?_
          refine lv_aload_n hx hb d_Mo_open_104 rfl (lv_at hl 0 rfl) ?_
          refine gy_get (ci := 8) (v := Value.ref (b 62)) (C := "CommitLedgerModel") (T := F_Mo) (N := 35) hx hb hts i_Mo hown hK Y gF_46 rfl 16 (by decide) kf_Mo_44 rfl d_Mo_open_105 ?_
          obtain ⟨X58, hF58, hf⟩ := gCv_el hf
          refine gy_callV (rm := { frames := 2, cells := 0, slots := 0, locals := 32 }) (ig := .invokevirtual 162) (av := [Value.ref (b 54), Value.ref (b 62)]) Y (fun ws h hS hw => K_Ve_copy l htr D tys z _ ws h hS t ht b X55 hw 54 (by decide) 62 (by decide) (gR.v, X58) hF58) (gx_invV (As := [Value.ref (b 62)]) (rest := []) hx hb hown hts km_Mo_162 kI_Ve_copy kV_Ve_copy kc_Ve_copy (by decide) (show (parseMethodDescriptor y_Ve_copy.desc).map (fun d => d.parameters.length) = some 1 by decide +kernel) (gy_recv (ci := 9) hK Y rfl gF_54) rfl rfl d_Mo_open_108) (gx_cw (z := 0) hts kc_Ve_copy kN_Ve rfl rfl ⟨Nat.le_of_ble_eq_true rfl, Nat.le_of_ble_eq_true rfl⟩) hb hml hz hK hY hAz hA hl.1 (lv_room (Nat.le_of_ble_eq_true rfl)) d_Mo_open_108 ⟨Nat.zero_le _, Nat.zero_le _⟩ (fun H locs Y => ?_)
          exact J111 X58 _ _ _ hf (lv_sub hl [0] rfl) Y
    · replace hf := gp_f c62_53 hf
      exact J65 X52 _ _ _ hf (lv_sub hl [0] rfl) Y
  refine gy_cut (pcJ := 57) Y (fun s : gX => f_Mo_open_57 s a1) o (fun s => s) (fun s ls => lv_has ls 3 [(0, Value.ref (b 46)), (1, Value.int a1)]) (fun s => [Value.ref (b 46)]) ?_ (fun J57 => ?_)
  · rintro X59 H locs ls hf hl Y
    have hl : lv_has ls 3 [(0, Value.ref (b 46)), (1, Value.int a1)] := hl
    have Y : gy D t b A s.heap X0 X59 H locs := Y
    have hf : f_Mo_open_57 X59 a1 = some o := hf
    unfold f_Mo_open_57 at hf
    refine W.eq (g2 := F0 m 57 ls [Value.ref (b 46)]) rfl ?_
    refine lv_iconst (v := 0) hx hb d_Mo_open_57 (by decide) ?_
    exact J58 (X59, 0) _ _ _ hf (lv_sub hl [0, 1] rfl) Y
  refine gy_cut (pcJ := 15) Y (fun s : gX × Int32 => f_Mo_open_15 s.1 a1 s.2) o (fun s => s.1) (fun s ls => lv_has ls 3 [(0, Value.ref (b 46)), (1, Value.int a1)]) (fun s => [Value.int s.2, Value.ref (b 46)]) ?_ (fun J15 => ?_)
  · rintro ⟨X60, i1000_60⟩ H locs ls hf hl Y
    have hl : lv_has ls 3 [(0, Value.ref (b 46)), (1, Value.int a1)] := hl
    have Y : gy D t b A s.heap X0 X60 H locs := Y
    have hf : f_Mo_open_15 X60 a1 i1000_60 = some o := hf
    unfold f_Mo_open_15 at hf
    refine W.eq (g2 := F0 m 15 ls [Value.int i1000_60, Value.ref (b 46)]) rfl ?_
    refine lv_iconst (v := 1) hx hb d_Mo_open_15 (by decide) ?_
    obtain ⟨x61, X61, hF61, hf⟩ := gCi_el hf
    refine gy_callI (rm := { frames := 1, cells := 0, slots := 0, locals := 12 }) (ig := .invokevirtual 152) (av := [Value.ref (b 46), Value.int i1000_60, Value.int 1]) Y (fun ws h hS hw => K_Mo_wrong l htr D tys z _ ws h hS t ht b X60 hw i1000_60 1 (gR.i x61, X61) hF61) (gx_invV (As := [Value.int i1000_60, Value.int 1]) (rest := []) hx hb hown hts km_Mo_152 kI_Mo_wrong kV_Mo_wrong kc_Mo_wrong (by decide) (show (parseMethodDescriptor y_Mo_wrong.desc).map (fun d => d.parameters.length) = some 2 by decide +kernel) (gy_recv (ci := 8) hK Y rfl gF_46) rfl rfl d_Mo_open_16) (gx_cw (z := 0) hts kc_Mo_wrong kN_Mo rfl rfl ⟨Nat.le_of_ble_eq_true rfl, Nat.le_of_ble_eq_true rfl⟩) hb hml hz hK hY hAz hA hl.1 (lv_room (Nat.le_of_ble_eq_true rfl)) d_Mo_open_16 ⟨Nat.zero_le _, Nat.zero_le _⟩ (fun H locs Y => ?_)
    refine lv_if_ne (tgt := 65) hx hb d_Mo_open_19 (by decide) (fun c19_62 => ?_) (fun c19_62 => ?_)
    · replace hf := gp_f c19_62 hf
      exact J65 X61 _ _ _ hf (lv_sub hl [0] rfl) Y
    · replace hf := gp_t c19_62 hf
      refine lv_aload_n hx hb d_Mo_open_22 rfl (lv_at hl 0 rfl) ?_
      refine lv_aload_n hx hb d_Mo_open_23 rfl (lv_at hl 0 rfl) ?_
      refine gy_get (ci := 8) (v := Value.int (X61.I 46 18)) (C := "CommitLedgerModel") (T := F_Mo) (N := 35) hx hb hts i_Mo hown hK Y gF_46 rfl 18 (by decide) kf_Mo_99 rfl d_Mo_open_24 ?_
      refine lv_iconst (v := 2) hx hb d_Mo_open_27 (by decide) ?_
      obtain ⟨x63, X63, hF63, hf⟩ := gCi_el hf
      refine gy_callI (rm := { frames := 1, cells := 0, slots := 0, locals := 12 }) (ig := .invokevirtual 152) (av := [Value.ref (b 46), Value.int (X61.I 46 18), Value.int 2]) Y (fun ws h hS hw => K_Mo_wrong l htr D tys z _ ws h hS t ht b X61 hw (X61.I 46 18) 2 (gR.i x63, X63) hF63) (gx_invV (As := [Value.int (X61.I 46 18), Value.int 2]) (rest := []) hx hb hown hts km_Mo_152 kI_Mo_wrong kV_Mo_wrong kc_Mo_wrong (by decide) (show (parseMethodDescriptor y_Mo_wrong.desc).map (fun d => d.parameters.length) = some 2 by decide +kernel) (gy_recv (ci := 8) hK Y rfl gF_46) rfl rfl d_Mo_open_28) (gx_cw (z := 0) hts kc_Mo_wrong kN_Mo rfl rfl ⟨Nat.le_of_ble_eq_true rfl, Nat.le_of_ble_eq_true rfl⟩) hb hml hz hK hY hAz hA hl.1 (lv_room (Nat.le_of_ble_eq_true rfl)) d_Mo_open_28 ⟨Nat.zero_le _, Nat.zero_le _⟩ (fun H locs Y => ?_)
      refine lv_if_ne (tgt := 65) hx hb d_Mo_open_31 (by decide) (fun c31_64 => ?_) (fun c31_64 => ?_)
      · replace hf := gp_f c31_64 hf
        exact J65 X63 _ _ _ hf (lv_sub hl [0] rfl) Y
      · replace hf := gp_t c31_64 hf
        refine lv_aload_n hx hb d_Mo_open_34 rfl (lv_at hl 0 rfl) ?_
        refine lv_iload_n hx hb d_Mo_open_35 rfl (lv_at hl 1 rfl) ?_
        refine lv_if_ne (tgt := 57) hx hb d_Mo_open_36 (by decide) (fun c36_65 => ?_) (fun c36_65 => ?_)
        · replace hf := gp_f c36_65 hf
          exact J57 X63 _ _ _ hf (lv_sub hl [0, 1] rfl) Y
        · replace hf := gp_t c36_65 hf
          refine lv_aload_n hx hb d_Mo_open_39 rfl (lv_at hl 0 rfl) ?_
          refine gy_get (ci := 8) (v := Value.int (X63.I 46 20)) (C := "CommitLedgerModel") (T := F_Mo) (N := 35) hx hb hts i_Mo hown hK Y gF_46 rfl 20 (by decide) kf_Mo_135 rfl d_Mo_open_40 ?_
          refine lv_if_le (tgt := 57) hx hb d_Mo_open_43 (by decide) (fun c43_66 => ?_) (fun c43_66 => ?_)
          · replace hf := gp_t c43_66 hf
            exact J57 X63 _ _ _ hf (lv_sub hl [0, 1] rfl) Y
          · replace hf := gp_f c43_66 hf
            refine lv_aload_n hx hb d_Mo_open_46 rfl (lv_at hl 0 rfl) ?_
            obtain ⟨x67, X67, hF67, hf⟩ := gCi_el hf
            refine gy_callI (rm := { frames := 2, cells := 0, slots := 0, locals := 36 }) (ig := .invokevirtual 156) (av := [Value.ref (b 46)]) Y (fun ws h hS hw => K_Mo_corrupt l htr D tys z _ ws h hS t ht b X63 hw (gR.i x67, X67) hF67) (gx_invV (As := []) (rest := [Value.ref (b 46)]) hx hb hown hts km_Mo_156 kI_Mo_corrupt kV_Mo_corrupt kc_Mo_corrupt (by decide) (show (parseMethodDescriptor y_Mo_corrupt.desc).map (fun d => d.parameters.length) = some 0 by decide +kernel) (gy_recv (ci := 8) hK Y rfl gF_46) rfl rfl d_Mo_open_47) (gx_cw (z := 0) hts kc_Mo_corrupt kN_Mo rfl rfl ⟨Nat.le_of_ble_eq_true rfl, Nat.le_of_ble_eq_true rfl⟩) hb hml hz hK hY hAz hA hl.1 (lv_room (Nat.le_of_ble_eq_true rfl)) d_Mo_open_47 ⟨Nat.zero_le _, Nat.zero_le _⟩ (fun H locs Y => ?_)
            refine lv_if_eq (tgt := 57) hx hb d_Mo_open_50 (by decide) (fun c50_68 => ?_) (fun c50_68 => ?_)
            · replace hf := gp_t c50_68 hf
              exact J57 X67 _ _ _ hf (lv_sub hl [0, 1] rfl) Y
            · replace hf := gp_f c50_68 hf
              refine lv_iconst (v := 1) hx hb d_Mo_open_53 (by decide) ?_
              refine lv_goto (tgt := 58) hx hb d_Mo_open_54 (by decide) ?_
              exact J58 (X67, 1) _ _ _ hf (lv_sub hl [0, 1] rfl) Y
  refine gy_cut (pcJ := 10) Y (fun s : gX => f_Mo_open_10 s a1) o (fun s => s) (fun s ls => lv_has ls 3 [(0, Value.ref (b 46)), (1, Value.int a1)]) (fun s => [Value.ref (b 46)]) ?_ (fun J10 => ?_)
  · rintro X69 H locs ls hf hl Y
    have hl : lv_has ls 3 [(0, Value.ref (b 46)), (1, Value.int a1)] := hl
    have Y : gy D t b A s.heap X0 X69 H locs := Y
    have hf : f_Mo_open_10 X69 a1 = some o := hf
    unfold f_Mo_open_10 at hf
    refine W.eq (g2 := F0 m 10 ls [Value.ref (b 46)]) rfl ?_
    refine lv_iconst (v := 1) hx hb d_Mo_open_10 (by decide) ?_
    refine lv_goto (tgt := 15) hx hb d_Mo_open_11 (by decide) ?_
    exact J15 (X69, 1) _ _ _ hf (lv_sub hl [0, 1] rfl) Y
  unfold f_Mo_open at hf
  refine lv_aload_n hx hb d_Mo_open_0 rfl (lv_at hl 0 rfl) ?_
  refine lv_iload_n hx hb d_Mo_open_1 rfl (lv_at hl 1 rfl) ?_
  refine lv_if_lt (tgt := 10) hx hb d_Mo_open_2 (by decide) (fun c2_70 => ?_) (fun c2_70 => ?_)
  · replace hf := gp_t c2_70 hf
    exact J10 X0 _ _ _ hf (lv_sub hl [0, 1] rfl) Y
  · replace hf := gp_f c2_70 hf
    refine lv_iload_n hx hb d_Mo_open_5 rfl (lv_at hl 1 rfl) ?_
    refine lv_iconst (v := 1) hx hb d_Mo_open_6 (by decide) ?_
    refine lv_icmp_le (tgt := 14) hx hb d_Mo_open_7 (by decide) (fun c7_71 => ?_) (fun c7_71 => ?_)
    · replace hf := gp_t c7_71 hf
      refine lv_iconst (v := 0) hx hb d_Mo_open_14 (by decide) ?_
      exact J15 (X0, 0) _ _ _ hf (lv_sub hl [0, 1] rfl) Y
    · replace hf := gp_f c7_71 hf
      exact J10 X0 _ _ _ hf (lv_sub hl [0, 1] rfl) Y

def f_Mo_limits_46 (X : gX) : Option (gR × gX) := gCi (f_Mo_done X 0 1) (fun x4 X4 => some (gR.v, X4))
def f_Mo_limits_29 (X : gX) (i1 : Int32) (i2 : Int32) (i1000 : Int32) : Option (gR × gX) := gCi (f_Mo_wrong X i1000 1) (fun x2 X2 => (if x2 = (0 : Int32) then gB (X2.w 46 24 i1) (fun X5 => gB (X5.w 46 25 i2) (fun X6 => f_Mo_limits_46 X6)) else f_Mo_limits_46 X2))
def f_Mo_limits_24 (X : gX) (i1 : Int32) (i2 : Int32) : Option (gR × gX) := f_Mo_limits_29 X i1 i2 1
def f_Mo_limits (X0 : gX) (a1 : Int32) (a2 : Int32) : Option (gR × gX) := (if a1 < (1 : Int32) then f_Mo_limits_24 X0 a1 a2 else (if (10000 : Int32) < a1 then f_Mo_limits_24 X0 a1 a2 else (if a2 < (2 : Int32) then f_Mo_limits_24 X0 a1 a2 else (if a2 ≤ (64 : Int32) then f_Mo_limits_29 X0 a1 a2 0 else f_Mo_limits_24 X0 a1 a2))))
set_option maxHeartbeats 4000000 in
set_option maxRecDepth 100000 in
theorem K_Mo_limits (l : Launch) (htr : l.stackTraces = false) (D : va_G) (tys : List (ClassId × FieldType)) (z sz : Nat) (ws : va_W) (h : gm_M) (hM : gm_S h ws) (t : Nat → ClassId) (ht : gTy t tys) (b : Nat → Nat) (X0 : gX) (hw : gw D t b X0 h) (a1 : Int32) (a2 : Int32) (o : gR × gX) (hf : f_Mo_limits X0 a1 a2 = some o) : gx_Met l y_Mo_limits [Cond.code y_Mo_limits b_Mo_limits 4 none] { frames := 2, cells := 0, slots := 0, locals := 37 } (gx_P z sz D classes tys ws [Value.ref (b 46), Value.int a1, Value.int a2]) (gx_Q D classes tys (va_A ws sz) (gPo D t b X0 o)) (0) (0) (va_A ws sz) := by
  refine gx_ofW (cc := b_Mo_limits) (maxL := 4) (ret := none) (by decide) rfl ?_
  intro p e s m args below meth c s₁ B hml hv
  obtain ⟨rfl, hsz, hz, hP, hK, hD0, hY⟩ := hv
  have hx := B.exec
  have hb := B.bytes
  have hr := B.returns
  have hts := hY.hts (#[Value.ref (b 46), Value.int a1, Value.int a2] : Array Value)
  have hown : s.vm.findClass "CommitLedgerModel" = some m.cls := findClass_of_methodNamed B.named
  have hlocks := B.notSynchronized
  subst hsz
  have hAz := gx_az hD0 hz
  have hD := hD0.self (sz := s.heap.size)
  have hA : ∀ q : Nat, s.heap.size ≤ q → va_A ws s.heap.size q := fun q h => Or.inr h
  generalize va_A ws s.heap.size = A at hD hA hAz ⊢
  have Y : gy D t b A s.heap X0 X0 s.heap [] := ⟨h, ⟨ws, hM, hP, hD, va_S.rf⟩, hw, gEq.rf⟩
  clear hP hD hM hD0 hw
  obtain ⟨ht0, ht1, ht2, ht3, ht4, ht5, ht6, ht7, ht8⟩ := id ht
  have hl := lv_entry ([Value.ref (b 46), Value.int a1, Value.int a2]) (n := 4) (Nat.le_of_ble_eq_true rfl)
  rw [lg_entry_eq]
  generalize (lg_sl ([Value.ref (b 46), Value.int a1, Value.int a2]) ++ List.replicate (4 - (lg_sl ([Value.ref (b 46), Value.int a1, Value.int a2])).length) Slot.unset).toArray = ls at hl ⊢
  have hl : lv_has ls 4 [(0, Value.ref (b 46)), (1, Value.int a1), (2, Value.int a2)] := hl
  refine gy_cut (pcJ := 46) Y (fun s : gX => f_Mo_limits_46 s) o (fun s => s) (fun s ls => lv_has ls 4 [(0, Value.ref (b 46))]) (fun s => []) ?_ (fun J46 => ?_)
  · rintro X10 H locs ls hf hl Y
    have hl : lv_has ls 4 [(0, Value.ref (b 46))] := hl
    have Y : gy D t b A s.heap X0 X10 H locs := Y
    have hf : f_Mo_limits_46 X10 = some o := hf
    unfold f_Mo_limits_46 at hf
    refine lv_aload_n hx hb d_Mo_limits_46 rfl (lv_at hl 0 rfl) ?_
    refine lv_iconst (v := 0) hx hb d_Mo_limits_47 (by decide) ?_
    refine lv_iconst (v := 1) hx hb d_Mo_limits_48 (by decide) ?_
    obtain ⟨x11, X11, hF11, hf⟩ := gCi_el hf
    refine gy_callI (rm := { frames := 1, cells := 0, slots := 0, locals := 12 }) (ig := .invokevirtual 148) (av := [Value.ref (b 46), Value.int 0, Value.int 1]) Y (fun ws h hS hw => K_Mo_done l htr D tys z _ ws h hS t ht b X10 hw 0 1 (gR.i x11, X11) hF11) (gx_invV (As := [Value.int 0, Value.int 1]) (rest := []) hx hb hown hts km_Mo_148 kI_Mo_done kV_Mo_done kc_Mo_done (by decide) (show (parseMethodDescriptor y_Mo_done.desc).map (fun d => d.parameters.length) = some 2 by decide +kernel) (gy_recv (ci := 8) hK Y rfl gF_46) rfl rfl d_Mo_limits_49) (gx_cw (z := 0) hts kc_Mo_done kN_Mo rfl rfl ⟨Nat.le_of_ble_eq_true rfl, Nat.le_of_ble_eq_true rfl⟩) hb hml hz hK hY hAz hA hl.1 (lv_room (Nat.le_of_ble_eq_true rfl)) d_Mo_limits_49 ⟨Nat.zero_le _, Nat.zero_le _⟩ (fun H locs Y => ?_)
    refine lv_istore_n (lv' := [(3, Value.int x11), (0, Value.ref (b 46))]) hx hb d_Mo_limits_52 rfl hl (by decide) rfl (fun ls hl => ?_)
    exact gy_vret hf hx hb hr hlocks hK Y (Nat.zero_le _) (Nat.zero_le _) d_Mo_limits_53
  refine gy_cut (pcJ := 29) Y (fun s : gX × Int32 => f_Mo_limits_29 s.1 a1 a2 s.2) o (fun s => s.1) (fun s ls => lv_has ls 4 [(0, Value.ref (b 46)), (1, Value.int a1), (2, Value.int a2)]) (fun s => [Value.int s.2, Value.ref (b 46)]) ?_ (fun J29 => ?_)
  · rintro ⟨X12, i1000_12⟩ H locs ls hf hl Y
    have hl : lv_has ls 4 [(0, Value.ref (b 46)), (1, Value.int a1), (2, Value.int a2)] := hl
    have Y : gy D t b A s.heap X0 X12 H locs := Y
    have hf : f_Mo_limits_29 X12 a1 a2 i1000_12 = some o := hf
    unfold f_Mo_limits_29 at hf
    refine W.eq (g2 := F0 m 29 ls [Value.int i1000_12, Value.ref (b 46)]) rfl ?_
    refine lv_iconst (v := 1) hx hb d_Mo_limits_29 (by decide) ?_
    obtain ⟨x13, X13, hF13, hf⟩ := gCi_el hf
    refine gy_callI (rm := { frames := 1, cells := 0, slots := 0, locals := 12 }) (ig := .invokevirtual 152) (av := [Value.ref (b 46), Value.int i1000_12, Value.int 1]) Y (fun ws h hS hw => K_Mo_wrong l htr D tys z _ ws h hS t ht b X12 hw i1000_12 1 (gR.i x13, X13) hF13) (gx_invV (As := [Value.int i1000_12, Value.int 1]) (rest := []) hx hb hown hts km_Mo_152 kI_Mo_wrong kV_Mo_wrong kc_Mo_wrong (by decide) (show (parseMethodDescriptor y_Mo_wrong.desc).map (fun d => d.parameters.length) = some 2 by decide +kernel) (gy_recv (ci := 8) hK Y rfl gF_46) rfl rfl d_Mo_limits_30) (gx_cw (z := 0) hts kc_Mo_wrong kN_Mo rfl rfl ⟨Nat.le_of_ble_eq_true rfl, Nat.le_of_ble_eq_true rfl⟩) hb hml hz hK hY hAz hA hl.1 (lv_room (Nat.le_of_ble_eq_true rfl)) d_Mo_limits_30 ⟨Nat.zero_le _, Nat.zero_le _⟩ (fun H locs Y => ?_)
    refine lv_if_ne (tgt := 46) hx hb d_Mo_limits_33 (by decide) (fun c33_14 => ?_) (fun c33_14 => ?_)
    · replace hf := gp_f c33_14 hf
      exact J46 X13 _ _ _ hf (lv_sub hl [0] rfl) Y
    · replace hf := gp_t c33_14 hf
      refine lv_aload_n hx hb d_Mo_limits_36 rfl (lv_at hl 0 rfl) ?_
      refine lv_iload_n hx hb d_Mo_limits_37 rfl (lv_at hl 1 rfl) ?_
      refine gy_put hf (ci := 8) (ty := .int) (C := "CommitLedgerModel") (T := F_Mo) (N := 35) hx hb hts i_Mo t_Mo_ok n_Mo hown hK Y gF_46 rfl (by decide) kf_Mo_56 rfl (by decide +kernel) rfl rfl (Nat.le_of_ble_eq_true rfl) gF_46 d_Mo_limits_38 (fun X15 H locs hf Y => ?_)
      refine lv_aload_n hx hb d_Mo_limits_41 rfl (lv_at hl 0 rfl) ?_
      refine lv_iload_n hx hb d_Mo_limits_42 rfl (lv_at hl 2 rfl) ?_
      refine gy_put hf (ci := 8) (ty := .int) (C := "CommitLedgerModel") (T := F_Mo) (N := 35) hx hb hts i_Mo t_Mo_ok n_Mo hown hK Y gF_46 rfl (by decide) kf_Mo_59 rfl (by decide +kernel) rfl rfl (Nat.le_of_ble_eq_true rfl) gF_46 d_Mo_limits_43 (fun X16 H locs hf Y => ?_)
      exact J46 X16 _ _ _ hf (lv_sub hl [0] rfl) Y
  refine gy_cut (pcJ := 24) Y (fun s : gX => f_Mo_limits_24 s a1 a2) o (fun s => s) (fun s ls => lv_has ls 4 [(0, Value.ref (b 46)), (1, Value.int a1), (2, Value.int a2)]) (fun s => [Value.ref (b 46)]) ?_ (fun J24 => ?_)
  · rintro X17 H locs ls hf hl Y
    have hl : lv_has ls 4 [(0, Value.ref (b 46)), (1, Value.int a1), (2, Value.int a2)] := hl
    have Y : gy D t b A s.heap X0 X17 H locs := Y
    have hf : f_Mo_limits_24 X17 a1 a2 = some o := hf
    unfold f_Mo_limits_24 at hf
    refine W.eq (g2 := F0 m 24 ls [Value.ref (b 46)]) rfl ?_
    refine lv_iconst (v := 1) hx hb d_Mo_limits_24 (by decide) ?_
    refine lv_goto (tgt := 29) hx hb d_Mo_limits_25 (by decide) ?_
    exact J29 (X17, 1) _ _ _ hf (lv_sub hl [0, 1, 2] rfl) Y
  unfold f_Mo_limits at hf
  refine lv_aload_n hx hb d_Mo_limits_0 rfl (lv_at hl 0 rfl) ?_
  refine lv_iload_n hx hb d_Mo_limits_1 rfl (lv_at hl 1 rfl) ?_
  refine lv_iconst (v := 1) hx hb d_Mo_limits_2 (by decide) ?_
  refine lv_icmp_lt (tgt := 24) hx hb d_Mo_limits_3 (by decide) (fun c3_18 => ?_) (fun c3_18 => ?_)
  · replace hf := gp_t c3_18 hf
    exact J24 X0 _ _ _ hf (lv_sub hl [0, 1, 2] rfl) Y
  · replace hf := gp_f c3_18 hf
    refine lv_iload_n hx hb d_Mo_limits_6 rfl (lv_at hl 1 rfl) ?_
    refine lv_sipush (v := 10000) hx hb d_Mo_limits_7 (by decide) ?_
    refine lv_icmp_gt (tgt := 24) hx hb d_Mo_limits_10 (by decide) (fun c10_19 => ?_) (fun c10_19 => ?_)
    · replace hf := gp_t c10_19 hf
      exact J24 X0 _ _ _ hf (lv_sub hl [0, 1, 2] rfl) Y
    · replace hf := gp_f c10_19 hf
      refine lv_iload_n hx hb d_Mo_limits_13 rfl (lv_at hl 2 rfl) ?_
      refine lv_iconst (v := 2) hx hb d_Mo_limits_14 (by decide) ?_
      refine lv_icmp_lt (tgt := 24) hx hb d_Mo_limits_15 (by decide) (fun c15_20 => ?_) (fun c15_20 => ?_)
      · replace hf := gp_t c15_20 hf
        exact J24 X0 _ _ _ hf (lv_sub hl [0, 1, 2] rfl) Y
      · replace hf := gp_f c15_20 hf
        refine lv_iload_n hx hb d_Mo_limits_18 rfl (lv_at hl 2 rfl) ?_
        refine lv_bipush (v := 64) hx hb d_Mo_limits_19 (by decide) ?_
        refine lv_icmp_le (tgt := 28) hx hb d_Mo_limits_21 (by decide) (fun c21_21 => ?_) (fun c21_21 => ?_)
        · replace hf := gp_t c21_21 hf
          refine lv_iconst (v := 0) hx hb d_Mo_limits_28 (by decide) ?_
          exact J29 (X0, 0) _ _ _ hf (lv_sub hl [0, 1, 2] rfl) Y
        · replace hf := gp_f c21_21 hf
          exact J24 X0 _ _ _ hf (lv_sub hl [0, 1, 2] rfl) Y

def f_Mo_add_209 (X : gX) (i1 : Int32) (i2 : Int32) (i3 : Int32) (i4 : Int32) : Option ((gX × Int32) ⊕ (gR × gX)) := some (Sum.inl (X, i4 + 1))
def f_Mo_add_81 (X : gX) (i1 : Int32) (i2 : Int32) (i3 : Int32) (i4 : Int32) : Option ((gX × Int32) ⊕ (gR × gX)) := (if i3 ≤ i4 then gCi (f_Mo_finished X (X.I 54 8) 1256) (fun x13 X13 => gLf (some (gR.i x13, X13))) else gB (X.w 54 8 ((X.I 54 8) + 1)) (fun X14 => (if gIn (X14.I 46 5) 4096 then gB (X14.w 47 (gn (X14.I 46 5)) (i1 + i4)) (fun X15 => (if gIn (X15.I 46 5) 4096 then gB (X15.w 48 (gn (X15.I 46 5)) i2) (fun X16 => (if gIn (X16.I 46 5) 4096 then gB (X16.w 49 (gn (X16.I 46 5)) (X16.I 54 8)) (fun X17 => (if gIn (X17.I 46 23) 4096 then gB (X17.w 78 (gn (X17.I 46 23)) (X17.I 46 5)) (fun X18 => (if gIn (X18.I 46 23) 4096 then gB (X18.w 79 (gn (X18.I 46 23)) (vp_nar .boolean 1)) (fun X19 => gB (X19.w 46 23 ((X19.I 46 23) + 1)) (fun X20 => gB (X20.w 46 5 ((X20.I 46 5) + 1)) (fun X21 => (if (X21.I 46 23) < (X21.I 46 24) then f_Mo_add_209 X21 i1 i2 i3 i4 else gCi (f_Mo_flushing X21) (fun x23 X23 => (if x23 = (0 : Int32) then gCi (f_Mo_finished X23 0 1256) (fun x25 X25 => gLf (some (gR.i x25, X25))) else f_Mo_add_209 X23 i1 i2 i3 i4)))))) else none)) else none)) else none)) else none)) else none)))
def f_Mo_add_69 (X : gX) : Option (gR × gX) := gCi (f_Mo_done X 0 1256) (fun x4 X4 => some (gR.i x4, X4))
def f_Mo_add_62 (X : gX) (i1 : Int32) (i2 : Int32) (i3 : Int32) (i1000 : Int32) : Option (gR × gX) := gCi (f_Mo_wrong X i1000 5) (fun x9 X9 => (if x9 = (0 : Int32) then gI (fun s : gX × Int32 => f_Mo_add_81 s.1 i1 i2 i3 s.2) gK (X9, 0) else f_Mo_add_69 X9))
def f_Mo_add_37 (X : gX) (i1 : Int32) (i2 : Int32) (i3 : Int32) (i1000 : Int32) : Option (gR × gX) := gCi (f_Mo_wrong X i1000 2) (fun x6 X6 => (if x6 = (0 : Int32) then (if ((X6.I 46 5) + i3) ≤ (4096 : Int32) then f_Mo_add_62 X6 i1 i2 i3 0 else f_Mo_add_62 X6 i1 i2 i3 1) else f_Mo_add_69 X6))
def f_Mo_add_17 (X : gX) (i1 : Int32) (i2 : Int32) (i3 : Int32) (i1000 : Int32) : Option (gR × gX) := gCi (f_Mo_wrong X i1000 1) (fun x2 X2 => (if x2 = (0 : Int32) then (if (X2.I 46 18) = (0 : Int32) then f_Mo_add_37 X2 i1 i2 i3 1 else f_Mo_add_37 X2 i1 i2 i3 0) else f_Mo_add_69 X2))
def f_Mo_add_12 (X : gX) (i1 : Int32) (i2 : Int32) (i3 : Int32) : Option (gR × gX) := f_Mo_add_17 X i1 i2 i3 1
def f_Mo_add (X0 : gX) (a1 : Int32) (a2 : Int32) (a3 : Int32) : Option (gR × gX) := (if a3 < (1 : Int32) then f_Mo_add_12 X0 a1 a2 a3 else (if a3 ≤ (100 : Int32) then f_Mo_add_17 X0 a1 a2 a3 0 else f_Mo_add_12 X0 a1 a2 a3))
set_option maxHeartbeats 4000000 in
set_option maxRecDepth 100000 in
theorem K_Mo_add (l : Launch) (htr : l.stackTraces = false) (D : va_G) (tys : List (ClassId × FieldType)) (z sz : Nat) (ws : va_W) (h : gm_M) (hM : gm_S h ws) (t : Nat → ClassId) (ht : gTy t tys) (b : Nat → Nat) (X0 : gX) (hw : gw D t b X0 h) (a1 : Int32) (a2 : Int32) (a3 : Int32) (o : gR × gX) (hf : f_Mo_add X0 a1 a2 a3 = some o) : gx_Met l y_Mo_add [Cond.code y_Mo_add b_Mo_add 5 (some .int)] { frames := 6, cells := 0, slots := 0, locals := 123 } (gx_P z sz D classes tys ws [Value.ref (b 46), Value.int a1, Value.int a2, Value.int a3]) (gx_Q D classes tys (va_A ws sz) (gPo D t b X0 o)) (0) (0) (va_A ws sz) := by
  refine gx_ofW (cc := b_Mo_add) (maxL := 5) (ret := (some .int)) (by decide) rfl ?_
  intro p e s m args below meth c s₁ B hml hv
  obtain ⟨rfl, hsz, hz, hP, hK, hD0, hY⟩ := hv
  have hx := B.exec
  have hb := B.bytes
  have hr := B.returns
  have hts := hY.hts (#[Value.ref (b 46), Value.int a1, Value.int a2, Value.int a3] : Array Value)
  have hown : s.vm.findClass "CommitLedgerModel" = some m.cls := findClass_of_methodNamed B.named
  have hlocks := B.notSynchronized
  subst hsz
  have hAz := gx_az hD0 hz
  have hD := hD0.self (sz := s.heap.size)
  have hA : ∀ q : Nat, s.heap.size ≤ q → va_A ws s.heap.size q := fun q h => Or.inr h
  generalize va_A ws s.heap.size = A at hD hA hAz ⊢
  have Y : gy D t b A s.heap X0 X0 s.heap [] := ⟨h, ⟨ws, hM, hP, hD, va_S.rf⟩, hw, gEq.rf⟩
  clear hP hD hM hD0 hw
  obtain ⟨ht0, ht1, ht2, ht3, ht4, ht5, ht6, ht7, ht8⟩ := id ht
  have hl := lv_entry ([Value.ref (b 46), Value.int a1, Value.int a2, Value.int a3]) (n := 5) (Nat.le_of_ble_eq_true rfl)
  rw [lg_entry_eq]
  generalize (lg_sl ([Value.ref (b 46), Value.int a1, Value.int a2, Value.int a3]) ++ List.replicate (5 - (lg_sl ([Value.ref (b 46), Value.int a1, Value.int a2, Value.int a3])).length) Slot.unset).toArray = ls at hl ⊢
  have hl : lv_has ls 5 [(0, Value.ref (b 46)), (1, Value.int a1), (2, Value.int a2), (3, Value.int a3)] := hl
  refine gy_cut (pcJ := 69) Y (fun s : gX => f_Mo_add_69 s) o (fun s => s) (fun s ls => lv_has ls 5 [(0, Value.ref (b 46))]) (fun s => []) ?_ (fun J69 => ?_)
  · rintro X42 H locs ls hf hl Y
    have hl : lv_has ls 5 [(0, Value.ref (b 46))] := hl
    have Y : gy D t b A s.heap X0 X42 H locs := Y
    have hf : f_Mo_add_69 X42 = some o := hf
    unfold f_Mo_add_69 at hf
    refine lv_aload_n hx hb d_Mo_add_69 rfl (lv_at hl 0 rfl) ?_
    refine lv_iconst (v := 0) hx hb d_Mo_add_70 (by decide) ?_
    refine lv_sipush (v := 1256) hx hb d_Mo_add_71 (by decide) ?_
    obtain ⟨x43, X43, hF43, hf⟩ := gCi_el hf
    refine gy_callI (rm := { frames := 1, cells := 0, slots := 0, locals := 12 }) (ig := .invokevirtual 148) (av := [Value.ref (b 46), Value.int 0, Value.int 1256]) Y (fun ws h hS hw => K_Mo_done l htr D tys z _ ws h hS t ht b X42 hw 0 1256 (gR.i x43, X43) hF43) (gx_invV (As := [Value.int 0, Value.int 1256]) (rest := []) hx hb hown hts km_Mo_148 kI_Mo_done kV_Mo_done kc_Mo_done (by decide) (show (parseMethodDescriptor y_Mo_done.desc).map (fun d => d.parameters.length) = some 2 by decide +kernel) (gy_recv (ci := 8) hK Y rfl gF_46) rfl rfl d_Mo_add_74) (gx_cw (z := 0) hts kc_Mo_done kN_Mo rfl rfl ⟨Nat.le_of_ble_eq_true rfl, Nat.le_of_ble_eq_true rfl⟩) hb hml hz hK hY hAz hA hl.1 (lv_room (Nat.le_of_ble_eq_true rfl)) d_Mo_add_74 ⟨Nat.zero_le _, Nat.zero_le _⟩ (fun H locs Y => ?_)
    exact gy_iret hf hx hb hr hlocks hK Y (Nat.zero_le _) (Nat.zero_le _) d_Mo_add_77
  refine gy_cut (pcJ := 62) Y (fun s : gX × Int32 => f_Mo_add_62 s.1 a1 a2 a3 s.2) o (fun s => s.1) (fun s ls => lv_has ls 5 [(0, Value.ref (b 46)), (1, Value.int a1), (2, Value.int a2), (3, Value.int a3)]) (fun s => [Value.int s.2, Value.ref (b 46)]) ?_ (fun J62 => ?_)
  · rintro ⟨X44, i1000_44⟩ H locs ls hf hl Y
    have hl : lv_has ls 5 [(0, Value.ref (b 46)), (1, Value.int a1), (2, Value.int a2), (3, Value.int a3)] := hl
    have Y : gy D t b A s.heap X0 X44 H locs := Y
    have hf : f_Mo_add_62 X44 a1 a2 a3 i1000_44 = some o := hf
    unfold f_Mo_add_62 at hf
    refine W.eq (g2 := F0 m 62 ls [Value.int i1000_44, Value.ref (b 46)]) rfl ?_
    refine lv_iconst (v := 5) hx hb d_Mo_add_62 (by decide) ?_
    obtain ⟨x45, X45, hF45, hf⟩ := gCi_el hf
    refine gy_callI (rm := { frames := 1, cells := 0, slots := 0, locals := 12 }) (ig := .invokevirtual 152) (av := [Value.ref (b 46), Value.int i1000_44, Value.int 5]) Y (fun ws h hS hw => K_Mo_wrong l htr D tys z _ ws h hS t ht b X44 hw i1000_44 5 (gR.i x45, X45) hF45) (gx_invV (As := [Value.int i1000_44, Value.int 5]) (rest := []) hx hb hown hts km_Mo_152 kI_Mo_wrong kV_Mo_wrong kc_Mo_wrong (by decide) (show (parseMethodDescriptor y_Mo_wrong.desc).map (fun d => d.parameters.length) = some 2 by decide +kernel) (gy_recv (ci := 8) hK Y rfl gF_46) rfl rfl d_Mo_add_63) (gx_cw (z := 0) hts kc_Mo_wrong kN_Mo rfl rfl ⟨Nat.le_of_ble_eq_true rfl, Nat.le_of_ble_eq_true rfl⟩) hb hml hz hK hY hAz hA hl.1 (lv_room (Nat.le_of_ble_eq_true rfl)) d_Mo_add_63 ⟨Nat.zero_le _, Nat.zero_le _⟩ (fun H locs Y => ?_)
    refine lv_if_eq (tgt := 78) hx hb d_Mo_add_66 (by decide) (fun c66_46 => ?_) (fun c66_46 => ?_)
    · replace hf := gp_t c66_46 hf
      refine lv_iconst (v := 0) hx hb d_Mo_add_78 (by decide) ?_
      refine lv_istore (lv' := [(4, Value.int 0), (0, Value.ref (b 46)), (1, Value.int a1), (2, Value.int a2), (3, Value.int a3)]) hx hb d_Mo_add_79 hl (by decide) rfl (fun ls hl => ?_)
      refine gy_iter (fun s : gX × Int32 => s.1) (fun (s : gX × Int32) ls => lv_has ls 5 [(4, Value.int s.2), (0, Value.ref (b 46)), (1, Value.int a1), (2, Value.int a2), (3, Value.int a3)]) ?_ gK (X45, 0) _ _ _ hf (lv_sub hl [0, 1, 2, 3, 4] rfl) Y
      rintro ⟨X47, i4_47⟩ u47 H locs ls hf hl Y hk47 ho47
      have hl : lv_has ls 5 [(4, Value.int i4_47), (0, Value.ref (b 46)), (1, Value.int a1), (2, Value.int a2), (3, Value.int a3)] := hl
      have Y : gy D t b A s.heap X0 X47 H locs := Y
      have hf : f_Mo_add_81 X47 a1 a2 a3 i4_47 = some u47 := hf
      refine gy_cut (pcJ := 209) Y (fun s : gX × Int32 => f_Mo_add_209 s.1 a1 a2 a3 s.2) u47 (fun s => s.1) (fun s ls => lv_has ls 5 [(4, Value.int s.2), (0, Value.ref (b 46)), (1, Value.int a1), (2, Value.int a2), (3, Value.int a3)]) (fun s => []) ?_ (fun J209 => ?_)
      · rintro ⟨X48, i4_48⟩ H locs ls hf hl Y
        have hl : lv_has ls 5 [(4, Value.int i4_48), (0, Value.ref (b 46)), (1, Value.int a1), (2, Value.int a2), (3, Value.int a3)] := hl
        have Y : gy D t b A s.heap X0 X48 H locs := Y
        have hf : f_Mo_add_209 X48 a1 a2 a3 i4_48 = some u47 := hf
        unfold f_Mo_add_209 at hf
        refine lv_iinc (v := i4_48 + 1) (lv' := [(4, Value.int (i4_48 + 1)), (0, Value.ref (b 46)), (1, Value.int a1), (2, Value.int a2), (3, Value.int a3)]) hx hb d_Mo_add_209 hl (k := 0) rfl (rfl) (by decide) rfl (fun ls hl => ?_)
        refine lv_goto (tgt := 81) hx hb d_Mo_add_212 (by decide) ?_
        exact hk47 _ _ _ _ hf (lv_sub hl [0, 1, 2, 3, 4] rfl) Y
      unfold f_Mo_add_81 at hf
      refine lv_iload hx hb d_Mo_add_81 (lv_at hl 0 rfl) ?_
      refine lv_iload_n hx hb d_Mo_add_83 rfl (lv_at hl 4 rfl) ?_
      refine lv_icmp_ge (tgt := 215) hx hb d_Mo_add_84 (by decide) (fun c84_49 => ?_) (fun c84_49 => ?_)
      · replace hf := gp_t c84_49 hf
        refine lv_aload_n hx hb d_Mo_add_215 rfl (lv_at hl 1 rfl) ?_
        refine lv_aload_n hx hb d_Mo_add_216 rfl (lv_at hl 1 rfl) ?_
        refine gy_get (ci := 8) (v := Value.ref (b 54)) (C := "CommitLedgerModel") (T := F_Mo) (N := 35) hx hb hts i_Mo hown hK Y gF_46 rfl 15 (by decide) kf_Mo_40 rfl d_Mo_add_217 ?_
        refine gy_get (ci := 9) (v := Value.int (X47.I 54 8)) (C := "CommitLedgerModel$Version") (T := F_Ve) (N := 11) hx hb hts i_Ve hown hK Y gF_54 rfl 8 (by decide) kf_Mo_159 rfl d_Mo_add_220 ?_
        refine lv_sipush (v := 1256) hx hb d_Mo_add_223 (by decide) ?_
        obtain ⟨x50, X50, hF50, hf⟩ := gCi_el hf
        refine gy_callI (rm := { frames := 4, cells := 0, slots := 0, locals := 83 }) (ig := .invokevirtual 175) (av := [Value.ref (b 46), Value.int (X47.I 54 8), Value.int 1256]) Y (fun ws h hS hw => K_Mo_finished l htr D tys z _ ws h hS t ht b X47 hw (X47.I 54 8) 1256 (gR.i x50, X50) hF50) (gx_invV (As := [Value.int (X47.I 54 8), Value.int 1256]) (rest := []) hx hb hown hts km_Mo_175 kI_Mo_finished kV_Mo_finished kc_Mo_finished (by decide) (show (parseMethodDescriptor y_Mo_finished.desc).map (fun d => d.parameters.length) = some 2 by decide +kernel) (gy_recv (ci := 8) hK Y rfl gF_46) rfl rfl d_Mo_add_226) (gx_cw (z := 0) hts kc_Mo_finished kN_Mo rfl rfl ⟨Nat.le_of_ble_eq_true rfl, Nat.le_of_ble_eq_true rfl⟩) hb hml hz hK hY hAz hA hl.1 (lv_room (Nat.le_of_ble_eq_true rfl)) d_Mo_add_226 ⟨Nat.zero_le _, Nat.zero_le _⟩ (fun H locs Y => ?_)
        replace hf := gU hf ho47
        exact gy_iret hf hx hb hr hlocks hK Y (Nat.zero_le _) (Nat.zero_le _) d_Mo_add_229
      · replace hf := gp_f c84_49 hf
        refine lv_aload_n hx hb d_Mo_add_87 rfl (lv_at hl 1 rfl) ?_
        refine gy_get (ci := 8) (v := Value.ref (b 54)) (C := "CommitLedgerModel") (T := F_Mo) (N := 35) hx hb hts i_Mo hown hK Y gF_46 rfl 15 (by decide) kf_Mo_40 rfl d_Mo_add_88 ?_
        refine lv_dup hx hb d_Mo_add_91 rfl ?_
        refine gy_get (ci := 9) (v := Value.int (X47.I 54 8)) (C := "CommitLedgerModel$Version") (T := F_Ve) (N := 11) hx hb hts i_Ve hown hK Y gF_54 rfl 8 (by decide) kf_Mo_159 rfl d_Mo_add_92 ?_
        refine lv_iconst (v := 1) hx hb d_Mo_add_95 (by decide) ?_
        refine lv_iadd hx hb d_Mo_add_96 ?_
        refine gy_put hf (ci := 9) (ty := .int) (C := "CommitLedgerModel$Version") (T := F_Ve) (N := 11) hx hb hts i_Ve t_Ve_ok n_Ve hown hK Y gF_54 rfl (by decide) kf_Mo_159 rfl (by decide +kernel) rfl rfl (Nat.le_of_ble_eq_true rfl) gF_54 d_Mo_add_97 (fun X51 H locs hf Y => ?_)
        refine lv_aload_n hx hb d_Mo_add_100 rfl (lv_at hl 1 rfl) ?_
        refine gy_get (ci := 8) (v := Value.ref (b 47)) (C := "CommitLedgerModel") (T := F_Mo) (N := 35) hx hb hts i_Mo hown hK Y gF_46 rfl 2 (by decide) kf_Mo_9 rfl d_Mo_add_101 ?_
        refine lv_aload_n hx hb d_Mo_add_104 rfl (lv_at hl 1 rfl) ?_
        refine gy_get (ci := 8) (v := Value.int (X51.I 46 5)) (C := "CommitLedgerModel") (T := F_Mo) (N := 35) hx hb hts i_Mo hown hK Y gF_46 rfl 5 (by decide) kf_Mo_194 rfl d_Mo_add_105 ?_
        refine lv_iload_n hx hb d_Mo_add_108 rfl (lv_at hl 2 rfl) ?_
        refine lv_iload hx hb d_Mo_add_109 (lv_at hl 0 rfl) ?_
        refine lv_iadd hx hb d_Mo_add_111 ?_
        refine gy_iast hf hx hb hK Y 0 (fun _ => gF_47) ht0 d_Mo_add_112 (fun X52 H locs hf Y => ?_)
        refine lv_aload_n hx hb d_Mo_add_113 rfl (lv_at hl 1 rfl) ?_
        refine gy_get (ci := 8) (v := Value.ref (b 48)) (C := "CommitLedgerModel") (T := F_Mo) (N := 35) hx hb hts i_Mo hown hK Y gF_46 rfl 3 (by decide) kf_Mo_13 rfl d_Mo_add_114 ?_
        refine lv_aload_n hx hb d_Mo_add_117 rfl (lv_at hl 1 rfl) ?_
        refine gy_get (ci := 8) (v := Value.int (X52.I 46 5)) (C := "CommitLedgerModel") (T := F_Mo) (N := 35) hx hb hts i_Mo hown hK Y gF_46 rfl 5 (by decide) kf_Mo_194 rfl d_Mo_add_118 ?_
        refine lv_iload_n hx hb d_Mo_add_121 rfl (lv_at hl 3 rfl) ?_
        refine gy_iast hf hx hb hK Y 0 (fun _ => gF_48) ht0 d_Mo_add_122 (fun X53 H locs hf Y => ?_)
        refine lv_aload_n hx hb d_Mo_add_123 rfl (lv_at hl 1 rfl) ?_
        refine gy_get (ci := 8) (v := Value.ref (b 49)) (C := "CommitLedgerModel") (T := F_Mo) (N := 35) hx hb hts i_Mo hown hK Y gF_46 rfl 4 (by decide) kf_Mo_16 rfl d_Mo_add_124 ?_
        refine lv_aload_n hx hb d_Mo_add_127 rfl (lv_at hl 1 rfl) ?_
        refine gy_get (ci := 8) (v := Value.int (X53.I 46 5)) (C := "CommitLedgerModel") (T := F_Mo) (N := 35) hx hb hts i_Mo hown hK Y gF_46 rfl 5 (by decide) kf_Mo_194 rfl d_Mo_add_128 ?_
        refine lv_aload_n hx hb d_Mo_add_131 rfl (lv_at hl 1 rfl) ?_
        refine gy_get (ci := 8) (v := Value.ref (b 54)) (C := "CommitLedgerModel") (T := F_Mo) (N := 35) hx hb hts i_Mo hown hK Y gF_46 rfl 15 (by decide) kf_Mo_40 rfl d_Mo_add_132 ?_
        refine gy_get (ci := 9) (v := Value.int (X53.I 54 8)) (C := "CommitLedgerModel$Version") (T := F_Ve) (N := 11) hx hb hts i_Ve hown hK Y gF_54 rfl 8 (by decide) kf_Mo_159 rfl d_Mo_add_135 ?_
        refine gy_iast hf hx hb hK Y 0 (fun _ => gF_49) ht0 d_Mo_add_138 (fun X54 H locs hf Y => ?_)
        refine lv_aload_n hx hb d_Mo_add_139 rfl (lv_at hl 1 rfl) ?_
        refine gy_get (ci := 8) (v := Value.ref (b 78)) (C := "CommitLedgerModel") (T := F_Mo) (N := 35) hx hb hts i_Mo hown hK Y gF_46 rfl 21 (by decide) kf_Mo_50 rfl d_Mo_add_140 ?_
        refine lv_aload_n hx hb d_Mo_add_143 rfl (lv_at hl 1 rfl) ?_
        refine gy_get (ci := 8) (v := Value.int (X54.I 46 23)) (C := "CommitLedgerModel") (T := F_Mo) (N := 35) hx hb hts i_Mo hown hK Y gF_46 rfl 23 (by decide) kf_Mo_172 rfl d_Mo_add_144 ?_
        refine lv_aload_n hx hb d_Mo_add_147 rfl (lv_at hl 1 rfl) ?_
        refine gy_get (ci := 8) (v := Value.int (X54.I 46 5)) (C := "CommitLedgerModel") (T := F_Mo) (N := 35) hx hb hts i_Mo hown hK Y gF_46 rfl 5 (by decide) kf_Mo_194 rfl d_Mo_add_148 ?_
        refine gy_iast hf hx hb hK Y 0 (fun _ => gF_78) ht0 d_Mo_add_151 (fun X55 H locs hf Y => ?_)
        refine lv_aload_n hx hb d_Mo_add_152 rfl (lv_at hl 1 rfl) ?_
        refine gy_get (ci := 8) (v := Value.ref (b 79)) (C := "CommitLedgerModel") (T := F_Mo) (N := 35) hx hb hts i_Mo hown hK Y gF_46 rfl 22 (by decide) kf_Mo_53 rfl d_Mo_add_153 ?_
        refine lv_aload_n hx hb d_Mo_add_156 rfl (lv_at hl 1 rfl) ?_
        refine gy_get (ci := 8) (v := Value.int (X55.I 46 23)) (C := "CommitLedgerModel") (T := F_Mo) (N := 35) hx hb hts i_Mo hown hK Y gF_46 rfl 23 (by decide) kf_Mo_172 rfl d_Mo_add_157 ?_
        refine lv_iconst (v := 1) hx hb d_Mo_add_160 (by decide) ?_
        refine gy_zast hf hx hb hK Y 1 (fun _ => gF_79) ht1 d_Mo_add_161 (fun X56 H locs hf Y => ?_)
        refine lv_aload_n hx hb d_Mo_add_162 rfl (lv_at hl 1 rfl) ?_
        refine lv_dup hx hb d_Mo_add_163 rfl ?_
        refine gy_get (ci := 8) (v := Value.int (X56.I 46 23)) (C := "CommitLedgerModel") (T := F_Mo) (N := 35) hx hb hts i_Mo hown hK Y gF_46 rfl 23 (by decide) kf_Mo_172 rfl d_Mo_add_164 ?_
        refine lv_iconst (v := 1) hx hb d_Mo_add_167 (by decide) ?_
        refine lv_iadd hx hb d_Mo_add_168 ?_
        refine gy_put hf (ci := 8) (ty := .int) (C := "CommitLedgerModel") (T := F_Mo) (N := 35) hx hb hts i_Mo t_Mo_ok n_Mo hown hK Y gF_46 rfl (by decide) kf_Mo_172 rfl (by decide +kernel) rfl rfl (Nat.le_of_ble_eq_true rfl) gF_46 d_Mo_add_169 (fun X57 H locs hf Y => ?_)
        refine lv_aload_n hx hb d_Mo_add_172 rfl (lv_at hl 1 rfl) ?_
        refine lv_dup hx hb d_Mo_add_173 rfl ?_
        refine gy_get (ci := 8) (v := Value.int (X57.I 46 5)) (C := "CommitLedgerModel") (T := F_Mo) (N := 35) hx hb hts i_Mo hown hK Y gF_46 rfl 5 (by decide) kf_Mo_194 rfl d_Mo_add_174 ?_
        refine lv_iconst (v := 1) hx hb d_Mo_add_177 (by decide) ?_
        refine lv_iadd hx hb d_Mo_add_178 ?_
        refine gy_put hf (ci := 8) (ty := .int) (C := "CommitLedgerModel") (T := F_Mo) (N := 35) hx hb hts i_Mo t_Mo_ok n_Mo hown hK Y gF_46 rfl (by decide) kf_Mo_194 rfl (by decide +kernel) rfl rfl (Nat.le_of_ble_eq_true rfl) gF_46 d_Mo_add_179 (fun X58 H locs hf Y => ?_)
        refine lv_aload_n hx hb d_Mo_add_182 rfl (lv_at hl 1 rfl) ?_
        refine gy_get (ci := 8) (v := Value.int (X58.I 46 23)) (C := "CommitLedgerModel") (T := F_Mo) (N := 35) hx hb hts i_Mo hown hK Y gF_46 rfl 23 (by decide) kf_Mo_172 rfl d_Mo_add_183 ?_
        refine lv_aload_n hx hb d_Mo_add_186 rfl (lv_at hl 1 rfl) ?_
        refine gy_get (ci := 8) (v := Value.int (X58.I 46 24)) (C := "CommitLedgerModel") (T := F_Mo) (N := 35) hx hb hts i_Mo hown hK Y gF_46 rfl 24 (by decide) kf_Mo_56 rfl d_Mo_add_187 ?_
        refine lv_icmp_lt (tgt := 209) hx hb d_Mo_add_190 (by decide) (fun c190_59 => ?_) (fun c190_59 => ?_)
        · replace hf := gp_t c190_59 hf
          exact J209 (X58, i4_47) _ _ _ hf (lv_sub hl [0, 1, 2, 3, 4] rfl) Y
        · replace hf := gp_f c190_59 hf
          refine lv_aload_n hx hb d_Mo_add_193 rfl (lv_at hl 1 rfl) ?_
          obtain ⟨x60, X60, hF60, hf⟩ := gCi_el hf
          refine gy_callI (rm := { frames := 5, cells := 0, slots := 0, locals := 98 }) (ig := .invokevirtual 197) (av := [Value.ref (b 46)]) Y (fun ws h hS hw => K_Mo_flushing l htr D tys z _ ws h hS t ht b X58 hw (gR.i x60, X60) hF60) (gx_invV (As := []) (rest := []) hx hb hown hts km_Mo_197 kI_Mo_flushing kV_Mo_flushing kc_Mo_flushing (by decide) (show (parseMethodDescriptor y_Mo_flushing.desc).map (fun d => d.parameters.length) = some 0 by decide +kernel) (gy_recv (ci := 8) hK Y rfl gF_46) rfl rfl d_Mo_add_194) (gx_cw (z := 0) hts kc_Mo_flushing kN_Mo rfl rfl ⟨Nat.le_of_ble_eq_true rfl, Nat.le_of_ble_eq_true rfl⟩) hb hml hz hK hY hAz hA hl.1 (lv_room (Nat.le_of_ble_eq_true rfl)) d_Mo_add_194 ⟨Nat.zero_le _, Nat.zero_le _⟩ (fun H locs Y => ?_)
          refine lv_if_ne (tgt := 209) hx hb d_Mo_add_197 (by decide) (fun c197_61 => ?_) (fun c197_61 => ?_)
          · replace hf := gp_f c197_61 hf
            exact J209 (X60, i4_47) _ _ _ hf (lv_sub hl [0, 1, 2, 3, 4] rfl) Y
          · replace hf := gp_t c197_61 hf
            refine lv_aload_n hx hb d_Mo_add_200 rfl (lv_at hl 1 rfl) ?_
            refine lv_iconst (v := 0) hx hb d_Mo_add_201 (by decide) ?_
            refine lv_sipush (v := 1256) hx hb d_Mo_add_202 (by decide) ?_
            obtain ⟨x62, X62, hF62, hf⟩ := gCi_el hf
            refine gy_callI (rm := { frames := 4, cells := 0, slots := 0, locals := 83 }) (ig := .invokevirtual 175) (av := [Value.ref (b 46), Value.int 0, Value.int 1256]) Y (fun ws h hS hw => K_Mo_finished l htr D tys z _ ws h hS t ht b X60 hw 0 1256 (gR.i x62, X62) hF62) (gx_invV (As := [Value.int 0, Value.int 1256]) (rest := []) hx hb hown hts km_Mo_175 kI_Mo_finished kV_Mo_finished kc_Mo_finished (by decide) (show (parseMethodDescriptor y_Mo_finished.desc).map (fun d => d.parameters.length) = some 2 by decide +kernel) (gy_recv (ci := 8) hK Y rfl gF_46) rfl rfl d_Mo_add_205) (gx_cw (z := 0) hts kc_Mo_finished kN_Mo rfl rfl ⟨Nat.le_of_ble_eq_true rfl, Nat.le_of_ble_eq_true rfl⟩) hb hml hz hK hY hAz hA hl.1 (lv_room (Nat.le_of_ble_eq_true rfl)) d_Mo_add_205 ⟨Nat.zero_le _, Nat.zero_le _⟩ (fun H locs Y => ?_)
            replace hf := gU hf ho47
            exact gy_iret hf hx hb hr hlocks hK Y (Nat.zero_le _) (Nat.zero_le _) d_Mo_add_208
    · replace hf := gp_f c66_46 hf
      exact J69 X45 _ _ _ hf (lv_sub hl [0] rfl) Y
  refine gy_cut (pcJ := 37) Y (fun s : gX × Int32 => f_Mo_add_37 s.1 a1 a2 a3 s.2) o (fun s => s.1) (fun s ls => lv_has ls 5 [(0, Value.ref (b 46)), (1, Value.int a1), (2, Value.int a2), (3, Value.int a3)]) (fun s => [Value.int s.2, Value.ref (b 46)]) ?_ (fun J37 => ?_)
  · rintro ⟨X63, i1000_63⟩ H locs ls hf hl Y
    have hl : lv_has ls 5 [(0, Value.ref (b 46)), (1, Value.int a1), (2, Value.int a2), (3, Value.int a3)] := hl
    have Y : gy D t b A s.heap X0 X63 H locs := Y
    have hf : f_Mo_add_37 X63 a1 a2 a3 i1000_63 = some o := hf
    unfold f_Mo_add_37 at hf
    refine W.eq (g2 := F0 m 37 ls [Value.int i1000_63, Value.ref (b 46)]) rfl ?_
    refine lv_iconst (v := 2) hx hb d_Mo_add_37 (by decide) ?_
    obtain ⟨x64, X64, hF64, hf⟩ := gCi_el hf
    refine gy_callI (rm := { frames := 1, cells := 0, slots := 0, locals := 12 }) (ig := .invokevirtual 152) (av := [Value.ref (b 46), Value.int i1000_63, Value.int 2]) Y (fun ws h hS hw => K_Mo_wrong l htr D tys z _ ws h hS t ht b X63 hw i1000_63 2 (gR.i x64, X64) hF64) (gx_invV (As := [Value.int i1000_63, Value.int 2]) (rest := []) hx hb hown hts km_Mo_152 kI_Mo_wrong kV_Mo_wrong kc_Mo_wrong (by decide) (show (parseMethodDescriptor y_Mo_wrong.desc).map (fun d => d.parameters.length) = some 2 by decide +kernel) (gy_recv (ci := 8) hK Y rfl gF_46) rfl rfl d_Mo_add_38) (gx_cw (z := 0) hts kc_Mo_wrong kN_Mo rfl rfl ⟨Nat.le_of_ble_eq_true rfl, Nat.le_of_ble_eq_true rfl⟩) hb hml hz hK hY hAz hA hl.1 (lv_room (Nat.le_of_ble_eq_true rfl)) d_Mo_add_38 ⟨Nat.zero_le _, Nat.zero_le _⟩ (fun H locs Y => ?_)
    refine lv_if_ne (tgt := 69) hx hb d_Mo_add_41 (by decide) (fun c41_65 => ?_) (fun c41_65 => ?_)
    · replace hf := gp_f c41_65 hf
      exact J69 X64 _ _ _ hf (lv_sub hl [0] rfl) Y
    · replace hf := gp_t c41_65 hf
      refine lv_aload_n hx hb d_Mo_add_44 rfl (lv_at hl 0 rfl) ?_
      refine lv_aload_n hx hb d_Mo_add_45 rfl (lv_at hl 0 rfl) ?_
      refine gy_get (ci := 8) (v := Value.int (X64.I 46 5)) (C := "CommitLedgerModel") (T := F_Mo) (N := 35) hx hb hts i_Mo hown hK Y gF_46 rfl 5 (by decide) kf_Mo_194 rfl d_Mo_add_46 ?_
      refine lv_iload_n hx hb d_Mo_add_49 rfl (lv_at hl 3 rfl) ?_
      refine lv_iadd hx hb d_Mo_add_50 ?_
      refine lv_sipush (v := 4096) hx hb d_Mo_add_51 (by decide) ?_
      refine lv_icmp_le (tgt := 61) hx hb d_Mo_add_54 (by decide) (fun c54_66 => ?_) (fun c54_66 => ?_)
      · replace hf := gp_t c54_66 hf
        refine lv_iconst (v := 0) hx hb d_Mo_add_61 (by decide) ?_
        exact J62 (X64, 0) _ _ _ hf (lv_sub hl [0, 1, 2, 3] rfl) Y
      · replace hf := gp_f c54_66 hf
        refine lv_iconst (v := 1) hx hb d_Mo_add_57 (by decide) ?_
        refine lv_goto (tgt := 62) hx hb d_Mo_add_58 (by decide) ?_
        exact J62 (X64, 1) _ _ _ hf (lv_sub hl [0, 1, 2, 3] rfl) Y
  refine gy_cut (pcJ := 17) Y (fun s : gX × Int32 => f_Mo_add_17 s.1 a1 a2 a3 s.2) o (fun s => s.1) (fun s ls => lv_has ls 5 [(0, Value.ref (b 46)), (1, Value.int a1), (2, Value.int a2), (3, Value.int a3)]) (fun s => [Value.int s.2, Value.ref (b 46)]) ?_ (fun J17 => ?_)
  · rintro ⟨X67, i1000_67⟩ H locs ls hf hl Y
    have hl : lv_has ls 5 [(0, Value.ref (b 46)), (1, Value.int a1), (2, Value.int a2), (3, Value.int a3)] := hl
    have Y : gy D t b A s.heap X0 X67 H locs := Y
    have hf : f_Mo_add_17 X67 a1 a2 a3 i1000_67 = some o := hf
    unfold f_Mo_add_17 at hf
    refine W.eq (g2 := F0 m 17 ls [Value.int i1000_67, Value.ref (b 46)]) rfl ?_
    refine lv_iconst (v := 1) hx hb d_Mo_add_17 (by decide) ?_
    obtain ⟨x68, X68, hF68, hf⟩ := gCi_el hf
    refine gy_callI (rm := { frames := 1, cells := 0, slots := 0, locals := 12 }) (ig := .invokevirtual 152) (av := [Value.ref (b 46), Value.int i1000_67, Value.int 1]) Y (fun ws h hS hw => K_Mo_wrong l htr D tys z _ ws h hS t ht b X67 hw i1000_67 1 (gR.i x68, X68) hF68) (gx_invV (As := [Value.int i1000_67, Value.int 1]) (rest := []) hx hb hown hts km_Mo_152 kI_Mo_wrong kV_Mo_wrong kc_Mo_wrong (by decide) (show (parseMethodDescriptor y_Mo_wrong.desc).map (fun d => d.parameters.length) = some 2 by decide +kernel) (gy_recv (ci := 8) hK Y rfl gF_46) rfl rfl d_Mo_add_18) (gx_cw (z := 0) hts kc_Mo_wrong kN_Mo rfl rfl ⟨Nat.le_of_ble_eq_true rfl, Nat.le_of_ble_eq_true rfl⟩) hb hml hz hK hY hAz hA hl.1 (lv_room (Nat.le_of_ble_eq_true rfl)) d_Mo_add_18 ⟨Nat.zero_le _, Nat.zero_le _⟩ (fun H locs Y => ?_)
    refine lv_if_ne (tgt := 69) hx hb d_Mo_add_21 (by decide) (fun c21_69 => ?_) (fun c21_69 => ?_)
    · replace hf := gp_f c21_69 hf
      exact J69 X68 _ _ _ hf (lv_sub hl [0] rfl) Y
    · replace hf := gp_t c21_69 hf
      refine lv_aload_n hx hb d_Mo_add_24 rfl (lv_at hl 0 rfl) ?_
      refine lv_aload_n hx hb d_Mo_add_25 rfl (lv_at hl 0 rfl) ?_
      refine gy_get (ci := 8) (v := Value.int (X68.I 46 18)) (C := "CommitLedgerModel") (T := F_Mo) (N := 35) hx hb hts i_Mo hown hK Y gF_46 rfl 18 (by decide) kf_Mo_99 rfl d_Mo_add_26 ?_
      refine lv_if_ne (tgt := 36) hx hb d_Mo_add_29 (by decide) (fun c29_70 => ?_) (fun c29_70 => ?_)
      · replace hf := gp_f c29_70 hf
        refine lv_iconst (v := 0) hx hb d_Mo_add_36 (by decide) ?_
        exact J37 (X68, 0) _ _ _ hf (lv_sub hl [0, 1, 2, 3] rfl) Y
      · replace hf := gp_t c29_70 hf
        refine lv_iconst (v := 1) hx hb d_Mo_add_32 (by decide) ?_
        refine lv_goto (tgt := 37) hx hb d_Mo_add_33 (by decide) ?_
        exact J37 (X68, 1) _ _ _ hf (lv_sub hl [0, 1, 2, 3] rfl) Y
  refine gy_cut (pcJ := 12) Y (fun s : gX => f_Mo_add_12 s a1 a2 a3) o (fun s => s) (fun s ls => lv_has ls 5 [(0, Value.ref (b 46)), (1, Value.int a1), (2, Value.int a2), (3, Value.int a3)]) (fun s => [Value.ref (b 46)]) ?_ (fun J12 => ?_)
  · rintro X71 H locs ls hf hl Y
    have hl : lv_has ls 5 [(0, Value.ref (b 46)), (1, Value.int a1), (2, Value.int a2), (3, Value.int a3)] := hl
    have Y : gy D t b A s.heap X0 X71 H locs := Y
    have hf : f_Mo_add_12 X71 a1 a2 a3 = some o := hf
    unfold f_Mo_add_12 at hf
    refine W.eq (g2 := F0 m 12 ls [Value.ref (b 46)]) rfl ?_
    refine lv_iconst (v := 1) hx hb d_Mo_add_12 (by decide) ?_
    refine lv_goto (tgt := 17) hx hb d_Mo_add_13 (by decide) ?_
    exact J17 (X71, 1) _ _ _ hf (lv_sub hl [0, 1, 2, 3] rfl) Y
  unfold f_Mo_add at hf
  refine lv_aload_n hx hb d_Mo_add_0 rfl (lv_at hl 0 rfl) ?_
  refine lv_iload_n hx hb d_Mo_add_1 rfl (lv_at hl 3 rfl) ?_
  refine lv_iconst (v := 1) hx hb d_Mo_add_2 (by decide) ?_
  refine lv_icmp_lt (tgt := 12) hx hb d_Mo_add_3 (by decide) (fun c3_72 => ?_) (fun c3_72 => ?_)
  · replace hf := gp_t c3_72 hf
    exact J12 X0 _ _ _ hf (lv_sub hl [0, 1, 2, 3] rfl) Y
  · replace hf := gp_f c3_72 hf
    refine lv_iload_n hx hb d_Mo_add_6 rfl (lv_at hl 3 rfl) ?_
    refine lv_bipush (v := 100) hx hb d_Mo_add_7 (by decide) ?_
    refine lv_icmp_le (tgt := 16) hx hb d_Mo_add_9 (by decide) (fun c9_73 => ?_) (fun c9_73 => ?_)
    · replace hf := gp_t c9_73 hf
      refine lv_iconst (v := 0) hx hb d_Mo_add_16 (by decide) ?_
      exact J17 (X0, 0) _ _ _ hf (lv_sub hl [0, 1, 2, 3] rfl) Y
    · replace hf := gp_f c9_73 hf
      exact J12 X0 _ _ _ hf (lv_sub hl [0, 1, 2, 3] rfl) Y

def f_Mo_erase_141 (X : gX) (i1 : Int32) (i2 : Int32) (i3 : Int32) : Option ((gX × Int32 × Int32) ⊕ (gR × gX)) := some (Sum.inl (X, i2, i3 + 1))
def f_Mo_erase_96 (X : gX) (i1 : Int32) (i2 : Int32) (i3 : Int32) : Option ((gX × Int32 × Int32) ⊕ (gR × gX)) := (if (X.I 46 23) ≤ i3 then gCv (f_Ve_tidy X 54) (fun X9 => gCi (f_Mo_finished X9 i2 2) (fun x10 X10 => gLf (some (gR.i x10, X10)))) else (if gIn i3 4096 then (if (X.I 79 (gn i3)) = (0 : Int32) then f_Mo_erase_141 X i1 i2 i3 else (if gIn i3 4096 then (if gIn (X.I 78 (gn i3)) 4096 then (if (X.I 47 (gn (X.I 78 (gn i3)))) = i1 then (if gIn i3 4096 then gB (X.w 79 (gn i3) (vp_nar .boolean 0)) (fun X13 => f_Mo_erase_141 X13 i1 (i2 + 1) i3) else none) else f_Mo_erase_141 X i1 i2 i3) else none) else none)) else none))
def f_Mo_erase_88 (X : gX) (i1 : Int32) (i2 : Int32) (i3 : Int32) : Option ((gX × Int32 × Int32) ⊕ (gR × gX)) := some (Sum.inl (X, i2, i3 + 1))
def f_Mo_erase_31 (X : gX) (i1 : Int32) (i2 : Int32) (i3 : Int32) : Option ((gX × Int32 × Int32) ⊕ (gR × gX)) := gCi (f_Ve_docs X 54) (fun x5 X5 => (if x5 ≤ i3 then gLf (gI (fun s : gX × Int32 × Int32 => f_Mo_erase_96 s.1 i1 s.2.1 s.2.2) gK (X5, i2, 0)) else (if gIn i3 4096 then (if (X5.I 60 (gn i3)) = (0 : Int32) then f_Mo_erase_88 X5 i1 i2 i3 else (if gIn i3 4096 then (if gIn (X5.I 59 (gn i3)) 4096 then (if (X5.I 47 (gn (X5.I 59 (gn i3)))) = i1 then (if gIn i3 4096 then gB (X5.w 60 (gn i3) (vp_nar .boolean 0)) (fun X23 => f_Mo_erase_88 X23 i1 (i2 + 1) i3) else none) else f_Mo_erase_88 X5 i1 i2 i3) else none) else none)) else none)))
def f_Mo_erase_13 (X : gX) (i1 : Int32) (i1000 : Int32) : Option (gR × gX) := gCi (f_Mo_wrong X i1000 2) (fun x2 X2 => (if x2 = (0 : Int32) then gI (fun s : gX × Int32 × Int32 => f_Mo_erase_31 s.1 i1 s.2.1 s.2.2) gK (X2, 0, 0) else gCi (f_Mo_done X2 0 2) (fun x38 X38 => some (gR.i x38, X38))))
def f_Mo_erase (X0 : gX) (a1 : Int32) : Option (gR × gX) := (if (X0.I 46 18) = (0 : Int32) then f_Mo_erase_13 X0 a1 1 else f_Mo_erase_13 X0 a1 0)
set_option maxHeartbeats 4000000 in
set_option maxRecDepth 100000 in
theorem K_Mo_erase (l : Launch) (htr : l.stackTraces = false) (D : va_G) (tys : List (ClassId × FieldType)) (z sz : Nat) (ws : va_W) (h : gm_M) (hM : gm_S h ws) (t : Nat → ClassId) (ht : gTy t tys) (b : Nat → Nat) (X0 : gX) (hw : gw D t b X0 h) (a1 : Int32) (o : gR × gX) (hf : f_Mo_erase X0 a1 = some o) : gx_Met l y_Mo_erase [Cond.code y_Mo_erase b_Mo_erase 4 (some .int)] { frames := 5, cells := 0, slots := 0, locals := 105 } (gx_P z sz D classes tys ws [Value.ref (b 46), Value.int a1]) (gx_Q D classes tys (va_A ws sz) (gPo D t b X0 o)) (0) (0) (va_A ws sz) := by
  refine gx_ofW (cc := b_Mo_erase) (maxL := 4) (ret := (some .int)) (by decide) rfl ?_
  intro p e s m args below meth c s₁ B hml hv
  obtain ⟨rfl, hsz, hz, hP, hK, hD0, hY⟩ := hv
  have hx := B.exec
  have hb := B.bytes
  have hr := B.returns
  have hts := hY.hts (#[Value.ref (b 46), Value.int a1] : Array Value)
  have hown : s.vm.findClass "CommitLedgerModel" = some m.cls := findClass_of_methodNamed B.named
  have hlocks := B.notSynchronized
  subst hsz
  have hAz := gx_az hD0 hz
  have hD := hD0.self (sz := s.heap.size)
  have hA : ∀ q : Nat, s.heap.size ≤ q → va_A ws s.heap.size q := fun q h => Or.inr h
  generalize va_A ws s.heap.size = A at hD hA hAz ⊢
  have Y : gy D t b A s.heap X0 X0 s.heap [] := ⟨h, ⟨ws, hM, hP, hD, va_S.rf⟩, hw, gEq.rf⟩
  clear hP hD hM hD0 hw
  obtain ⟨ht0, ht1, ht2, ht3, ht4, ht5, ht6, ht7, ht8⟩ := id ht
  have hl := lv_entry ([Value.ref (b 46), Value.int a1]) (n := 4) (Nat.le_of_ble_eq_true rfl)
  rw [lg_entry_eq]
  generalize (lg_sl ([Value.ref (b 46), Value.int a1]) ++ List.replicate (4 - (lg_sl ([Value.ref (b 46), Value.int a1])).length) Slot.unset).toArray = ls at hl ⊢
  have hl : lv_has ls 4 [(0, Value.ref (b 46)), (1, Value.int a1)] := hl
  refine gy_cut (pcJ := 13) Y (fun s : gX × Int32 => f_Mo_erase_13 s.1 a1 s.2) o (fun s => s.1) (fun s ls => lv_has ls 4 [(0, Value.ref (b 46)), (1, Value.int a1)]) (fun s => [Value.int s.2, Value.ref (b 46)]) ?_ (fun J13 => ?_)
  · rintro ⟨X39, i1000_39⟩ H locs ls hf hl Y
    have hl : lv_has ls 4 [(0, Value.ref (b 46)), (1, Value.int a1)] := hl
    have Y : gy D t b A s.heap X0 X39 H locs := Y
    have hf : f_Mo_erase_13 X39 a1 i1000_39 = some o := hf
    unfold f_Mo_erase_13 at hf
    refine W.eq (g2 := F0 m 13 ls [Value.int i1000_39, Value.ref (b 46)]) rfl ?_
    refine lv_iconst (v := 2) hx hb d_Mo_erase_13 (by decide) ?_
    obtain ⟨x40, X40, hF40, hf⟩ := gCi_el hf
    refine gy_callI (rm := { frames := 1, cells := 0, slots := 0, locals := 12 }) (ig := .invokevirtual 152) (av := [Value.ref (b 46), Value.int i1000_39, Value.int 2]) Y (fun ws h hS hw => K_Mo_wrong l htr D tys z _ ws h hS t ht b X39 hw i1000_39 2 (gR.i x40, X40) hF40) (gx_invV (As := [Value.int i1000_39, Value.int 2]) (rest := []) hx hb hown hts km_Mo_152 kI_Mo_wrong kV_Mo_wrong kc_Mo_wrong (by decide) (show (parseMethodDescriptor y_Mo_wrong.desc).map (fun d => d.parameters.length) = some 2 by decide +kernel) (gy_recv (ci := 8) hK Y rfl gF_46) rfl rfl d_Mo_erase_14) (gx_cw (z := 0) hts kc_Mo_wrong kN_Mo rfl rfl ⟨Nat.le_of_ble_eq_true rfl, Nat.le_of_ble_eq_true rfl⟩) hb hml hz hK hY hAz hA hl.1 (lv_room (Nat.le_of_ble_eq_true rfl)) d_Mo_erase_14 ⟨Nat.zero_le _, Nat.zero_le _⟩ (fun H locs Y => ?_)
    refine lv_if_eq (tgt := 27) hx hb d_Mo_erase_17 (by decide) (fun c17_41 => ?_) (fun c17_41 => ?_)
    · replace hf := gp_t c17_41 hf
      refine lv_iconst (v := 0) hx hb d_Mo_erase_27 (by decide) ?_
      refine lv_istore_n (lv' := [(2, Value.int 0), (0, Value.ref (b 46)), (1, Value.int a1)]) hx hb d_Mo_erase_28 rfl hl (by decide) rfl (fun ls hl => ?_)
      refine lv_iconst (v := 0) hx hb d_Mo_erase_29 (by decide) ?_
      refine lv_istore_n (lv' := [(3, Value.int 0), (2, Value.int 0), (0, Value.ref (b 46)), (1, Value.int a1)]) hx hb d_Mo_erase_30 rfl hl (by decide) rfl (fun ls hl => ?_)
      refine gy_iter (fun s : gX × Int32 × Int32 => s.1) (fun (s : gX × Int32 × Int32) ls => lv_has ls 4 [(2, Value.int s.2.1), (3, Value.int s.2.2), (0, Value.ref (b 46)), (1, Value.int a1)]) ?_ gK (X40, 0, 0) _ _ _ hf (lv_sub hl [1, 0, 2, 3] rfl) Y
      rintro ⟨X42, i2_42, i3_42⟩ u42 H locs ls hf hl Y hk42 ho42
      have hl : lv_has ls 4 [(2, Value.int i2_42), (3, Value.int i3_42), (0, Value.ref (b 46)), (1, Value.int a1)] := hl
      have Y : gy D t b A s.heap X0 X42 H locs := Y
      have hf : f_Mo_erase_31 X42 a1 i2_42 i3_42 = some u42 := hf
      refine gy_cut (pcJ := 88) Y (fun s : gX × Int32 × Int32 => f_Mo_erase_88 s.1 a1 s.2.1 s.2.2) u42 (fun s => s.1) (fun s ls => lv_has ls 4 [(2, Value.int s.2.1), (3, Value.int s.2.2), (0, Value.ref (b 46)), (1, Value.int a1)]) (fun s => []) ?_ (fun J88 => ?_)
      · rintro ⟨X43, i2_43, i3_43⟩ H locs ls hf hl Y
        have hl : lv_has ls 4 [(2, Value.int i2_43), (3, Value.int i3_43), (0, Value.ref (b 46)), (1, Value.int a1)] := hl
        have Y : gy D t b A s.heap X0 X43 H locs := Y
        have hf : f_Mo_erase_88 X43 a1 i2_43 i3_43 = some u42 := hf
        unfold f_Mo_erase_88 at hf
        refine lv_iinc (v := i3_43 + 1) (lv' := [(3, Value.int (i3_43 + 1)), (2, Value.int i2_43), (0, Value.ref (b 46)), (1, Value.int a1)]) hx hb d_Mo_erase_88 hl (k := 1) rfl (rfl) (by decide) rfl (fun ls hl => ?_)
        refine lv_goto (tgt := 31) hx hb d_Mo_erase_91 (by decide) ?_
        exact hk42 _ _ _ _ hf (lv_sub hl [1, 0, 2, 3] rfl) Y
      unfold f_Mo_erase_31 at hf
      refine lv_iload_n hx hb d_Mo_erase_31 rfl (lv_at hl 1 rfl) ?_
      refine lv_aload_n hx hb d_Mo_erase_32 rfl (lv_at hl 2 rfl) ?_
      refine gy_get (ci := 8) (v := Value.ref (b 54)) (C := "CommitLedgerModel") (T := F_Mo) (N := 35) hx hb hts i_Mo hown hK Y gF_46 rfl 15 (by decide) kf_Mo_40 rfl d_Mo_erase_33 ?_
      obtain ⟨x44, X44, hF44, hf⟩ := gCi_el hf
      refine gy_callI (rm := { frames := 1, cells := 0, slots := 0, locals := 12 }) (ig := .invokevirtual 200) (av := [Value.ref (b 54)]) Y (fun ws h hS hw => K_Ve_docs l htr D tys z _ ws h hS t ht b X42 hw 54 (by decide) (gR.i x44, X44) hF44) (gx_invV (As := []) (rest := [Value.int i3_42]) hx hb hown hts km_Mo_200 kI_Ve_docs kV_Ve_docs kc_Ve_docs (by decide) (show (parseMethodDescriptor y_Ve_docs.desc).map (fun d => d.parameters.length) = some 0 by decide +kernel) (gy_recv (ci := 9) hK Y rfl gF_54) rfl rfl d_Mo_erase_36) (gx_cw (z := 0) hts kc_Ve_docs kN_Ve rfl rfl ⟨Nat.le_of_ble_eq_true rfl, Nat.le_of_ble_eq_true rfl⟩) hb hml hz hK hY hAz hA hl.1 (lv_room (Nat.le_of_ble_eq_true rfl)) d_Mo_erase_36 ⟨Nat.zero_le _, Nat.zero_le _⟩ (fun H locs Y => ?_)
      refine lv_icmp_ge (tgt := 94) hx hb d_Mo_erase_39 (by decide) (fun c39_45 => ?_) (fun c39_45 => ?_)
      · replace hf := gp_t c39_45 hf
        refine lv_iconst (v := 0) hx hb d_Mo_erase_94 (by decide) ?_
        refine lv_istore_n (lv' := [(3, Value.int 0), (2, Value.int i2_42), (0, Value.ref (b 46)), (1, Value.int a1)]) hx hb d_Mo_erase_95 rfl hl (by decide) rfl (fun ls hl => ?_)
        replace hf := gU hf ho42
        refine gy_iter (fun s : gX × Int32 × Int32 => s.1) (fun (s : gX × Int32 × Int32) ls => lv_has ls 4 [(2, Value.int s.2.1), (3, Value.int s.2.2), (0, Value.ref (b 46)), (1, Value.int a1)]) ?_ gK (X44, i2_42, 0) _ _ _ hf (lv_sub hl [1, 0, 2, 3] rfl) Y
        rintro ⟨X46, i2_46, i3_46⟩ u46 H locs ls hf hl Y hk46 ho46
        have hl : lv_has ls 4 [(2, Value.int i2_46), (3, Value.int i3_46), (0, Value.ref (b 46)), (1, Value.int a1)] := hl
        have Y : gy D t b A s.heap X0 X46 H locs := Y
        have hf : f_Mo_erase_96 X46 a1 i2_46 i3_46 = some u46 := hf
        refine gy_cut (pcJ := 141) Y (fun s : gX × Int32 × Int32 => f_Mo_erase_141 s.1 a1 s.2.1 s.2.2) u46 (fun s => s.1) (fun s ls => lv_has ls 4 [(2, Value.int s.2.1), (3, Value.int s.2.2), (0, Value.ref (b 46)), (1, Value.int a1)]) (fun s => []) ?_ (fun J141 => ?_)
        · rintro ⟨X47, i2_47, i3_47⟩ H locs ls hf hl Y
          have hl : lv_has ls 4 [(2, Value.int i2_47), (3, Value.int i3_47), (0, Value.ref (b 46)), (1, Value.int a1)] := hl
          have Y : gy D t b A s.heap X0 X47 H locs := Y
          have hf : f_Mo_erase_141 X47 a1 i2_47 i3_47 = some u46 := hf
          unfold f_Mo_erase_141 at hf
          refine lv_iinc (v := i3_47 + 1) (lv' := [(3, Value.int (i3_47 + 1)), (2, Value.int i2_47), (0, Value.ref (b 46)), (1, Value.int a1)]) hx hb d_Mo_erase_141 hl (k := 1) rfl (rfl) (by decide) rfl (fun ls hl => ?_)
          refine lv_goto (tgt := 96) hx hb d_Mo_erase_144 (by decide) ?_
          exact hk46 _ _ _ _ hf (lv_sub hl [1, 0, 2, 3] rfl) Y
        unfold f_Mo_erase_96 at hf
        refine lv_iload_n hx hb d_Mo_erase_96 rfl (lv_at hl 1 rfl) ?_
        refine lv_aload_n hx hb d_Mo_erase_97 rfl (lv_at hl 2 rfl) ?_
        refine gy_get (ci := 8) (v := Value.int (X46.I 46 23)) (C := "CommitLedgerModel") (T := F_Mo) (N := 35) hx hb hts i_Mo hown hK Y gF_46 rfl 23 (by decide) kf_Mo_172 rfl d_Mo_erase_98 ?_
        refine lv_icmp_ge (tgt := 147) hx hb d_Mo_erase_101 (by decide) (fun c101_48 => ?_) (fun c101_48 => ?_)
        · replace hf := gp_t c101_48 hf
          refine lv_aload_n hx hb d_Mo_erase_147 rfl (lv_at hl 2 rfl) ?_
          refine gy_get (ci := 8) (v := Value.ref (b 54)) (C := "CommitLedgerModel") (T := F_Mo) (N := 35) hx hb hts i_Mo hown hK Y gF_46 rfl 15 (by decide) kf_Mo_40 rfl d_Mo_erase_148 ?_
          obtain ⟨X49, hF49, hf⟩ := gCv_el hf
          refine gy_callV (rm := { frames := 3, cells := 0, slots := 0, locals := 55 }) (ig := .invokevirtual 169) (av := [Value.ref (b 54)]) Y (fun ws h hS hw => K_Ve_tidy l htr D tys z _ ws h hS t ht b X46 hw 54 (by decide) (gR.v, X49) hF49) (gx_invV (As := []) (rest := []) hx hb hown hts km_Mo_169 kI_Ve_tidy kV_Ve_tidy kc_Ve_tidy (by decide) (show (parseMethodDescriptor y_Ve_tidy.desc).map (fun d => d.parameters.length) = some 0 by decide +kernel) (gy_recv (ci := 9) hK Y rfl gF_54) rfl rfl d_Mo_erase_151) (gx_cw (z := 0) hts kc_Ve_tidy kN_Ve rfl rfl ⟨Nat.le_of_ble_eq_true rfl, Nat.le_of_ble_eq_true rfl⟩) hb hml hz hK hY hAz hA hl.1 (lv_room (Nat.le_of_ble_eq_true rfl)) d_Mo_erase_151 ⟨Nat.zero_le _, Nat.zero_le _⟩ (fun H locs Y => ?_)
          refine lv_aload_n hx hb d_Mo_erase_154 rfl (lv_at hl 2 rfl) ?_
          refine lv_iload_n hx hb d_Mo_erase_155 rfl (lv_at hl 0 rfl) ?_
          refine lv_iconst (v := 2) hx hb d_Mo_erase_156 (by decide) ?_
          obtain ⟨x50, X50, hF50, hf⟩ := gCi_el hf
          refine gy_callI (rm := { frames := 4, cells := 0, slots := 0, locals := 83 }) (ig := .invokevirtual 175) (av := [Value.ref (b 46), Value.int i2_46, Value.int 2]) Y (fun ws h hS hw => K_Mo_finished l htr D tys z _ ws h hS t ht b X49 hw i2_46 2 (gR.i x50, X50) hF50) (gx_invV (As := [Value.int i2_46, Value.int 2]) (rest := []) hx hb hown hts km_Mo_175 kI_Mo_finished kV_Mo_finished kc_Mo_finished (by decide) (show (parseMethodDescriptor y_Mo_finished.desc).map (fun d => d.parameters.length) = some 2 by decide +kernel) (gy_recv (ci := 8) hK Y rfl gF_46) rfl rfl d_Mo_erase_157) (gx_cw (z := 0) hts kc_Mo_finished kN_Mo rfl rfl ⟨Nat.le_of_ble_eq_true rfl, Nat.le_of_ble_eq_true rfl⟩) hb hml hz hK hY hAz hA hl.1 (lv_room (Nat.le_of_ble_eq_true rfl)) d_Mo_erase_157 ⟨Nat.zero_le _, Nat.zero_le _⟩ (fun H locs Y => ?_)
          replace hf := gU hf ho46
          exact gy_iret hf hx hb hr hlocks hK Y (Nat.zero_le _) (Nat.zero_le _) d_Mo_erase_160
        · replace hf := gp_f c101_48 hf
          refine lv_aload_n hx hb d_Mo_erase_104 rfl (lv_at hl 2 rfl) ?_
          refine gy_get (ci := 8) (v := Value.ref (b 79)) (C := "CommitLedgerModel") (T := F_Mo) (N := 35) hx hb hts i_Mo hown hK Y gF_46 rfl 22 (by decide) kf_Mo_53 rfl d_Mo_erase_105 ?_
          refine lv_iload_n hx hb d_Mo_erase_108 rfl (lv_at hl 1 rfl) ?_
          refine gy_zald hf hx hb hK Y 1 (fun _ => gF_79) ht1 d_Mo_erase_109 (fun _ hf => ?_)
          refine lv_if_eq (tgt := 141) hx hb d_Mo_erase_110 (by decide) (fun c110_51 => ?_) (fun c110_51 => ?_)
          · replace hf := gp_t c110_51 hf
            exact J141 (X46, i2_46, i3_46) _ _ _ hf (lv_sub hl [0, 1, 2, 3] rfl) Y
          · replace hf := gp_f c110_51 hf
            refine lv_aload_n hx hb d_Mo_erase_113 rfl (lv_at hl 2 rfl) ?_
            refine gy_get (ci := 8) (v := Value.ref (b 47)) (C := "CommitLedgerModel") (T := F_Mo) (N := 35) hx hb hts i_Mo hown hK Y gF_46 rfl 2 (by decide) kf_Mo_9 rfl d_Mo_erase_114 ?_
            refine lv_aload_n hx hb d_Mo_erase_117 rfl (lv_at hl 2 rfl) ?_
            refine gy_get (ci := 8) (v := Value.ref (b 78)) (C := "CommitLedgerModel") (T := F_Mo) (N := 35) hx hb hts i_Mo hown hK Y gF_46 rfl 21 (by decide) kf_Mo_50 rfl d_Mo_erase_118 ?_
            refine lv_iload_n hx hb d_Mo_erase_121 rfl (lv_at hl 1 rfl) ?_
            refine gy_iald hf hx hb hK Y 0 (fun _ => gF_78) ht0 d_Mo_erase_122 (fun _ hf => ?_)
            refine gy_iald hf hx hb hK Y 0 (fun _ => gF_47) ht0 d_Mo_erase_123 (fun _ hf => ?_)
            refine lv_iload_n hx hb d_Mo_erase_124 rfl (lv_at hl 3 rfl) ?_
            refine lv_icmp_eq (tgt := 131) hx hb d_Mo_erase_125 (by decide) (fun c125_52 => ?_) (fun c125_52 => ?_)
            · replace hf := gp_t c125_52 hf
              refine lv_aload_n hx hb d_Mo_erase_131 rfl (lv_at hl 2 rfl) ?_
              refine gy_get (ci := 8) (v := Value.ref (b 79)) (C := "CommitLedgerModel") (T := F_Mo) (N := 35) hx hb hts i_Mo hown hK Y gF_46 rfl 22 (by decide) kf_Mo_53 rfl d_Mo_erase_132 ?_
              refine lv_iload_n hx hb d_Mo_erase_135 rfl (lv_at hl 1 rfl) ?_
              refine lv_iconst (v := 0) hx hb d_Mo_erase_136 (by decide) ?_
              refine gy_zast hf hx hb hK Y 1 (fun _ => gF_79) ht1 d_Mo_erase_137 (fun X53 H locs hf Y => ?_)
              refine lv_iinc (v := i2_46 + 1) (lv' := [(2, Value.int (i2_46 + 1)), (3, Value.int i3_46), (0, Value.ref (b 46)), (1, Value.int a1)]) hx hb d_Mo_erase_138 hl (k := 0) rfl (rfl) (by decide) rfl (fun ls hl => ?_)
              exact J141 (X53, i2_46 + 1, i3_46) _ _ _ hf (lv_sub hl [0, 1, 2, 3] rfl) Y
            · replace hf := gp_f c125_52 hf
              refine lv_goto (tgt := 141) hx hb d_Mo_erase_128 (by decide) ?_
              exact J141 (X46, i2_46, i3_46) _ _ _ hf (lv_sub hl [0, 1, 2, 3] rfl) Y
      · replace hf := gp_f c39_45 hf
        refine lv_aload_n hx hb d_Mo_erase_42 rfl (lv_at hl 2 rfl) ?_
        refine gy_get (ci := 8) (v := Value.ref (b 54)) (C := "CommitLedgerModel") (T := F_Mo) (N := 35) hx hb hts i_Mo hown hK Y gF_46 rfl 15 (by decide) kf_Mo_40 rfl d_Mo_erase_43 ?_
        refine gy_get (ci := 9) (v := Value.ref (b 60)) (C := "CommitLedgerModel$Version") (T := F_Ve) (N := 11) hx hb hts i_Ve hown hK Y gF_54 rfl 5 (by decide) kf_Mo_188 rfl d_Mo_erase_46 ?_
        refine lv_iload_n hx hb d_Mo_erase_49 rfl (lv_at hl 1 rfl) ?_
        refine gy_zald hf hx hb hK Y 1 (fun _ => gF_60) ht1 d_Mo_erase_50 (fun _ hf => ?_)
        refine lv_if_eq (tgt := 88) hx hb d_Mo_erase_51 (by decide) (fun c51_54 => ?_) (fun c51_54 => ?_)
        · replace hf := gp_t c51_54 hf
          exact J88 (X44, i2_42, i3_42) _ _ _ hf (lv_sub hl [0, 1, 2, 3] rfl) Y
        · replace hf := gp_f c51_54 hf
          refine lv_aload_n hx hb d_Mo_erase_54 rfl (lv_at hl 2 rfl) ?_
          refine gy_get (ci := 8) (v := Value.ref (b 47)) (C := "CommitLedgerModel") (T := F_Mo) (N := 35) hx hb hts i_Mo hown hK Y gF_46 rfl 2 (by decide) kf_Mo_9 rfl d_Mo_erase_55 ?_
          refine lv_aload_n hx hb d_Mo_erase_58 rfl (lv_at hl 2 rfl) ?_
          refine gy_get (ci := 8) (v := Value.ref (b 54)) (C := "CommitLedgerModel") (T := F_Mo) (N := 35) hx hb hts i_Mo hown hK Y gF_46 rfl 15 (by decide) kf_Mo_40 rfl d_Mo_erase_59 ?_
          refine gy_get (ci := 9) (v := Value.ref (b 59)) (C := "CommitLedgerModel$Version") (T := F_Ve) (N := 11) hx hb hts i_Ve hown hK Y gF_54 rfl 4 (by decide) kf_Mo_185 rfl d_Mo_erase_62 ?_
          refine lv_iload_n hx hb d_Mo_erase_65 rfl (lv_at hl 1 rfl) ?_
          refine gy_iald hf hx hb hK Y 0 (fun _ => gF_59) ht0 d_Mo_erase_66 (fun _ hf => ?_)
          refine gy_iald hf hx hb hK Y 0 (fun _ => gF_47) ht0 d_Mo_erase_67 (fun _ hf => ?_)
          refine lv_iload_n hx hb d_Mo_erase_68 rfl (lv_at hl 3 rfl) ?_
          refine lv_icmp_eq (tgt := 75) hx hb d_Mo_erase_69 (by decide) (fun c69_55 => ?_) (fun c69_55 => ?_)
          · replace hf := gp_t c69_55 hf
            refine lv_aload_n hx hb d_Mo_erase_75 rfl (lv_at hl 2 rfl) ?_
            refine gy_get (ci := 8) (v := Value.ref (b 54)) (C := "CommitLedgerModel") (T := F_Mo) (N := 35) hx hb hts i_Mo hown hK Y gF_46 rfl 15 (by decide) kf_Mo_40 rfl d_Mo_erase_76 ?_
            refine gy_get (ci := 9) (v := Value.ref (b 60)) (C := "CommitLedgerModel$Version") (T := F_Ve) (N := 11) hx hb hts i_Ve hown hK Y gF_54 rfl 5 (by decide) kf_Mo_188 rfl d_Mo_erase_79 ?_
            refine lv_iload_n hx hb d_Mo_erase_82 rfl (lv_at hl 1 rfl) ?_
            refine lv_iconst (v := 0) hx hb d_Mo_erase_83 (by decide) ?_
            refine gy_zast hf hx hb hK Y 1 (fun _ => gF_60) ht1 d_Mo_erase_84 (fun X56 H locs hf Y => ?_)
            refine lv_iinc (v := i2_42 + 1) (lv' := [(2, Value.int (i2_42 + 1)), (3, Value.int i3_42), (0, Value.ref (b 46)), (1, Value.int a1)]) hx hb d_Mo_erase_85 hl (k := 0) rfl (rfl) (by decide) rfl (fun ls hl => ?_)
            exact J88 (X56, i2_42 + 1, i3_42) _ _ _ hf (lv_sub hl [0, 1, 2, 3] rfl) Y
          · replace hf := gp_f c69_55 hf
            refine lv_goto (tgt := 88) hx hb d_Mo_erase_72 (by decide) ?_
            exact J88 (X44, i2_42, i3_42) _ _ _ hf (lv_sub hl [0, 1, 2, 3] rfl) Y
    · replace hf := gp_f c17_41 hf
      refine lv_aload_n hx hb d_Mo_erase_20 rfl (lv_at hl 0 rfl) ?_
      refine lv_iconst (v := 0) hx hb d_Mo_erase_21 (by decide) ?_
      refine lv_iconst (v := 2) hx hb d_Mo_erase_22 (by decide) ?_
      obtain ⟨x57, X57, hF57, hf⟩ := gCi_el hf
      refine gy_callI (rm := { frames := 1, cells := 0, slots := 0, locals := 12 }) (ig := .invokevirtual 148) (av := [Value.ref (b 46), Value.int 0, Value.int 2]) Y (fun ws h hS hw => K_Mo_done l htr D tys z _ ws h hS t ht b X40 hw 0 2 (gR.i x57, X57) hF57) (gx_invV (As := [Value.int 0, Value.int 2]) (rest := []) hx hb hown hts km_Mo_148 kI_Mo_done kV_Mo_done kc_Mo_done (by decide) (show (parseMethodDescriptor y_Mo_done.desc).map (fun d => d.parameters.length) = some 2 by decide +kernel) (gy_recv (ci := 8) hK Y rfl gF_46) rfl rfl d_Mo_erase_23) (gx_cw (z := 0) hts kc_Mo_done kN_Mo rfl rfl ⟨Nat.le_of_ble_eq_true rfl, Nat.le_of_ble_eq_true rfl⟩) hb hml hz hK hY hAz hA hl.1 (lv_room (Nat.le_of_ble_eq_true rfl)) d_Mo_erase_23 ⟨Nat.zero_le _, Nat.zero_le _⟩ (fun H locs Y => ?_)
      exact gy_iret hf hx hb hr hlocks hK Y (Nat.zero_le _) (Nat.zero_le _) d_Mo_erase_26
  unfold f_Mo_erase at hf
  refine lv_aload_n hx hb d_Mo_erase_0 rfl (lv_at hl 0 rfl) ?_
  refine lv_aload_n hx hb d_Mo_erase_1 rfl (lv_at hl 0 rfl) ?_
  refine gy_get (ci := 8) (v := Value.int (X0.I 46 18)) (C := "CommitLedgerModel") (T := F_Mo) (N := 35) hx hb hts i_Mo hown hK Y gF_46 rfl 18 (by decide) kf_Mo_99 rfl d_Mo_erase_2 ?_
  refine lv_if_ne (tgt := 12) hx hb d_Mo_erase_5 (by decide) (fun c5_58 => ?_) (fun c5_58 => ?_)
  · replace hf := gp_f c5_58 hf
    refine lv_iconst (v := 0) hx hb d_Mo_erase_12 (by decide) ?_
    exact J13 (X0, 0) _ _ _ hf (lv_sub hl [0, 1] rfl) Y
  · replace hf := gp_t c5_58 hf
    refine lv_iconst (v := 1) hx hb d_Mo_erase_8 (by decide) ?_
    refine lv_goto (tgt := 13) hx hb d_Mo_erase_9 (by decide) ?_
    exact J13 (X0, 1) _ _ _ hf (lv_sub hl [0, 1] rfl) Y

def f_Mo_flush_35 (X : gX) : Option (gR × gX) := gCi (f_Mo_finished X (X.I 54 7) 26) (fun x4 X4 => some (gR.i x4, X4))
def f_Mo_flush_13 (X : gX) (i1000 : Int32) : Option (gR × gX) := gCi (f_Mo_wrong X i1000 2) (fun x2 X2 => (if x2 = (0 : Int32) then gCi (f_Mo_flushing X2) (fun x5 X5 => (if x5 = (0 : Int32) then gCi (f_Mo_finished X5 0 26) (fun x7 X7 => some (gR.i x7, X7)) else f_Mo_flush_35 X5)) else f_Mo_flush_35 X2))
def f_Mo_flush (X0 : gX) : Option (gR × gX) := (if (X0.I 46 18) = (0 : Int32) then f_Mo_flush_13 X0 1 else f_Mo_flush_13 X0 0)
set_option maxHeartbeats 4000000 in
set_option maxRecDepth 100000 in
theorem K_Mo_flush (l : Launch) (htr : l.stackTraces = false) (D : va_G) (tys : List (ClassId × FieldType)) (z sz : Nat) (ws : va_W) (h : gm_M) (hM : gm_S h ws) (t : Nat → ClassId) (ht : gTy t tys) (b : Nat → Nat) (X0 : gX) (hw : gw D t b X0 h) (o : gR × gX) (hf : f_Mo_flush X0 = some o) : gx_Met l y_Mo_flush [Cond.code y_Mo_flush b_Mo_flush 1 (some .int)] { frames := 6, cells := 0, slots := 0, locals := 123 } (gx_P z sz D classes tys ws [Value.ref (b 46)]) (gx_Q D classes tys (va_A ws sz) (gPo D t b X0 o)) (0) (0) (va_A ws sz) := by
  refine gx_ofW (cc := b_Mo_flush) (maxL := 1) (ret := (some .int)) (by decide) rfl ?_
  intro p e s m args below meth c s₁ B hml hv
  obtain ⟨rfl, hsz, hz, hP, hK, hD0, hY⟩ := hv
  have hx := B.exec
  have hb := B.bytes
  have hr := B.returns
  have hts := hY.hts (#[Value.ref (b 46)] : Array Value)
  have hown : s.vm.findClass "CommitLedgerModel" = some m.cls := findClass_of_methodNamed B.named
  have hlocks := B.notSynchronized
  subst hsz
  have hAz := gx_az hD0 hz
  have hD := hD0.self (sz := s.heap.size)
  have hA : ∀ q : Nat, s.heap.size ≤ q → va_A ws s.heap.size q := fun q h => Or.inr h
  generalize va_A ws s.heap.size = A at hD hA hAz ⊢
  have Y : gy D t b A s.heap X0 X0 s.heap [] := ⟨h, ⟨ws, hM, hP, hD, va_S.rf⟩, hw, gEq.rf⟩
  clear hP hD hM hD0 hw
  obtain ⟨ht0, ht1, ht2, ht3, ht4, ht5, ht6, ht7, ht8⟩ := id ht
  have hl := lv_entry ([Value.ref (b 46)]) (n := 1) (Nat.le_of_ble_eq_true rfl)
  rw [lg_entry_eq]
  generalize (lg_sl ([Value.ref (b 46)]) ++ List.replicate (1 - (lg_sl ([Value.ref (b 46)])).length) Slot.unset).toArray = ls at hl ⊢
  have hl : lv_has ls 1 [(0, Value.ref (b 46))] := hl
  refine gy_cut (pcJ := 35) Y (fun s : gX => f_Mo_flush_35 s) o (fun s => s) (fun s ls => lv_has ls 1 [(0, Value.ref (b 46))]) (fun s => []) ?_ (fun J35 => ?_)
  · rintro X8 H locs ls hf hl Y
    have hl : lv_has ls 1 [(0, Value.ref (b 46))] := hl
    have Y : gy D t b A s.heap X0 X8 H locs := Y
    have hf : f_Mo_flush_35 X8 = some o := hf
    unfold f_Mo_flush_35 at hf
    refine lv_aload_n hx hb d_Mo_flush_35 rfl (lv_at hl 0 rfl) ?_
    refine lv_aload_n hx hb d_Mo_flush_36 rfl (lv_at hl 0 rfl) ?_
    refine gy_get (ci := 8) (v := Value.ref (b 54)) (C := "CommitLedgerModel") (T := F_Mo) (N := 35) hx hb hts i_Mo hown hK Y gF_46 rfl 15 (by decide) kf_Mo_40 rfl d_Mo_flush_37 ?_
    refine gy_get (ci := 9) (v := Value.int (X8.I 54 7)) (C := "CommitLedgerModel$Version") (T := F_Ve) (N := 11) hx hb hts i_Ve hown hK Y gF_54 rfl 7 (by decide) kf_Mo_122 rfl d_Mo_flush_40 ?_
    refine lv_bipush (v := 26) hx hb d_Mo_flush_43 (by decide) ?_
    obtain ⟨x9, X9, hF9, hf⟩ := gCi_el hf
    refine gy_callI (rm := { frames := 4, cells := 0, slots := 0, locals := 83 }) (ig := .invokevirtual 175) (av := [Value.ref (b 46), Value.int (X8.I 54 7), Value.int 26]) Y (fun ws h hS hw => K_Mo_finished l htr D tys z _ ws h hS t ht b X8 hw (X8.I 54 7) 26 (gR.i x9, X9) hF9) (gx_invV (As := [Value.int (X8.I 54 7), Value.int 26]) (rest := []) hx hb hown hts km_Mo_175 kI_Mo_finished kV_Mo_finished kc_Mo_finished (by decide) (show (parseMethodDescriptor y_Mo_finished.desc).map (fun d => d.parameters.length) = some 2 by decide +kernel) (gy_recv (ci := 8) hK Y rfl gF_46) rfl rfl d_Mo_flush_45) (gx_cw (z := 0) hts kc_Mo_finished kN_Mo rfl rfl ⟨Nat.le_of_ble_eq_true rfl, Nat.le_of_ble_eq_true rfl⟩) hb hml hz hK hY hAz hA hl.1 (lv_room (Nat.le_of_ble_eq_true rfl)) d_Mo_flush_45 ⟨Nat.zero_le _, Nat.zero_le _⟩ (fun H locs Y => ?_)
    exact gy_iret hf hx hb hr hlocks hK Y (Nat.zero_le _) (Nat.zero_le _) d_Mo_flush_48
  refine gy_cut (pcJ := 13) Y (fun s : gX × Int32 => f_Mo_flush_13 s.1 s.2) o (fun s => s.1) (fun s ls => lv_has ls 1 [(0, Value.ref (b 46))]) (fun s => [Value.int s.2, Value.ref (b 46)]) ?_ (fun J13 => ?_)
  · rintro ⟨X10, i1000_10⟩ H locs ls hf hl Y
    have hl : lv_has ls 1 [(0, Value.ref (b 46))] := hl
    have Y : gy D t b A s.heap X0 X10 H locs := Y
    have hf : f_Mo_flush_13 X10 i1000_10 = some o := hf
    unfold f_Mo_flush_13 at hf
    refine W.eq (g2 := F0 m 13 ls [Value.int i1000_10, Value.ref (b 46)]) rfl ?_
    refine lv_iconst (v := 2) hx hb d_Mo_flush_13 (by decide) ?_
    obtain ⟨x11, X11, hF11, hf⟩ := gCi_el hf
    refine gy_callI (rm := { frames := 1, cells := 0, slots := 0, locals := 12 }) (ig := .invokevirtual 152) (av := [Value.ref (b 46), Value.int i1000_10, Value.int 2]) Y (fun ws h hS hw => K_Mo_wrong l htr D tys z _ ws h hS t ht b X10 hw i1000_10 2 (gR.i x11, X11) hF11) (gx_invV (As := [Value.int i1000_10, Value.int 2]) (rest := []) hx hb hown hts km_Mo_152 kI_Mo_wrong kV_Mo_wrong kc_Mo_wrong (by decide) (show (parseMethodDescriptor y_Mo_wrong.desc).map (fun d => d.parameters.length) = some 2 by decide +kernel) (gy_recv (ci := 8) hK Y rfl gF_46) rfl rfl d_Mo_flush_14) (gx_cw (z := 0) hts kc_Mo_wrong kN_Mo rfl rfl ⟨Nat.le_of_ble_eq_true rfl, Nat.le_of_ble_eq_true rfl⟩) hb hml hz hK hY hAz hA hl.1 (lv_room (Nat.le_of_ble_eq_true rfl)) d_Mo_flush_14 ⟨Nat.zero_le _, Nat.zero_le _⟩ (fun H locs Y => ?_)
    refine lv_if_ne (tgt := 35) hx hb d_Mo_flush_17 (by decide) (fun c17_12 => ?_) (fun c17_12 => ?_)
    · replace hf := gp_f c17_12 hf
      exact J35 X11 _ _ _ hf (lv_sub hl [0] rfl) Y
    · replace hf := gp_t c17_12 hf
      refine lv_aload_n hx hb d_Mo_flush_20 rfl (lv_at hl 0 rfl) ?_
      obtain ⟨x13, X13, hF13, hf⟩ := gCi_el hf
      refine gy_callI (rm := { frames := 5, cells := 0, slots := 0, locals := 98 }) (ig := .invokevirtual 197) (av := [Value.ref (b 46)]) Y (fun ws h hS hw => K_Mo_flushing l htr D tys z _ ws h hS t ht b X11 hw (gR.i x13, X13) hF13) (gx_invV (As := []) (rest := []) hx hb hown hts km_Mo_197 kI_Mo_flushing kV_Mo_flushing kc_Mo_flushing (by decide) (show (parseMethodDescriptor y_Mo_flushing.desc).map (fun d => d.parameters.length) = some 0 by decide +kernel) (gy_recv (ci := 8) hK Y rfl gF_46) rfl rfl d_Mo_flush_21) (gx_cw (z := 0) hts kc_Mo_flushing kN_Mo rfl rfl ⟨Nat.le_of_ble_eq_true rfl, Nat.le_of_ble_eq_true rfl⟩) hb hml hz hK hY hAz hA hl.1 (lv_room (Nat.le_of_ble_eq_true rfl)) d_Mo_flush_21 ⟨Nat.zero_le _, Nat.zero_le _⟩ (fun H locs Y => ?_)
      refine lv_if_ne (tgt := 35) hx hb d_Mo_flush_24 (by decide) (fun c24_14 => ?_) (fun c24_14 => ?_)
      · replace hf := gp_f c24_14 hf
        exact J35 X13 _ _ _ hf (lv_sub hl [0] rfl) Y
      · replace hf := gp_t c24_14 hf
        refine lv_aload_n hx hb d_Mo_flush_27 rfl (lv_at hl 0 rfl) ?_
        refine lv_iconst (v := 0) hx hb d_Mo_flush_28 (by decide) ?_
        refine lv_bipush (v := 26) hx hb d_Mo_flush_29 (by decide) ?_
        obtain ⟨x15, X15, hF15, hf⟩ := gCi_el hf
        refine gy_callI (rm := { frames := 4, cells := 0, slots := 0, locals := 83 }) (ig := .invokevirtual 175) (av := [Value.ref (b 46), Value.int 0, Value.int 26]) Y (fun ws h hS hw => K_Mo_finished l htr D tys z _ ws h hS t ht b X13 hw 0 26 (gR.i x15, X15) hF15) (gx_invV (As := [Value.int 0, Value.int 26]) (rest := []) hx hb hown hts km_Mo_175 kI_Mo_finished kV_Mo_finished kc_Mo_finished (by decide) (show (parseMethodDescriptor y_Mo_finished.desc).map (fun d => d.parameters.length) = some 2 by decide +kernel) (gy_recv (ci := 8) hK Y rfl gF_46) rfl rfl d_Mo_flush_31) (gx_cw (z := 0) hts kc_Mo_finished kN_Mo rfl rfl ⟨Nat.le_of_ble_eq_true rfl, Nat.le_of_ble_eq_true rfl⟩) hb hml hz hK hY hAz hA hl.1 (lv_room (Nat.le_of_ble_eq_true rfl)) d_Mo_flush_31 ⟨Nat.zero_le _, Nat.zero_le _⟩ (fun H locs Y => ?_)
        exact gy_iret hf hx hb hr hlocks hK Y (Nat.zero_le _) (Nat.zero_le _) d_Mo_flush_34
  unfold f_Mo_flush at hf
  refine lv_aload_n hx hb d_Mo_flush_0 rfl (lv_at hl 0 rfl) ?_
  refine lv_aload_n hx hb d_Mo_flush_1 rfl (lv_at hl 0 rfl) ?_
  refine gy_get (ci := 8) (v := Value.int (X0.I 46 18)) (C := "CommitLedgerModel") (T := F_Mo) (N := 35) hx hb hts i_Mo hown hK Y gF_46 rfl 18 (by decide) kf_Mo_99 rfl d_Mo_flush_2 ?_
  refine lv_if_ne (tgt := 12) hx hb d_Mo_flush_5 (by decide) (fun c5_16 => ?_) (fun c5_16 => ?_)
  · replace hf := gp_f c5_16 hf
    refine lv_iconst (v := 0) hx hb d_Mo_flush_12 (by decide) ?_
    exact J13 (X0, 0) _ _ _ hf (lv_sub hl [0] rfl) Y
  · replace hf := gp_t c5_16 hf
    refine lv_iconst (v := 1) hx hb d_Mo_flush_8 (by decide) ?_
    refine lv_goto (tgt := 13) hx hb d_Mo_flush_9 (by decide) ?_
    exact J13 (X0, 1) _ _ _ hf (lv_sub hl [0] rfl) Y

def f_Mo_prepare_20 (X : gX) (i1000 : Int32) : Option (gR × gX) := gCi (f_Mo_wrong X i1000 2) (fun x2 X2 => (if x2 = (0 : Int32) then gCi (f_Mo_preparing X2) (fun x4 X4 => gCi (f_Mo_finished X4 x4 26) (fun x5 X5 => some (gR.i x5, X5))) else gCi (f_Mo_done X2 0 26) (fun x6 X6 => some (gR.i x6, X6))))
def f_Mo_prepare_15 (X : gX) : Option (gR × gX) := f_Mo_prepare_20 X 1
def f_Mo_prepare (X0 : gX) : Option (gR × gX) := (if (X0.I 46 18) = (0 : Int32) then f_Mo_prepare_15 X0 else (if (X0.I 46 19) = (0 : Int32) then f_Mo_prepare_20 X0 0 else f_Mo_prepare_15 X0))
set_option maxHeartbeats 4000000 in
set_option maxRecDepth 100000 in
theorem K_Mo_prepare (l : Launch) (htr : l.stackTraces = false) (D : va_G) (tys : List (ClassId × FieldType)) (z sz : Nat) (ws : va_W) (h : gm_M) (hM : gm_S h ws) (t : Nat → ClassId) (ht : gTy t tys) (b : Nat → Nat) (X0 : gX) (hw : gw D t b X0 h) (o : gR × gX) (hf : f_Mo_prepare X0 = some o) : gx_Met l y_Mo_prepare [Cond.code y_Mo_prepare b_Mo_prepare 1 (some .int)] { frames := 7, cells := 0, slots := 0, locals := 144 } (gx_P z sz D classes tys ws [Value.ref (b 46)]) (gx_Q D classes tys (va_A ws sz) (gPo D t b X0 o)) (0) (0) (va_A ws sz) := by
  refine gx_ofW (cc := b_Mo_prepare) (maxL := 1) (ret := (some .int)) (by decide) rfl ?_
  intro p e s m args below meth c s₁ B hml hv
  obtain ⟨rfl, hsz, hz, hP, hK, hD0, hY⟩ := hv
  have hx := B.exec
  have hb := B.bytes
  have hr := B.returns
  have hts := hY.hts (#[Value.ref (b 46)] : Array Value)
  have hown : s.vm.findClass "CommitLedgerModel" = some m.cls := findClass_of_methodNamed B.named
  have hlocks := B.notSynchronized
  subst hsz
  have hAz := gx_az hD0 hz
  have hD := hD0.self (sz := s.heap.size)
  have hA : ∀ q : Nat, s.heap.size ≤ q → va_A ws s.heap.size q := fun q h => Or.inr h
  generalize va_A ws s.heap.size = A at hD hA hAz ⊢
  have Y : gy D t b A s.heap X0 X0 s.heap [] := ⟨h, ⟨ws, hM, hP, hD, va_S.rf⟩, hw, gEq.rf⟩
  clear hP hD hM hD0 hw
  obtain ⟨ht0, ht1, ht2, ht3, ht4, ht5, ht6, ht7, ht8⟩ := id ht
  have hl := lv_entry ([Value.ref (b 46)]) (n := 1) (Nat.le_of_ble_eq_true rfl)
  rw [lg_entry_eq]
  generalize (lg_sl ([Value.ref (b 46)]) ++ List.replicate (1 - (lg_sl ([Value.ref (b 46)])).length) Slot.unset).toArray = ls at hl ⊢
  have hl : lv_has ls 1 [(0, Value.ref (b 46))] := hl
  refine gy_cut (pcJ := 20) Y (fun s : gX × Int32 => f_Mo_prepare_20 s.1 s.2) o (fun s => s.1) (fun s ls => lv_has ls 1 [(0, Value.ref (b 46))]) (fun s => [Value.int s.2, Value.ref (b 46)]) ?_ (fun J20 => ?_)
  · rintro ⟨X8, i1000_8⟩ H locs ls hf hl Y
    have hl : lv_has ls 1 [(0, Value.ref (b 46))] := hl
    have Y : gy D t b A s.heap X0 X8 H locs := Y
    have hf : f_Mo_prepare_20 X8 i1000_8 = some o := hf
    unfold f_Mo_prepare_20 at hf
    refine W.eq (g2 := F0 m 20 ls [Value.int i1000_8, Value.ref (b 46)]) rfl ?_
    refine lv_iconst (v := 2) hx hb d_Mo_prepare_20 (by decide) ?_
    obtain ⟨x9, X9, hF9, hf⟩ := gCi_el hf
    refine gy_callI (rm := { frames := 1, cells := 0, slots := 0, locals := 12 }) (ig := .invokevirtual 152) (av := [Value.ref (b 46), Value.int i1000_8, Value.int 2]) Y (fun ws h hS hw => K_Mo_wrong l htr D tys z _ ws h hS t ht b X8 hw i1000_8 2 (gR.i x9, X9) hF9) (gx_invV (As := [Value.int i1000_8, Value.int 2]) (rest := []) hx hb hown hts km_Mo_152 kI_Mo_wrong kV_Mo_wrong kc_Mo_wrong (by decide) (show (parseMethodDescriptor y_Mo_wrong.desc).map (fun d => d.parameters.length) = some 2 by decide +kernel) (gy_recv (ci := 8) hK Y rfl gF_46) rfl rfl d_Mo_prepare_21) (gx_cw (z := 0) hts kc_Mo_wrong kN_Mo rfl rfl ⟨Nat.le_of_ble_eq_true rfl, Nat.le_of_ble_eq_true rfl⟩) hb hml hz hK hY hAz hA hl.1 (lv_room (Nat.le_of_ble_eq_true rfl)) d_Mo_prepare_21 ⟨Nat.zero_le _, Nat.zero_le _⟩ (fun H locs Y => ?_)
    refine lv_if_eq (tgt := 35) hx hb d_Mo_prepare_24 (by decide) (fun c24_10 => ?_) (fun c24_10 => ?_)
    · replace hf := gp_t c24_10 hf
      refine lv_aload_n hx hb d_Mo_prepare_35 rfl (lv_at hl 0 rfl) ?_
      refine lv_aload_n hx hb d_Mo_prepare_36 rfl (lv_at hl 0 rfl) ?_
      obtain ⟨x11, X11, hF11, hf⟩ := gCi_el hf
      refine gy_callI (rm := { frames := 6, cells := 0, slots := 0, locals := 123 }) (ig := .invokevirtual 239) (av := [Value.ref (b 46)]) Y (fun ws h hS hw => K_Mo_preparing l htr D tys z _ ws h hS t ht b X9 hw (gR.i x11, X11) hF11) (gx_invV (As := []) (rest := [Value.ref (b 46)]) hx hb hown hts km_Mo_239 kI_Mo_preparing kV_Mo_preparing kc_Mo_preparing (by decide) (show (parseMethodDescriptor y_Mo_preparing.desc).map (fun d => d.parameters.length) = some 0 by decide +kernel) (gy_recv (ci := 8) hK Y rfl gF_46) rfl rfl d_Mo_prepare_37) (gx_cw (z := 0) hts kc_Mo_preparing kN_Mo rfl rfl ⟨Nat.le_of_ble_eq_true rfl, Nat.le_of_ble_eq_true rfl⟩) hb hml hz hK hY hAz hA hl.1 (lv_room (Nat.le_of_ble_eq_true rfl)) d_Mo_prepare_37 ⟨Nat.zero_le _, Nat.zero_le _⟩ (fun H locs Y => ?_)
      refine lv_bipush (v := 26) hx hb d_Mo_prepare_40 (by decide) ?_
      obtain ⟨x12, X12, hF12, hf⟩ := gCi_el hf
      refine gy_callI (rm := { frames := 4, cells := 0, slots := 0, locals := 83 }) (ig := .invokevirtual 175) (av := [Value.ref (b 46), Value.int x11, Value.int 26]) Y (fun ws h hS hw => K_Mo_finished l htr D tys z _ ws h hS t ht b X11 hw x11 26 (gR.i x12, X12) hF12) (gx_invV (As := [Value.int x11, Value.int 26]) (rest := []) hx hb hown hts km_Mo_175 kI_Mo_finished kV_Mo_finished kc_Mo_finished (by decide) (show (parseMethodDescriptor y_Mo_finished.desc).map (fun d => d.parameters.length) = some 2 by decide +kernel) (gy_recv (ci := 8) hK Y rfl gF_46) rfl rfl d_Mo_prepare_42) (gx_cw (z := 0) hts kc_Mo_finished kN_Mo rfl rfl ⟨Nat.le_of_ble_eq_true rfl, Nat.le_of_ble_eq_true rfl⟩) hb hml hz hK hY hAz hA hl.1 (lv_room (Nat.le_of_ble_eq_true rfl)) d_Mo_prepare_42 ⟨Nat.zero_le _, Nat.zero_le _⟩ (fun H locs Y => ?_)
      exact gy_iret hf hx hb hr hlocks hK Y (Nat.zero_le _) (Nat.zero_le _) d_Mo_prepare_45
    · replace hf := gp_f c24_10 hf
      refine lv_aload_n hx hb d_Mo_prepare_27 rfl (lv_at hl 0 rfl) ?_
      refine lv_iconst (v := 0) hx hb d_Mo_prepare_28 (by decide) ?_
      refine lv_bipush (v := 26) hx hb d_Mo_prepare_29 (by decide) ?_
      obtain ⟨x13, X13, hF13, hf⟩ := gCi_el hf
      refine gy_callI (rm := { frames := 1, cells := 0, slots := 0, locals := 12 }) (ig := .invokevirtual 148) (av := [Value.ref (b 46), Value.int 0, Value.int 26]) Y (fun ws h hS hw => K_Mo_done l htr D tys z _ ws h hS t ht b X9 hw 0 26 (gR.i x13, X13) hF13) (gx_invV (As := [Value.int 0, Value.int 26]) (rest := []) hx hb hown hts km_Mo_148 kI_Mo_done kV_Mo_done kc_Mo_done (by decide) (show (parseMethodDescriptor y_Mo_done.desc).map (fun d => d.parameters.length) = some 2 by decide +kernel) (gy_recv (ci := 8) hK Y rfl gF_46) rfl rfl d_Mo_prepare_31) (gx_cw (z := 0) hts kc_Mo_done kN_Mo rfl rfl ⟨Nat.le_of_ble_eq_true rfl, Nat.le_of_ble_eq_true rfl⟩) hb hml hz hK hY hAz hA hl.1 (lv_room (Nat.le_of_ble_eq_true rfl)) d_Mo_prepare_31 ⟨Nat.zero_le _, Nat.zero_le _⟩ (fun H locs Y => ?_)
      exact gy_iret hf hx hb hr hlocks hK Y (Nat.zero_le _) (Nat.zero_le _) d_Mo_prepare_34
  refine gy_cut (pcJ := 15) Y (fun s : gX => f_Mo_prepare_15 s) o (fun s => s) (fun s ls => lv_has ls 1 [(0, Value.ref (b 46))]) (fun s => [Value.ref (b 46)]) ?_ (fun J15 => ?_)
  · rintro X14 H locs ls hf hl Y
    have hl : lv_has ls 1 [(0, Value.ref (b 46))] := hl
    have Y : gy D t b A s.heap X0 X14 H locs := Y
    have hf : f_Mo_prepare_15 X14 = some o := hf
    unfold f_Mo_prepare_15 at hf
    refine W.eq (g2 := F0 m 15 ls [Value.ref (b 46)]) rfl ?_
    refine lv_iconst (v := 1) hx hb d_Mo_prepare_15 (by decide) ?_
    refine lv_goto (tgt := 20) hx hb d_Mo_prepare_16 (by decide) ?_
    exact J20 (X14, 1) _ _ _ hf (lv_sub hl [0] rfl) Y
  unfold f_Mo_prepare at hf
  refine lv_aload_n hx hb d_Mo_prepare_0 rfl (lv_at hl 0 rfl) ?_
  refine lv_aload_n hx hb d_Mo_prepare_1 rfl (lv_at hl 0 rfl) ?_
  refine gy_get (ci := 8) (v := Value.int (X0.I 46 18)) (C := "CommitLedgerModel") (T := F_Mo) (N := 35) hx hb hts i_Mo hown hK Y gF_46 rfl 18 (by decide) kf_Mo_99 rfl d_Mo_prepare_2 ?_
  refine lv_if_eq (tgt := 15) hx hb d_Mo_prepare_5 (by decide) (fun c5_15 => ?_) (fun c5_15 => ?_)
  · replace hf := gp_t c5_15 hf
    exact J15 X0 _ _ _ hf (lv_sub hl [0] rfl) Y
  · replace hf := gp_f c5_15 hf
    refine lv_aload_n hx hb d_Mo_prepare_8 rfl (lv_at hl 0 rfl) ?_
    refine gy_get (ci := 8) (v := Value.int (X0.I 46 19)) (C := "CommitLedgerModel") (T := F_Mo) (N := 35) hx hb hts i_Mo hown hK Y gF_46 rfl 19 (by decide) kf_Mo_109 rfl d_Mo_prepare_9 ?_
    refine lv_if_eq (tgt := 19) hx hb d_Mo_prepare_12 (by decide) (fun c12_16 => ?_) (fun c12_16 => ?_)
    · replace hf := gp_t c12_16 hf
      refine lv_iconst (v := 0) hx hb d_Mo_prepare_19 (by decide) ?_
      exact J20 (X0, 0) _ _ _ hf (lv_sub hl [0] rfl) Y
    · replace hf := gp_f c12_16 hf
      exact J15 X0 _ _ _ hf (lv_sub hl [0] rfl) Y

def f_Mo_commit_13 (X : gX) (i1000 : Int32) : Option (gR × gX) := gCi (f_Mo_wrong X i1000 2) (fun x2 X2 => (if x2 = (0 : Int32) then gCi (f_Mo_committing X2) (fun x4 X4 => gCi (f_Mo_finished X4 x4 26) (fun x5 X5 => some (gR.i x5, X5))) else gCi (f_Mo_done X2 0 26) (fun x6 X6 => some (gR.i x6, X6))))
def f_Mo_commit (X0 : gX) : Option (gR × gX) := (if (X0.I 46 18) = (0 : Int32) then f_Mo_commit_13 X0 1 else f_Mo_commit_13 X0 0)
set_option maxHeartbeats 4000000 in
set_option maxRecDepth 100000 in
theorem K_Mo_commit (l : Launch) (htr : l.stackTraces = false) (D : va_G) (tys : List (ClassId × FieldType)) (z sz : Nat) (ws : va_W) (h : gm_M) (hM : gm_S h ws) (t : Nat → ClassId) (ht : gTy t tys) (b : Nat → Nat) (X0 : gX) (hw : gw D t b X0 h) (o : gR × gX) (hf : f_Mo_commit X0 = some o) : gx_Met l y_Mo_commit [Cond.code y_Mo_commit b_Mo_commit 1 (some .int)] { frames := 8, cells := 0, slots := 0, locals := 165 } (gx_P z sz D classes tys ws [Value.ref (b 46)]) (gx_Q D classes tys (va_A ws sz) (gPo D t b X0 o)) (0) (0) (va_A ws sz) := by
  refine gx_ofW (cc := b_Mo_commit) (maxL := 1) (ret := (some .int)) (by decide) rfl ?_
  intro p e s m args below meth c s₁ B hml hv
  obtain ⟨rfl, hsz, hz, hP, hK, hD0, hY⟩ := hv
  have hx := B.exec
  have hb := B.bytes
  have hr := B.returns
  have hts := hY.hts (#[Value.ref (b 46)] : Array Value)
  have hown : s.vm.findClass "CommitLedgerModel" = some m.cls := findClass_of_methodNamed B.named
  have hlocks := B.notSynchronized
  subst hsz
  have hAz := gx_az hD0 hz
  have hD := hD0.self (sz := s.heap.size)
  have hA : ∀ q : Nat, s.heap.size ≤ q → va_A ws s.heap.size q := fun q h => Or.inr h
  generalize va_A ws s.heap.size = A at hD hA hAz ⊢
  have Y : gy D t b A s.heap X0 X0 s.heap [] := ⟨h, ⟨ws, hM, hP, hD, va_S.rf⟩, hw, gEq.rf⟩
  clear hP hD hM hD0 hw
  obtain ⟨ht0, ht1, ht2, ht3, ht4, ht5, ht6, ht7, ht8⟩ := id ht
  have hl := lv_entry ([Value.ref (b 46)]) (n := 1) (Nat.le_of_ble_eq_true rfl)
  rw [lg_entry_eq]
  generalize (lg_sl ([Value.ref (b 46)]) ++ List.replicate (1 - (lg_sl ([Value.ref (b 46)])).length) Slot.unset).toArray = ls at hl ⊢
  have hl : lv_has ls 1 [(0, Value.ref (b 46))] := hl
  refine gy_cut (pcJ := 13) Y (fun s : gX × Int32 => f_Mo_commit_13 s.1 s.2) o (fun s => s.1) (fun s ls => lv_has ls 1 [(0, Value.ref (b 46))]) (fun s => [Value.int s.2, Value.ref (b 46)]) ?_ (fun J13 => ?_)
  · rintro ⟨X7, i1000_7⟩ H locs ls hf hl Y
    have hl : lv_has ls 1 [(0, Value.ref (b 46))] := hl
    have Y : gy D t b A s.heap X0 X7 H locs := Y
    have hf : f_Mo_commit_13 X7 i1000_7 = some o := hf
    unfold f_Mo_commit_13 at hf
    refine W.eq (g2 := F0 m 13 ls [Value.int i1000_7, Value.ref (b 46)]) rfl ?_
    refine lv_iconst (v := 2) hx hb d_Mo_commit_13 (by decide) ?_
    obtain ⟨x8, X8, hF8, hf⟩ := gCi_el hf
    refine gy_callI (rm := { frames := 1, cells := 0, slots := 0, locals := 12 }) (ig := .invokevirtual 152) (av := [Value.ref (b 46), Value.int i1000_7, Value.int 2]) Y (fun ws h hS hw => K_Mo_wrong l htr D tys z _ ws h hS t ht b X7 hw i1000_7 2 (gR.i x8, X8) hF8) (gx_invV (As := [Value.int i1000_7, Value.int 2]) (rest := []) hx hb hown hts km_Mo_152 kI_Mo_wrong kV_Mo_wrong kc_Mo_wrong (by decide) (show (parseMethodDescriptor y_Mo_wrong.desc).map (fun d => d.parameters.length) = some 2 by decide +kernel) (gy_recv (ci := 8) hK Y rfl gF_46) rfl rfl d_Mo_commit_14) (gx_cw (z := 0) hts kc_Mo_wrong kN_Mo rfl rfl ⟨Nat.le_of_ble_eq_true rfl, Nat.le_of_ble_eq_true rfl⟩) hb hml hz hK hY hAz hA hl.1 (lv_room (Nat.le_of_ble_eq_true rfl)) d_Mo_commit_14 ⟨Nat.zero_le _, Nat.zero_le _⟩ (fun H locs Y => ?_)
    refine lv_if_eq (tgt := 28) hx hb d_Mo_commit_17 (by decide) (fun c17_9 => ?_) (fun c17_9 => ?_)
    · replace hf := gp_t c17_9 hf
      refine lv_aload_n hx hb d_Mo_commit_28 rfl (lv_at hl 0 rfl) ?_
      refine lv_aload_n hx hb d_Mo_commit_29 rfl (lv_at hl 0 rfl) ?_
      obtain ⟨x10, X10, hF10, hf⟩ := gCi_el hf
      refine gy_callI (rm := { frames := 7, cells := 0, slots := 0, locals := 144 }) (ig := .invokevirtual 242) (av := [Value.ref (b 46)]) Y (fun ws h hS hw => K_Mo_committing l htr D tys z _ ws h hS t ht b X8 hw (gR.i x10, X10) hF10) (gx_invV (As := []) (rest := [Value.ref (b 46)]) hx hb hown hts km_Mo_242 kI_Mo_committing kV_Mo_committing kc_Mo_committing (by decide) (show (parseMethodDescriptor y_Mo_committing.desc).map (fun d => d.parameters.length) = some 0 by decide +kernel) (gy_recv (ci := 8) hK Y rfl gF_46) rfl rfl d_Mo_commit_30) (gx_cw (z := 0) hts kc_Mo_committing kN_Mo rfl rfl ⟨Nat.le_of_ble_eq_true rfl, Nat.le_of_ble_eq_true rfl⟩) hb hml hz hK hY hAz hA hl.1 (lv_room (Nat.le_of_ble_eq_true rfl)) d_Mo_commit_30 ⟨Nat.zero_le _, Nat.zero_le _⟩ (fun H locs Y => ?_)
      refine lv_bipush (v := 26) hx hb d_Mo_commit_33 (by decide) ?_
      obtain ⟨x11, X11, hF11, hf⟩ := gCi_el hf
      refine gy_callI (rm := { frames := 4, cells := 0, slots := 0, locals := 83 }) (ig := .invokevirtual 175) (av := [Value.ref (b 46), Value.int x10, Value.int 26]) Y (fun ws h hS hw => K_Mo_finished l htr D tys z _ ws h hS t ht b X10 hw x10 26 (gR.i x11, X11) hF11) (gx_invV (As := [Value.int x10, Value.int 26]) (rest := []) hx hb hown hts km_Mo_175 kI_Mo_finished kV_Mo_finished kc_Mo_finished (by decide) (show (parseMethodDescriptor y_Mo_finished.desc).map (fun d => d.parameters.length) = some 2 by decide +kernel) (gy_recv (ci := 8) hK Y rfl gF_46) rfl rfl d_Mo_commit_35) (gx_cw (z := 0) hts kc_Mo_finished kN_Mo rfl rfl ⟨Nat.le_of_ble_eq_true rfl, Nat.le_of_ble_eq_true rfl⟩) hb hml hz hK hY hAz hA hl.1 (lv_room (Nat.le_of_ble_eq_true rfl)) d_Mo_commit_35 ⟨Nat.zero_le _, Nat.zero_le _⟩ (fun H locs Y => ?_)
      exact gy_iret hf hx hb hr hlocks hK Y (Nat.zero_le _) (Nat.zero_le _) d_Mo_commit_38
    · replace hf := gp_f c17_9 hf
      refine lv_aload_n hx hb d_Mo_commit_20 rfl (lv_at hl 0 rfl) ?_
      refine lv_iconst (v := 0) hx hb d_Mo_commit_21 (by decide) ?_
      refine lv_bipush (v := 26) hx hb d_Mo_commit_22 (by decide) ?_
      obtain ⟨x12, X12, hF12, hf⟩ := gCi_el hf
      refine gy_callI (rm := { frames := 1, cells := 0, slots := 0, locals := 12 }) (ig := .invokevirtual 148) (av := [Value.ref (b 46), Value.int 0, Value.int 26]) Y (fun ws h hS hw => K_Mo_done l htr D tys z _ ws h hS t ht b X8 hw 0 26 (gR.i x12, X12) hF12) (gx_invV (As := [Value.int 0, Value.int 26]) (rest := []) hx hb hown hts km_Mo_148 kI_Mo_done kV_Mo_done kc_Mo_done (by decide) (show (parseMethodDescriptor y_Mo_done.desc).map (fun d => d.parameters.length) = some 2 by decide +kernel) (gy_recv (ci := 8) hK Y rfl gF_46) rfl rfl d_Mo_commit_24) (gx_cw (z := 0) hts kc_Mo_done kN_Mo rfl rfl ⟨Nat.le_of_ble_eq_true rfl, Nat.le_of_ble_eq_true rfl⟩) hb hml hz hK hY hAz hA hl.1 (lv_room (Nat.le_of_ble_eq_true rfl)) d_Mo_commit_24 ⟨Nat.zero_le _, Nat.zero_le _⟩ (fun H locs Y => ?_)
      exact gy_iret hf hx hb hr hlocks hK Y (Nat.zero_le _) (Nat.zero_le _) d_Mo_commit_27
  unfold f_Mo_commit at hf
  refine lv_aload_n hx hb d_Mo_commit_0 rfl (lv_at hl 0 rfl) ?_
  refine lv_aload_n hx hb d_Mo_commit_1 rfl (lv_at hl 0 rfl) ?_
  refine gy_get (ci := 8) (v := Value.int (X0.I 46 18)) (C := "CommitLedgerModel") (T := F_Mo) (N := 35) hx hb hts i_Mo hown hK Y gF_46 rfl 18 (by decide) kf_Mo_99 rfl d_Mo_commit_2 ?_
  refine lv_if_ne (tgt := 12) hx hb d_Mo_commit_5 (by decide) (fun c5_13 => ?_) (fun c5_13 => ?_)
  · replace hf := gp_f c5_13 hf
    refine lv_iconst (v := 0) hx hb d_Mo_commit_12 (by decide) ?_
    exact J13 (X0, 0) _ _ _ hf (lv_sub hl [0] rfl) Y
  · replace hf := gp_t c5_13 hf
    refine lv_iconst (v := 1) hx hb d_Mo_commit_8 (by decide) ?_
    refine lv_goto (tgt := 13) hx hb d_Mo_commit_9 (by decide) ?_
    exact J13 (X0, 1) _ _ _ hf (lv_sub hl [0] rfl) Y

def f_Mo_rollback_25 (X : gX) : Option (gR × gX) := gCi (f_Mo_finished X 0 2) (fun x4 X4 => some (gR.v, X4))
def f_Mo_rollback_13 (X : gX) (i1000 : Int32) : Option (gR × gX) := gCi (f_Mo_wrong X i1000 2) (fun x2 X2 => (if x2 = (0 : Int32) then gCv (f_Mo_close1 X2 0) (fun X5 => f_Mo_rollback_25 X5) else f_Mo_rollback_25 X2))
def f_Mo_rollback (X0 : gX) : Option (gR × gX) := (if (X0.I 46 18) = (0 : Int32) then f_Mo_rollback_13 X0 1 else f_Mo_rollback_13 X0 0)
set_option maxHeartbeats 4000000 in
set_option maxRecDepth 100000 in
theorem K_Mo_rollback (l : Launch) (htr : l.stackTraces = false) (D : va_G) (tys : List (ClassId × FieldType)) (z sz : Nat) (ws : va_W) (h : gm_M) (hM : gm_S h ws) (t : Nat → ClassId) (ht : gTy t tys) (b : Nat → Nat) (X0 : gX) (hw : gw D t b X0 h) (o : gR × gX) (hf : f_Mo_rollback X0 = some o) : gx_Met l y_Mo_rollback [Cond.code y_Mo_rollback b_Mo_rollback 2 none] { frames := 5, cells := 0, slots := 0, locals := 105 } (gx_P z sz D classes tys ws [Value.ref (b 46)]) (gx_Q D classes tys (va_A ws sz) (gPo D t b X0 o)) (0) (0) (va_A ws sz) := by
  refine gx_ofW (cc := b_Mo_rollback) (maxL := 2) (ret := none) (by decide) rfl ?_
  intro p e s m args below meth c s₁ B hml hv
  obtain ⟨rfl, hsz, hz, hP, hK, hD0, hY⟩ := hv
  have hx := B.exec
  have hb := B.bytes
  have hr := B.returns
  have hts := hY.hts (#[Value.ref (b 46)] : Array Value)
  have hown : s.vm.findClass "CommitLedgerModel" = some m.cls := findClass_of_methodNamed B.named
  have hlocks := B.notSynchronized
  subst hsz
  have hAz := gx_az hD0 hz
  have hD := hD0.self (sz := s.heap.size)
  have hA : ∀ q : Nat, s.heap.size ≤ q → va_A ws s.heap.size q := fun q h => Or.inr h
  generalize va_A ws s.heap.size = A at hD hA hAz ⊢
  have Y : gy D t b A s.heap X0 X0 s.heap [] := ⟨h, ⟨ws, hM, hP, hD, va_S.rf⟩, hw, gEq.rf⟩
  clear hP hD hM hD0 hw
  obtain ⟨ht0, ht1, ht2, ht3, ht4, ht5, ht6, ht7, ht8⟩ := id ht
  have hl := lv_entry ([Value.ref (b 46)]) (n := 2) (Nat.le_of_ble_eq_true rfl)
  rw [lg_entry_eq]
  generalize (lg_sl ([Value.ref (b 46)]) ++ List.replicate (2 - (lg_sl ([Value.ref (b 46)])).length) Slot.unset).toArray = ls at hl ⊢
  have hl : lv_has ls 2 [(0, Value.ref (b 46))] := hl
  refine gy_cut (pcJ := 25) Y (fun s : gX => f_Mo_rollback_25 s) o (fun s => s) (fun s ls => lv_has ls 2 [(0, Value.ref (b 46))]) (fun s => []) ?_ (fun J25 => ?_)
  · rintro X6 H locs ls hf hl Y
    have hl : lv_has ls 2 [(0, Value.ref (b 46))] := hl
    have Y : gy D t b A s.heap X0 X6 H locs := Y
    have hf : f_Mo_rollback_25 X6 = some o := hf
    unfold f_Mo_rollback_25 at hf
    refine lv_aload_n hx hb d_Mo_rollback_25 rfl (lv_at hl 0 rfl) ?_
    refine lv_iconst (v := 0) hx hb d_Mo_rollback_26 (by decide) ?_
    refine lv_iconst (v := 2) hx hb d_Mo_rollback_27 (by decide) ?_
    obtain ⟨x7, X7, hF7, hf⟩ := gCi_el hf
    refine gy_callI (rm := { frames := 4, cells := 0, slots := 0, locals := 83 }) (ig := .invokevirtual 175) (av := [Value.ref (b 46), Value.int 0, Value.int 2]) Y (fun ws h hS hw => K_Mo_finished l htr D tys z _ ws h hS t ht b X6 hw 0 2 (gR.i x7, X7) hF7) (gx_invV (As := [Value.int 0, Value.int 2]) (rest := []) hx hb hown hts km_Mo_175 kI_Mo_finished kV_Mo_finished kc_Mo_finished (by decide) (show (parseMethodDescriptor y_Mo_finished.desc).map (fun d => d.parameters.length) = some 2 by decide +kernel) (gy_recv (ci := 8) hK Y rfl gF_46) rfl rfl d_Mo_rollback_28) (gx_cw (z := 0) hts kc_Mo_finished kN_Mo rfl rfl ⟨Nat.le_of_ble_eq_true rfl, Nat.le_of_ble_eq_true rfl⟩) hb hml hz hK hY hAz hA hl.1 (lv_room (Nat.le_of_ble_eq_true rfl)) d_Mo_rollback_28 ⟨Nat.zero_le _, Nat.zero_le _⟩ (fun H locs Y => ?_)
    refine lv_istore_n (lv' := [(1, Value.int x7), (0, Value.ref (b 46))]) hx hb d_Mo_rollback_31 rfl hl (by decide) rfl (fun ls hl => ?_)
    exact gy_vret hf hx hb hr hlocks hK Y (Nat.zero_le _) (Nat.zero_le _) d_Mo_rollback_32
  refine gy_cut (pcJ := 13) Y (fun s : gX × Int32 => f_Mo_rollback_13 s.1 s.2) o (fun s => s.1) (fun s ls => lv_has ls 2 [(0, Value.ref (b 46))]) (fun s => [Value.int s.2, Value.ref (b 46)]) ?_ (fun J13 => ?_)
  · rintro ⟨X8, i1000_8⟩ H locs ls hf hl Y
    have hl : lv_has ls 2 [(0, Value.ref (b 46))] := hl
    have Y : gy D t b A s.heap X0 X8 H locs := Y
    have hf : f_Mo_rollback_13 X8 i1000_8 = some o := hf
    unfold f_Mo_rollback_13 at hf
    refine W.eq (g2 := F0 m 13 ls [Value.int i1000_8, Value.ref (b 46)]) rfl ?_
    refine lv_iconst (v := 2) hx hb d_Mo_rollback_13 (by decide) ?_
    obtain ⟨x9, X9, hF9, hf⟩ := gCi_el hf
    refine gy_callI (rm := { frames := 1, cells := 0, slots := 0, locals := 12 }) (ig := .invokevirtual 152) (av := [Value.ref (b 46), Value.int i1000_8, Value.int 2]) Y (fun ws h hS hw => K_Mo_wrong l htr D tys z _ ws h hS t ht b X8 hw i1000_8 2 (gR.i x9, X9) hF9) (gx_invV (As := [Value.int i1000_8, Value.int 2]) (rest := []) hx hb hown hts km_Mo_152 kI_Mo_wrong kV_Mo_wrong kc_Mo_wrong (by decide) (show (parseMethodDescriptor y_Mo_wrong.desc).map (fun d => d.parameters.length) = some 2 by decide +kernel) (gy_recv (ci := 8) hK Y rfl gF_46) rfl rfl d_Mo_rollback_14) (gx_cw (z := 0) hts kc_Mo_wrong kN_Mo rfl rfl ⟨Nat.le_of_ble_eq_true rfl, Nat.le_of_ble_eq_true rfl⟩) hb hml hz hK hY hAz hA hl.1 (lv_room (Nat.le_of_ble_eq_true rfl)) d_Mo_rollback_14 ⟨Nat.zero_le _, Nat.zero_le _⟩ (fun H locs Y => ?_)
    refine lv_if_ne (tgt := 25) hx hb d_Mo_rollback_17 (by decide) (fun c17_10 => ?_) (fun c17_10 => ?_)
    · replace hf := gp_f c17_10 hf
      exact J25 X9 _ _ _ hf (lv_sub hl [0] rfl) Y
    · replace hf := gp_t c17_10 hf
      refine lv_aload_n hx hb d_Mo_rollback_20 rfl (lv_at hl 0 rfl) ?_
      refine lv_iconst (v := 0) hx hb d_Mo_rollback_21 (by decide) ?_
      obtain ⟨X11, hF11, hf⟩ := gCv_el hf
      refine gy_callV (rm := { frames := 1, cells := 0, slots := 0, locals := 12 }) (ig := .invokevirtual 245) (av := [Value.ref (b 46), Value.int 0]) Y (fun ws h hS hw => K_Mo_close1 l htr D tys z _ ws h hS t ht b X9 hw 0 (gR.v, X11) hF11) (gx_invV (As := [Value.int 0]) (rest := []) hx hb hown hts km_Mo_245 kI_Mo_close1 kV_Mo_close1 kc_Mo_close1 (by decide) (show (parseMethodDescriptor y_Mo_close1.desc).map (fun d => d.parameters.length) = some 1 by decide +kernel) (gy_recv (ci := 8) hK Y rfl gF_46) rfl rfl d_Mo_rollback_22) (gx_cw (z := 0) hts kc_Mo_close1 kN_Mo rfl rfl ⟨Nat.le_of_ble_eq_true rfl, Nat.le_of_ble_eq_true rfl⟩) hb hml hz hK hY hAz hA hl.1 (lv_room (Nat.le_of_ble_eq_true rfl)) d_Mo_rollback_22 ⟨Nat.zero_le _, Nat.zero_le _⟩ (fun H locs Y => ?_)
      exact J25 X11 _ _ _ hf (lv_sub hl [0] rfl) Y
  unfold f_Mo_rollback at hf
  refine lv_aload_n hx hb d_Mo_rollback_0 rfl (lv_at hl 0 rfl) ?_
  refine lv_aload_n hx hb d_Mo_rollback_1 rfl (lv_at hl 0 rfl) ?_
  refine gy_get (ci := 8) (v := Value.int (X0.I 46 18)) (C := "CommitLedgerModel") (T := F_Mo) (N := 35) hx hb hts i_Mo hown hK Y gF_46 rfl 18 (by decide) kf_Mo_99 rfl d_Mo_rollback_2 ?_
  refine lv_if_ne (tgt := 12) hx hb d_Mo_rollback_5 (by decide) (fun c5_12 => ?_) (fun c5_12 => ?_)
  · replace hf := gp_f c5_12 hf
    refine lv_iconst (v := 0) hx hb d_Mo_rollback_12 (by decide) ?_
    exact J13 (X0, 0) _ _ _ hf (lv_sub hl [0] rfl) Y
  · replace hf := gp_t c5_12 hf
    refine lv_iconst (v := 1) hx hb d_Mo_rollback_8 (by decide) ?_
    refine lv_goto (tgt := 13) hx hb d_Mo_rollback_9 (by decide) ?_
    exact J13 (X0, 1) _ _ _ hf (lv_sub hl [0] rfl) Y

def f_Mo_power_29 (X : gX) : Option (gR × gX) := gCi (f_Mo_done X 0 1) (fun x4 X4 => some (gR.v, X4))
def f_Mo_power_17 (X : gX) (i1 : Int32) (i1000 : Int32) : Option (gR × gX) := gCi (f_Mo_wrong X i1000 1) (fun x2 X2 => (if x2 = (0 : Int32) then gB (X2.w 46 13 i1) (fun X5 => f_Mo_power_29 X5) else f_Mo_power_29 X2))
def f_Mo_power_12 (X : gX) (i1 : Int32) : Option (gR × gX) := f_Mo_power_17 X i1 1
def f_Mo_power (X0 : gX) (a1 : Int32) : Option (gR × gX) := (if a1 < (-1 : Int32) then f_Mo_power_12 X0 a1 else (if a1 ≤ (1000000 : Int32) then f_Mo_power_17 X0 a1 0 else f_Mo_power_12 X0 a1))
set_option maxHeartbeats 4000000 in
set_option maxRecDepth 100000 in
theorem K_Mo_power (l : Launch) (htr : l.stackTraces = false) (D : va_G) (tys : List (ClassId × FieldType)) (z sz : Nat) (ws : va_W) (h : gm_M) (hM : gm_S h ws) (t : Nat → ClassId) (ht : gTy t tys) (b : Nat → Nat) (X0 : gX) (hw : gw D t b X0 h) (a1 : Int32) (o : gR × gX) (hf : f_Mo_power X0 a1 = some o) : gx_Met l y_Mo_power [Cond.code y_Mo_power b_Mo_power 3 none] { frames := 2, cells := 0, slots := 0, locals := 37 } (gx_P z sz D classes tys ws [Value.ref (b 46), Value.int a1]) (gx_Q D classes tys (va_A ws sz) (gPo D t b X0 o)) (0) (0) (va_A ws sz) := by
  refine gx_ofW (cc := b_Mo_power) (maxL := 3) (ret := none) (by decide) rfl ?_
  intro p e s m args below meth c s₁ B hml hv
  obtain ⟨rfl, hsz, hz, hP, hK, hD0, hY⟩ := hv
  have hx := B.exec
  have hb := B.bytes
  have hr := B.returns
  have hts := hY.hts (#[Value.ref (b 46), Value.int a1] : Array Value)
  have hown : s.vm.findClass "CommitLedgerModel" = some m.cls := findClass_of_methodNamed B.named
  have hlocks := B.notSynchronized
  subst hsz
  have hAz := gx_az hD0 hz
  have hD := hD0.self (sz := s.heap.size)
  have hA : ∀ q : Nat, s.heap.size ≤ q → va_A ws s.heap.size q := fun q h => Or.inr h
  generalize va_A ws s.heap.size = A at hD hA hAz ⊢
  have Y : gy D t b A s.heap X0 X0 s.heap [] := ⟨h, ⟨ws, hM, hP, hD, va_S.rf⟩, hw, gEq.rf⟩
  clear hP hD hM hD0 hw
  obtain ⟨ht0, ht1, ht2, ht3, ht4, ht5, ht6, ht7, ht8⟩ := id ht
  have hl := lv_entry ([Value.ref (b 46), Value.int a1]) (n := 3) (Nat.le_of_ble_eq_true rfl)
  rw [lg_entry_eq]
  generalize (lg_sl ([Value.ref (b 46), Value.int a1]) ++ List.replicate (3 - (lg_sl ([Value.ref (b 46), Value.int a1])).length) Slot.unset).toArray = ls at hl ⊢
  have hl : lv_has ls 3 [(0, Value.ref (b 46)), (1, Value.int a1)] := hl
  refine gy_cut (pcJ := 29) Y (fun s : gX => f_Mo_power_29 s) o (fun s => s) (fun s ls => lv_has ls 3 [(0, Value.ref (b 46))]) (fun s => []) ?_ (fun J29 => ?_)
  · rintro X7 H locs ls hf hl Y
    have hl : lv_has ls 3 [(0, Value.ref (b 46))] := hl
    have Y : gy D t b A s.heap X0 X7 H locs := Y
    have hf : f_Mo_power_29 X7 = some o := hf
    unfold f_Mo_power_29 at hf
    refine lv_aload_n hx hb d_Mo_power_29 rfl (lv_at hl 0 rfl) ?_
    refine lv_iconst (v := 0) hx hb d_Mo_power_30 (by decide) ?_
    refine lv_iconst (v := 1) hx hb d_Mo_power_31 (by decide) ?_
    obtain ⟨x8, X8, hF8, hf⟩ := gCi_el hf
    refine gy_callI (rm := { frames := 1, cells := 0, slots := 0, locals := 12 }) (ig := .invokevirtual 148) (av := [Value.ref (b 46), Value.int 0, Value.int 1]) Y (fun ws h hS hw => K_Mo_done l htr D tys z _ ws h hS t ht b X7 hw 0 1 (gR.i x8, X8) hF8) (gx_invV (As := [Value.int 0, Value.int 1]) (rest := []) hx hb hown hts km_Mo_148 kI_Mo_done kV_Mo_done kc_Mo_done (by decide) (show (parseMethodDescriptor y_Mo_done.desc).map (fun d => d.parameters.length) = some 2 by decide +kernel) (gy_recv (ci := 8) hK Y rfl gF_46) rfl rfl d_Mo_power_32) (gx_cw (z := 0) hts kc_Mo_done kN_Mo rfl rfl ⟨Nat.le_of_ble_eq_true rfl, Nat.le_of_ble_eq_true rfl⟩) hb hml hz hK hY hAz hA hl.1 (lv_room (Nat.le_of_ble_eq_true rfl)) d_Mo_power_32 ⟨Nat.zero_le _, Nat.zero_le _⟩ (fun H locs Y => ?_)
    refine lv_istore_n (lv' := [(2, Value.int x8), (0, Value.ref (b 46))]) hx hb d_Mo_power_35 rfl hl (by decide) rfl (fun ls hl => ?_)
    exact gy_vret hf hx hb hr hlocks hK Y (Nat.zero_le _) (Nat.zero_le _) d_Mo_power_36
  refine gy_cut (pcJ := 17) Y (fun s : gX × Int32 => f_Mo_power_17 s.1 a1 s.2) o (fun s => s.1) (fun s ls => lv_has ls 3 [(0, Value.ref (b 46)), (1, Value.int a1)]) (fun s => [Value.int s.2, Value.ref (b 46)]) ?_ (fun J17 => ?_)
  · rintro ⟨X9, i1000_9⟩ H locs ls hf hl Y
    have hl : lv_has ls 3 [(0, Value.ref (b 46)), (1, Value.int a1)] := hl
    have Y : gy D t b A s.heap X0 X9 H locs := Y
    have hf : f_Mo_power_17 X9 a1 i1000_9 = some o := hf
    unfold f_Mo_power_17 at hf
    refine W.eq (g2 := F0 m 17 ls [Value.int i1000_9, Value.ref (b 46)]) rfl ?_
    refine lv_iconst (v := 1) hx hb d_Mo_power_17 (by decide) ?_
    obtain ⟨x10, X10, hF10, hf⟩ := gCi_el hf
    refine gy_callI (rm := { frames := 1, cells := 0, slots := 0, locals := 12 }) (ig := .invokevirtual 152) (av := [Value.ref (b 46), Value.int i1000_9, Value.int 1]) Y (fun ws h hS hw => K_Mo_wrong l htr D tys z _ ws h hS t ht b X9 hw i1000_9 1 (gR.i x10, X10) hF10) (gx_invV (As := [Value.int i1000_9, Value.int 1]) (rest := []) hx hb hown hts km_Mo_152 kI_Mo_wrong kV_Mo_wrong kc_Mo_wrong (by decide) (show (parseMethodDescriptor y_Mo_wrong.desc).map (fun d => d.parameters.length) = some 2 by decide +kernel) (gy_recv (ci := 8) hK Y rfl gF_46) rfl rfl d_Mo_power_18) (gx_cw (z := 0) hts kc_Mo_wrong kN_Mo rfl rfl ⟨Nat.le_of_ble_eq_true rfl, Nat.le_of_ble_eq_true rfl⟩) hb hml hz hK hY hAz hA hl.1 (lv_room (Nat.le_of_ble_eq_true rfl)) d_Mo_power_18 ⟨Nat.zero_le _, Nat.zero_le _⟩ (fun H locs Y => ?_)
    refine lv_if_ne (tgt := 29) hx hb d_Mo_power_21 (by decide) (fun c21_11 => ?_) (fun c21_11 => ?_)
    · replace hf := gp_f c21_11 hf
      exact J29 X10 _ _ _ hf (lv_sub hl [0] rfl) Y
    · replace hf := gp_t c21_11 hf
      refine lv_aload_n hx hb d_Mo_power_24 rfl (lv_at hl 0 rfl) ?_
      refine lv_iload_n hx hb d_Mo_power_25 rfl (lv_at hl 1 rfl) ?_
      refine gy_put hf (ci := 8) (ty := .int) (C := "CommitLedgerModel") (T := F_Mo) (N := 35) hx hb hts i_Mo t_Mo_ok n_Mo hown hK Y gF_46 rfl (by decide) kf_Mo_33 rfl (by decide +kernel) rfl rfl (Nat.le_of_ble_eq_true rfl) gF_46 d_Mo_power_26 (fun X12 H locs hf Y => ?_)
      exact J29 X12 _ _ _ hf (lv_sub hl [0] rfl) Y
  refine gy_cut (pcJ := 12) Y (fun s : gX => f_Mo_power_12 s a1) o (fun s => s) (fun s ls => lv_has ls 3 [(0, Value.ref (b 46)), (1, Value.int a1)]) (fun s => [Value.ref (b 46)]) ?_ (fun J12 => ?_)
  · rintro X13 H locs ls hf hl Y
    have hl : lv_has ls 3 [(0, Value.ref (b 46)), (1, Value.int a1)] := hl
    have Y : gy D t b A s.heap X0 X13 H locs := Y
    have hf : f_Mo_power_12 X13 a1 = some o := hf
    unfold f_Mo_power_12 at hf
    refine W.eq (g2 := F0 m 12 ls [Value.ref (b 46)]) rfl ?_
    refine lv_iconst (v := 1) hx hb d_Mo_power_12 (by decide) ?_
    refine lv_goto (tgt := 17) hx hb d_Mo_power_13 (by decide) ?_
    exact J17 (X13, 1) _ _ _ hf (lv_sub hl [0, 1] rfl) Y
  unfold f_Mo_power at hf
  refine lv_aload_n hx hb d_Mo_power_0 rfl (lv_at hl 0 rfl) ?_
  refine lv_iload_n hx hb d_Mo_power_1 rfl (lv_at hl 1 rfl) ?_
  refine lv_iconst (v := (-1)) hx hb d_Mo_power_2 (by decide) ?_
  refine lv_icmp_lt (tgt := 12) hx hb d_Mo_power_3 (by decide) (fun c3_14 => ?_) (fun c3_14 => ?_)
  · replace hf := gp_t c3_14 hf
    exact J12 X0 _ _ _ hf (lv_sub hl [0, 1] rfl) Y
  · replace hf := gp_f c3_14 hf
    refine lv_iload_n hx hb d_Mo_power_6 rfl (lv_at hl 1 rfl) ?_
    refine lv_ldc (v := 1000000) hx hb hown (hts _ ki_Mo_249) d_Mo_power_7 ?_
    refine lv_icmp_le (tgt := 16) hx hb d_Mo_power_9 (by decide) (fun c9_15 => ?_) (fun c9_15 => ?_)
    · replace hf := gp_t c9_15 hf
      refine lv_iconst (v := 0) hx hb d_Mo_power_16 (by decide) ?_
      exact J17 (X0, 0) _ _ _ hf (lv_sub hl [0, 1] rfl) Y
    · replace hf := gp_f c9_15 hf
      exact J12 X0 _ _ _ hf (lv_sub hl [0, 1] rfl) Y

def f_Mo_crash (X0 : gX) : Option (gR × gX) := gCv (f_Mo_lose X0) (fun X1 => gCi (f_Mo_done X1 0 0) (fun x2 X2 => some (gR.v, X2)))
set_option maxHeartbeats 4000000 in
set_option maxRecDepth 100000 in
theorem K_Mo_crash (l : Launch) (htr : l.stackTraces = false) (D : va_G) (tys : List (ClassId × FieldType)) (z sz : Nat) (ws : va_W) (h : gm_M) (hM : gm_S h ws) (t : Nat → ClassId) (ht : gTy t tys) (b : Nat → Nat) (X0 : gX) (hw : gw D t b X0 h) (o : gR × gX) (hf : f_Mo_crash X0 = some o) : gx_Met l y_Mo_crash [Cond.code y_Mo_crash b_Mo_crash 2 none] { frames := 3, cells := 0, slots := 0, locals := 58 } (gx_P z sz D classes tys ws [Value.ref (b 46)]) (gx_Q D classes tys (va_A ws sz) (gPo D t b X0 o)) (0) (0) (va_A ws sz) := by
  refine gx_ofW (cc := b_Mo_crash) (maxL := 2) (ret := none) (by decide) rfl ?_
  intro p e s m args below meth c s₁ B hml hv
  obtain ⟨rfl, hsz, hz, hP, hK, hD0, hY⟩ := hv
  have hx := B.exec
  have hb := B.bytes
  have hr := B.returns
  have hts := hY.hts (#[Value.ref (b 46)] : Array Value)
  have hown : s.vm.findClass "CommitLedgerModel" = some m.cls := findClass_of_methodNamed B.named
  have hlocks := B.notSynchronized
  subst hsz
  have hAz := gx_az hD0 hz
  have hD := hD0.self (sz := s.heap.size)
  have hA : ∀ q : Nat, s.heap.size ≤ q → va_A ws s.heap.size q := fun q h => Or.inr h
  generalize va_A ws s.heap.size = A at hD hA hAz ⊢
  have Y : gy D t b A s.heap X0 X0 s.heap [] := ⟨h, ⟨ws, hM, hP, hD, va_S.rf⟩, hw, gEq.rf⟩
  clear hP hD hM hD0 hw
  obtain ⟨ht0, ht1, ht2, ht3, ht4, ht5, ht6, ht7, ht8⟩ := id ht
  have hl := lv_entry ([Value.ref (b 46)]) (n := 2) (Nat.le_of_ble_eq_true rfl)
  rw [lg_entry_eq]
  generalize (lg_sl ([Value.ref (b 46)]) ++ List.replicate (2 - (lg_sl ([Value.ref (b 46)])).length) Slot.unset).toArray = ls at hl ⊢
  have hl : lv_has ls 2 [(0, Value.ref (b 46))] := hl
  unfold f_Mo_crash at hf
  refine lv_aload_n hx hb d_Mo_crash_0 rfl (lv_at hl 0 rfl) ?_
  obtain ⟨X3, hF3, hf⟩ := gCv_el hf
  refine gy_callV (rm := { frames := 2, cells := 0, slots := 0, locals := 34 }) (ig := .invokevirtual 87) (av := [Value.ref (b 46)]) Y (fun ws h hS hw => K_Mo_lose l htr D tys z _ ws h hS t ht b X0 hw (gR.v, X3) hF3) (gx_invV (As := []) (rest := []) hx hb hown hts km_Mo_87 kI_Mo_lose kV_Mo_lose kc_Mo_lose (by decide) (show (parseMethodDescriptor y_Mo_lose.desc).map (fun d => d.parameters.length) = some 0 by decide +kernel) (gy_recv (ci := 8) hK Y rfl gF_46) rfl rfl d_Mo_crash_1) (gx_cw (z := 0) hts kc_Mo_lose kN_Mo rfl rfl ⟨Nat.le_of_ble_eq_true rfl, Nat.le_of_ble_eq_true rfl⟩) hb hml hz hK hY hAz hA hl.1 (lv_room (Nat.le_of_ble_eq_true rfl)) d_Mo_crash_1 ⟨Nat.zero_le _, Nat.zero_le _⟩ (fun H locs Y => ?_)
  refine lv_aload_n hx hb d_Mo_crash_4 rfl (lv_at hl 0 rfl) ?_
  refine lv_iconst (v := 0) hx hb d_Mo_crash_5 (by decide) ?_
  refine lv_iconst (v := 0) hx hb d_Mo_crash_6 (by decide) ?_
  obtain ⟨x4, X4, hF4, hf⟩ := gCi_el hf
  refine gy_callI (rm := { frames := 1, cells := 0, slots := 0, locals := 12 }) (ig := .invokevirtual 148) (av := [Value.ref (b 46), Value.int 0, Value.int 0]) Y (fun ws h hS hw => K_Mo_done l htr D tys z _ ws h hS t ht b X3 hw 0 0 (gR.i x4, X4) hF4) (gx_invV (As := [Value.int 0, Value.int 0]) (rest := []) hx hb hown hts km_Mo_148 kI_Mo_done kV_Mo_done kc_Mo_done (by decide) (show (parseMethodDescriptor y_Mo_done.desc).map (fun d => d.parameters.length) = some 2 by decide +kernel) (gy_recv (ci := 8) hK Y rfl gF_46) rfl rfl d_Mo_crash_7) (gx_cw (z := 0) hts kc_Mo_done kN_Mo rfl rfl ⟨Nat.le_of_ble_eq_true rfl, Nat.le_of_ble_eq_true rfl⟩) hb hml hz hK hY hAz hA hl.1 (lv_room (Nat.le_of_ble_eq_true rfl)) d_Mo_crash_7 ⟨Nat.zero_le _, Nat.zero_le _⟩ (fun H locs Y => ?_)
  refine lv_istore_n (lv' := [(1, Value.int x4), (0, Value.ref (b 46))]) hx hb d_Mo_crash_10 rfl hl (by decide) rfl (fun ls hl => ?_)
  exact gy_vret hf hx hb hr hlocks hK Y (Nat.zero_le _) (Nat.zero_le _) d_Mo_crash_11

def f_Mo_thrown (X0 : gX) : Option (gR × gX) := some (gR.i (X0.I 46 1), X0)
set_option maxHeartbeats 4000000 in
set_option maxRecDepth 100000 in
theorem K_Mo_thrown (l : Launch) (htr : l.stackTraces = false) (D : va_G) (tys : List (ClassId × FieldType)) (z sz : Nat) (ws : va_W) (h : gm_M) (hM : gm_S h ws) (t : Nat → ClassId) (ht : gTy t tys) (b : Nat → Nat) (X0 : gX) (hw : gw D t b X0 h) (o : gR × gX) (hf : f_Mo_thrown X0 = some o) : gx_Met l y_Mo_thrown [Cond.code y_Mo_thrown b_Mo_thrown 1 (some .int)] { frames := 1, cells := 0, slots := 0, locals := 12 } (gx_P z sz D classes tys ws [Value.ref (b 46)]) (gx_Q D classes tys (va_A ws sz) (gPo D t b X0 o)) (0) (0) (va_A ws sz) := by
  refine gx_ofW (cc := b_Mo_thrown) (maxL := 1) (ret := (some .int)) (by decide) rfl ?_
  intro p e s m args below meth c s₁ B hml hv
  obtain ⟨rfl, hsz, hz, hP, hK, hD0, hY⟩ := hv
  have hx := B.exec
  have hb := B.bytes
  have hr := B.returns
  have hts := hY.hts (#[Value.ref (b 46)] : Array Value)
  have hown : s.vm.findClass "CommitLedgerModel" = some m.cls := findClass_of_methodNamed B.named
  have hlocks := B.notSynchronized
  subst hsz
  have hAz := gx_az hD0 hz
  have hD := hD0.self (sz := s.heap.size)
  have hA : ∀ q : Nat, s.heap.size ≤ q → va_A ws s.heap.size q := fun q h => Or.inr h
  generalize va_A ws s.heap.size = A at hD hA hAz ⊢
  have Y : gy D t b A s.heap X0 X0 s.heap [] := ⟨h, ⟨ws, hM, hP, hD, va_S.rf⟩, hw, gEq.rf⟩
  clear hP hD hM hD0 hw
  obtain ⟨ht0, ht1, ht2, ht3, ht4, ht5, ht6, ht7, ht8⟩ := id ht
  have hl := lv_entry ([Value.ref (b 46)]) (n := 1) (Nat.le_of_ble_eq_true rfl)
  rw [lg_entry_eq]
  generalize (lg_sl ([Value.ref (b 46)]) ++ List.replicate (1 - (lg_sl ([Value.ref (b 46)])).length) Slot.unset).toArray = ls at hl ⊢
  have hl : lv_has ls 1 [(0, Value.ref (b 46))] := hl
  unfold f_Mo_thrown at hf
  refine lv_aload_n hx hb d_Mo_thrown_0 rfl (lv_at hl 0 rfl) ?_
  refine gy_get (ci := 8) (v := Value.int (X0.I 46 1)) (C := "CommitLedgerModel") (T := F_Mo) (N := 35) hx hb hts i_Mo hown hK Y gF_46 rfl 1 (by decide) kf_Mo_80 rfl d_Mo_thrown_1 ?_
  exact gy_iret hf hx hb hr hlocks hK Y (Nat.zero_le _) (Nat.zero_le _) d_Mo_thrown_4

def f_Mo_replace_353 (X : gX) (i9 : Int32) (i10 : Int32) (i11 : Int32) : Option ((gX × Int32) ⊕ (gR × gX)) := (if (X.I 54 7) < i11 then gB (X.w 54 7 ((X.I 54 7) - i10)) (fun X14 => gLf (some (gR.v, X14))) else (if gIn i11 4098 then (if gIn (i11 - i10) 4098 then gB (X.w 57 (gn (i11 - i10)) ((X.I 57 (gn i11)) - i9)) (fun X15 => some (Sum.inl (X15, i11 + 1))) else none) else none))
def f_Mo_replace_261 (X : gX) (i1 : Int32) (i2 : Int32) (i5 : Int32) (i6 : Int32) (i9 : Int32) (i10 : Int32) (i11 : Int32) : Option ((gX × Int32) ⊕ (gR × gX)) := (if (X.I 54 7) ≤ i11 then (if gIn (i1 + 1) 4098 then gB (X.w 57 (gn (i1 + 1)) (i5 + i6)) (fun X11 => gLf (gI (fun s : gX × Int32 => f_Mo_replace_353 s.1 i9 i10 s.2) gK (X11, i2 + 1))) else none) else (if gIn i11 4097 then (if gIn (i11 - i10) 4097 then gB (X.w 55 (gn (i11 - i10)) (X.I 55 (gn i11))) (fun X19 => (if gIn i11 4097 then (if gIn (i11 - i10) 4097 then gB (X19.w 56 (gn (i11 - i10)) (X19.I 56 (gn i11))) (fun X20 => (if gIn i11 4097 then (if gIn (i11 - i10) 4097 then gB (X20.w 58 (gn (i11 - i10)) (X20.I 58 (gn i11))) (fun X21 => some (Sum.inl (X21, i11 + 1))) else none) else none)) else none) else none)) else none) else none))
def f_Mo_replace_152 (X : gX) (i1 : Int32) (i2 : Int32) (i3 : Int32) (i5 : Int32) (i6 : Int32) (i8 : Int32) (i9 : Int32) (i10 : Int32) : Option ((gX × Int32) ⊕ (gR × gX)) := (if i8 ≤ i10 then (if gIn i3 4 then (if gIn i1 4097 then gB (X.w 55 (gn i1) (X.I 82 (gn i3))) (fun X6 => (if gIn i1 4097 then gB (X6.w 56 (gn i1) (-1)) (fun X7 => (if gIn i1 4097 then gB (X7.w 58 (gn i1) 0) (fun X8 => gLf (gI (fun s : gX × Int32 => f_Mo_replace_261 s.1 i1 i2 i5 i6 i9 ((i2 - i1) - 1) s.2) gK (X8, i2))) else none)) else none)) else none) else none) else (if gIn i10 4096 then (if gIn (i10 - i9) 4096 then gB (X.w 59 (gn (i10 - i9)) (X.I 59 (gn i10))) (fun X31 => (if gIn i10 4096 then (if gIn (i10 - i9) 4096 then gB (X31.w 60 (gn (i10 - i9)) (vp_nar .boolean (X31.I 60 (gn i10)))) (fun X32 => (if gIn i10 4096 then (if gIn (i10 - i9) 4096 then gB (X32.w 61 (gn (i10 - i9)) (vp_nar .boolean (X32.I 61 (gn i10)))) (fun X33 => some (Sum.inl (X33, i10 + 1))) else none) else none)) else none) else none)) else none) else none))
def f_Mo_replace_138 (X : gX) (i1 : Int32) (i2 : Int32) (i3 : Int32) (i5 : Int32) (i6 : Int32) (i7 : Int32) (i8 : Int32) : Option (gR × gX) := gI (fun s : gX × Int32 => f_Mo_replace_152 s.1 i1 i2 i3 i5 i6 i8 ((i7 - i5) - i6) s.2) gK (X, i7)
def f_Mo_replace_132 (X : gX) (i1 : Int32) (i2 : Int32) (i3 : Int32) (i5 : Int32) (i6 : Int32) (i7 : Int32) (i8 : Int32) (i9 : Int32) : Option ((gX × Int32 × Int32) ⊕ (gR × gX)) := some (Sum.inl (X, i6, i9 + 1))
def f_Mo_replace_38 (X : gX) (i1 : Int32) (i2 : Int32) (i3 : Int32) (i5 : Int32) (i7 : Int32) (i8 : Int32) (i6 : Int32) (i9 : Int32) : Option ((gX × Int32 × Int32) ⊕ (gR × gX)) := (if i7 ≤ i9 then gLf (f_Mo_replace_138 X i1 i2 i3 i5 i6 i7 i8) else (if gIn i3 4 then (if (X.I 80 (gn i3)) ≤ i6 then gLf (f_Mo_replace_138 X i1 i2 i3 i5 i6 i7 i8) else (if gIn i9 4096 then (if gIn i3 4 then gM (X.G 121 (gn i3)) (fun n52 => (if gRow n52 then (if gIn i6 4096 then (if (X.I 59 (gn i9)) = (X.I n52 (gn i6)) then (if gIn i9 4096 then (if gIn (i5 + i6) 4096 then gB (X.w 59 (gn (i5 + i6)) (X.I 59 (gn i9))) (fun X55 => (if gIn i9 4096 then (if gIn (i5 + i6) 4096 then gB (X55.w 60 (gn (i5 + i6)) (vp_nar .boolean (X55.I 60 (gn i9)))) (fun X56 => (if gIn (i5 + i6) 4096 then gB (X56.w 61 (gn (i5 + i6)) (vp_nar .boolean 1)) (fun X57 => f_Mo_replace_132 X57 i1 i2 i3 i5 (i6 + 1) i7 i8 i9) else none)) else none) else none)) else none) else none) else f_Mo_replace_132 X i1 i2 i3 i5 i6 i7 i8 i9) else none) else none)) else none) else none)) else none))
def f_Mo_replace (X0 : gX) (a1 : Int32) (a2 : Int32) (a3 : Int32) : Option (gR × gX) := (if gIn a1 4098 then (if gIn a2 4098 then gCi (f_Ve_docs X0 54) (fun x1 X1 => gI (fun s : gX × Int32 × Int32 => f_Mo_replace_38 s.1 a1 a2 a3 (X0.I 57 (gn a1)) (X0.I 57 (gn a2)) x1 s.2.1 s.2.2) gK (X1, 0, X0.I 57 (gn a1))) else none) else none)
set_option maxHeartbeats 4000000 in
set_option maxRecDepth 100000 in
theorem K_Mo_replace (l : Launch) (htr : l.stackTraces = false) (D : va_G) (tys : List (ClassId × FieldType)) (z sz : Nat) (ws : va_W) (h : gm_M) (hM : gm_S h ws) (t : Nat → ClassId) (ht : gTy t tys) (b : Nat → Nat) (X0 : gX) (hw : gw D t b X0 h) (a1 : Int32) (a2 : Int32) (a3 : Int32) (o : gR × gX) (hf : f_Mo_replace X0 a1 a2 a3 = some o) : gx_Met l y_Mo_replace [Cond.code y_Mo_replace b_Mo_replace 12 none] { frames := 2, cells := 0, slots := 0, locals := 32 } (gx_P z sz D classes tys ws [Value.ref (b 46), Value.int a1, Value.int a2, Value.int a3]) (gx_Q D classes tys (va_A ws sz) (gPo D t b X0 o)) (0) (0) (va_A ws sz) := by
  refine gx_ofW (cc := b_Mo_replace) (maxL := 12) (ret := none) (by decide) rfl ?_
  intro p e s m args below meth c s₁ B hml hv
  obtain ⟨rfl, hsz, hz, hP, hK, hD0, hY⟩ := hv
  have hx := B.exec
  have hb := B.bytes
  have hr := B.returns
  have hts := hY.hts (#[Value.ref (b 46), Value.int a1, Value.int a2, Value.int a3] : Array Value)
  have hown : s.vm.findClass "CommitLedgerModel" = some m.cls := findClass_of_methodNamed B.named
  have hlocks := B.notSynchronized
  subst hsz
  have hAz := gx_az hD0 hz
  have hD := hD0.self (sz := s.heap.size)
  have hA : ∀ q : Nat, s.heap.size ≤ q → va_A ws s.heap.size q := fun q h => Or.inr h
  generalize va_A ws s.heap.size = A at hD hA hAz ⊢
  have Y : gy D t b A s.heap X0 X0 s.heap [] := ⟨h, ⟨ws, hM, hP, hD, va_S.rf⟩, hw, gEq.rf⟩
  clear hP hD hM hD0 hw
  obtain ⟨ht0, ht1, ht2, ht3, ht4, ht5, ht6, ht7, ht8⟩ := id ht
  have hl := lv_entry ([Value.ref (b 46), Value.int a1, Value.int a2, Value.int a3]) (n := 12) (Nat.le_of_ble_eq_true rfl)
  rw [lg_entry_eq]
  generalize (lg_sl ([Value.ref (b 46), Value.int a1, Value.int a2, Value.int a3]) ++ List.replicate (12 - (lg_sl ([Value.ref (b 46), Value.int a1, Value.int a2, Value.int a3])).length) Slot.unset).toArray = ls at hl ⊢
  have hl : lv_has ls 12 [(0, Value.ref (b 46)), (1, Value.int a1), (2, Value.int a2), (3, Value.int a3)] := hl
  refine gy_cut (pcJ := 138) Y (fun s : gX × Int32 × Int32 × Int32 × Int32 => f_Mo_replace_138 s.1 a1 a2 a3 s.2.1 s.2.2.1 s.2.2.2.1 s.2.2.2.2) o (fun s => s.1) (fun s ls => lv_has ls 12 [(5, Value.int s.2.1), (6, Value.int s.2.2.1), (7, Value.int s.2.2.2.1), (8, Value.int s.2.2.2.2), (0, Value.ref (b 46)), (1, Value.int a1), (2, Value.int a2), (3, Value.int a3), (4, Value.ref (b 54))]) (fun s => []) ?_ (fun J138 => ?_)
  · rintro ⟨X67, i5_67, i6_67, i7_67, i8_67⟩ H locs ls hf hl Y
    have hl : lv_has ls 12 [(5, Value.int i5_67), (6, Value.int i6_67), (7, Value.int i7_67), (8, Value.int i8_67), (0, Value.ref (b 46)), (1, Value.int a1), (2, Value.int a2), (3, Value.int a3), (4, Value.ref (b 54))] := hl
    have Y : gy D t b A s.heap X0 X67 H locs := Y
    have hf : f_Mo_replace_138 X67 a1 a2 a3 i5_67 i6_67 i7_67 i8_67 = some o := hf
    unfold f_Mo_replace_138 at hf
    refine lv_iload hx hb d_Mo_replace_138 (lv_at hl 2 rfl) ?_
    refine lv_iload hx hb d_Mo_replace_140 (lv_at hl 0 rfl) ?_
    refine lv_isub hx hb d_Mo_replace_142 ?_
    refine lv_iload hx hb d_Mo_replace_143 (lv_at hl 1 rfl) ?_
    refine lv_isub hx hb d_Mo_replace_145 ?_
    refine lv_istore (lv' := [(9, Value.int ((i7_67 - i5_67) - i6_67)), (5, Value.int i5_67), (6, Value.int i6_67), (7, Value.int i7_67), (8, Value.int i8_67), (0, Value.ref (b 46)), (1, Value.int a1), (2, Value.int a2), (3, Value.int a3), (4, Value.ref (b 54))]) hx hb d_Mo_replace_146 hl (by decide) rfl (fun ls hl => ?_)
    refine lv_iload hx hb d_Mo_replace_148 (lv_at hl 3 rfl) ?_
    refine lv_istore (lv' := [(10, Value.int i7_67), (9, Value.int ((i7_67 - i5_67) - i6_67)), (5, Value.int i5_67), (6, Value.int i6_67), (7, Value.int i7_67), (8, Value.int i8_67), (0, Value.ref (b 46)), (1, Value.int a1), (2, Value.int a2), (3, Value.int a3), (4, Value.ref (b 54))]) hx hb d_Mo_replace_150 hl (by decide) rfl (fun ls hl => ?_)
    refine gy_iter (fun s : gX × Int32 => s.1) (fun (s : gX × Int32) ls => lv_has ls 12 [(10, Value.int s.2), (0, Value.ref (b 46)), (1, Value.int a1), (2, Value.int a2), (3, Value.int a3), (4, Value.ref (b 54)), (5, Value.int i5_67), (6, Value.int i6_67), (8, Value.int i8_67), (9, Value.int ((i7_67 - i5_67) - i6_67))]) ?_ gK (X67, i7_67) _ _ _ hf (lv_sub hl [0, 6, 7, 8, 9, 10, 2, 3, 5, 1] rfl) Y
    rintro ⟨X68, i10_68⟩ u68 H locs ls hf hl Y hk68 ho68
    have hl : lv_has ls 12 [(10, Value.int i10_68), (0, Value.ref (b 46)), (1, Value.int a1), (2, Value.int a2), (3, Value.int a3), (4, Value.ref (b 54)), (5, Value.int i5_67), (6, Value.int i6_67), (8, Value.int i8_67), (9, Value.int ((i7_67 - i5_67) - i6_67))] := hl
    have Y : gy D t b A s.heap X0 X68 H locs := Y
    have hf : f_Mo_replace_152 X68 a1 a2 a3 i5_67 i6_67 i8_67 ((i7_67 - i5_67) - i6_67) i10_68 = some u68 := hf
    unfold f_Mo_replace_152 at hf
    refine lv_iload hx hb d_Mo_replace_152 (lv_at hl 0 rfl) ?_
    refine lv_iload hx hb d_Mo_replace_154 (lv_at hl 8 rfl) ?_
    refine lv_icmp_ge (tgt := 222) hx hb d_Mo_replace_156 (by decide) (fun c156_69 => ?_) (fun c156_69 => ?_)
    · replace hf := gp_t c156_69 hf
      refine lv_aload hx hb d_Mo_replace_222 (lv_at hl 5 rfl) ?_
      refine gy_get (ci := 9) (v := Value.ref (b 55)) (C := "CommitLedgerModel$Version") (T := F_Ve) (N := 11) hx hb hts i_Ve hown hK Y gF_54 rfl 0 (by decide) kf_Mo_125 rfl d_Mo_replace_224 ?_
      refine lv_iload_n hx hb d_Mo_replace_227 rfl (lv_at hl 2 rfl) ?_
      refine lv_aload_n hx hb d_Mo_replace_228 rfl (lv_at hl 1 rfl) ?_
      refine gy_get (ci := 8) (v := Value.ref (b 82)) (C := "CommitLedgerModel") (T := F_Mo) (N := 35) hx hb hts i_Mo hown hK Y gF_46 rfl 29 (by decide) kf_Mo_73 rfl d_Mo_replace_229 ?_
      refine lv_iload_n hx hb d_Mo_replace_232 rfl (lv_at hl 4 rfl) ?_
      refine gy_iald hf hx hb hK Y 0 (fun _ => gF_82) ht0 d_Mo_replace_233 (fun _ hf => ?_)
      refine gy_iast hf hx hb hK Y 0 (fun _ => gF_55) ht0 d_Mo_replace_234 (fun X70 H locs hf Y => ?_)
      refine lv_aload hx hb d_Mo_replace_235 (lv_at hl 5 rfl) ?_
      refine gy_get (ci := 9) (v := Value.ref (b 56)) (C := "CommitLedgerModel$Version") (T := F_Ve) (N := 11) hx hb hts i_Ve hown hK Y gF_54 rfl 1 (by decide) kf_Mo_132 rfl d_Mo_replace_237 ?_
      refine lv_iload_n hx hb d_Mo_replace_240 rfl (lv_at hl 2 rfl) ?_
      refine lv_iconst (v := (-1)) hx hb d_Mo_replace_241 (by decide) ?_
      refine gy_iast hf hx hb hK Y 0 (fun _ => gF_56) ht0 d_Mo_replace_242 (fun X71 H locs hf Y => ?_)
      refine lv_aload hx hb d_Mo_replace_243 (lv_at hl 5 rfl) ?_
      refine gy_get (ci := 9) (v := Value.ref (b 58)) (C := "CommitLedgerModel$Version") (T := F_Ve) (N := 11) hx hb hts i_Ve hown hK Y gF_54 rfl 3 (by decide) kf_Mo_166 rfl d_Mo_replace_245 ?_
      refine lv_iload_n hx hb d_Mo_replace_248 rfl (lv_at hl 2 rfl) ?_
      refine lv_iconst (v := 0) hx hb d_Mo_replace_249 (by decide) ?_
      refine gy_iast hf hx hb hK Y 0 (fun _ => gF_58) ht0 d_Mo_replace_250 (fun X72 H locs hf Y => ?_)
      refine lv_iload_n hx hb d_Mo_replace_251 rfl (lv_at hl 3 rfl) ?_
      refine lv_iload_n hx hb d_Mo_replace_252 rfl (lv_at hl 2 rfl) ?_
      refine lv_isub hx hb d_Mo_replace_253 ?_
      refine lv_iconst (v := 1) hx hb d_Mo_replace_254 (by decide) ?_
      refine lv_isub hx hb d_Mo_replace_255 ?_
      refine lv_istore (lv' := [(10, Value.int ((a2 - a1) - 1)), (0, Value.ref (b 46)), (1, Value.int a1), (2, Value.int a2), (3, Value.int a3), (4, Value.ref (b 54)), (5, Value.int i5_67), (6, Value.int i6_67), (8, Value.int i8_67), (9, Value.int ((i7_67 - i5_67) - i6_67))]) hx hb d_Mo_replace_256 hl (by decide) rfl (fun ls hl => ?_)
      refine lv_iload_n hx hb d_Mo_replace_258 rfl (lv_at hl 3 rfl) ?_
      refine lv_istore (lv' := [(11, Value.int a2), (10, Value.int ((a2 - a1) - 1)), (0, Value.ref (b 46)), (1, Value.int a1), (2, Value.int a2), (3, Value.int a3), (4, Value.ref (b 54)), (5, Value.int i5_67), (6, Value.int i6_67), (8, Value.int i8_67), (9, Value.int ((i7_67 - i5_67) - i6_67))]) hx hb d_Mo_replace_259 hl (by decide) rfl (fun ls hl => ?_)
      replace hf := gU hf ho68
      refine gy_iter (fun s : gX × Int32 => s.1) (fun (s : gX × Int32) ls => lv_has ls 12 [(11, Value.int s.2), (1, Value.int a1), (2, Value.int a2), (4, Value.ref (b 54)), (5, Value.int i5_67), (6, Value.int i6_67), (9, Value.int ((i7_67 - i5_67) - i6_67)), (10, Value.int ((a2 - a1) - 1))]) ?_ gK (X72, a2) _ _ _ hf (lv_sub hl [0, 3, 4, 6, 7, 8, 10, 1] rfl) Y
      rintro ⟨X73, i11_73⟩ u73 H locs ls hf hl Y hk73 ho73
      have hl : lv_has ls 12 [(11, Value.int i11_73), (1, Value.int a1), (2, Value.int a2), (4, Value.ref (b 54)), (5, Value.int i5_67), (6, Value.int i6_67), (9, Value.int ((i7_67 - i5_67) - i6_67)), (10, Value.int ((a2 - a1) - 1))] := hl
      have Y : gy D t b A s.heap X0 X73 H locs := Y
      have hf : f_Mo_replace_261 X73 a1 a2 i5_67 i6_67 ((i7_67 - i5_67) - i6_67) ((a2 - a1) - 1) i11_73 = some u73 := hf
      unfold f_Mo_replace_261 at hf
      refine lv_iload hx hb d_Mo_replace_261 (lv_at hl 0 rfl) ?_
      refine lv_aload hx hb d_Mo_replace_263 (lv_at hl 3 rfl) ?_
      refine gy_get (ci := 9) (v := Value.int (X73.I 54 7)) (C := "CommitLedgerModel$Version") (T := F_Ve) (N := 11) hx hb hts i_Ve hown hK Y gF_54 rfl 7 (by decide) kf_Mo_122 rfl d_Mo_replace_265 ?_
      refine lv_icmp_ge (tgt := 334) hx hb d_Mo_replace_268 (by decide) (fun c268_74 => ?_) (fun c268_74 => ?_)
      · replace hf := gp_t c268_74 hf
        refine lv_aload hx hb d_Mo_replace_334 (lv_at hl 3 rfl) ?_
        refine gy_get (ci := 9) (v := Value.ref (b 57)) (C := "CommitLedgerModel$Version") (T := F_Ve) (N := 11) hx hb hts i_Ve hown hK Y gF_54 rfl 2 (by decide) kf_Mo_182 rfl d_Mo_replace_336 ?_
        refine lv_iload_n hx hb d_Mo_replace_339 rfl (lv_at hl 1 rfl) ?_
        refine lv_iconst (v := 1) hx hb d_Mo_replace_340 (by decide) ?_
        refine lv_iadd hx hb d_Mo_replace_341 ?_
        refine lv_iload hx hb d_Mo_replace_342 (lv_at hl 4 rfl) ?_
        refine lv_iload hx hb d_Mo_replace_344 (lv_at hl 5 rfl) ?_
        refine lv_iadd hx hb d_Mo_replace_346 ?_
        refine gy_iast hf hx hb hK Y 0 (fun _ => gF_57) ht0 d_Mo_replace_347 (fun X75 H locs hf Y => ?_)
        refine lv_iload_n hx hb d_Mo_replace_348 rfl (lv_at hl 2 rfl) ?_
        refine lv_iconst (v := 1) hx hb d_Mo_replace_349 (by decide) ?_
        refine lv_iadd hx hb d_Mo_replace_350 ?_
        refine lv_istore (lv' := [(11, Value.int (a2 + 1)), (1, Value.int a1), (2, Value.int a2), (4, Value.ref (b 54)), (5, Value.int i5_67), (6, Value.int i6_67), (9, Value.int ((i7_67 - i5_67) - i6_67)), (10, Value.int ((a2 - a1) - 1))]) hx hb d_Mo_replace_351 hl (by decide) rfl (fun ls hl => ?_)
        replace hf := gU hf ho73
        refine gy_iter (fun s : gX × Int32 => s.1) (fun (s : gX × Int32) ls => lv_has ls 12 [(11, Value.int s.2), (4, Value.ref (b 54)), (9, Value.int ((i7_67 - i5_67) - i6_67)), (10, Value.int ((a2 - a1) - 1))]) ?_ gK (X75, a2 + 1) _ _ _ hf (lv_sub hl [0, 3, 6, 7] rfl) Y
        rintro ⟨X76, i11_76⟩ u76 H locs ls hf hl Y hk76 ho76
        have hl : lv_has ls 12 [(11, Value.int i11_76), (4, Value.ref (b 54)), (9, Value.int ((i7_67 - i5_67) - i6_67)), (10, Value.int ((a2 - a1) - 1))] := hl
        have Y : gy D t b A s.heap X0 X76 H locs := Y
        have hf : f_Mo_replace_353 X76 ((i7_67 - i5_67) - i6_67) ((a2 - a1) - 1) i11_76 = some u76 := hf
        unfold f_Mo_replace_353 at hf
        refine lv_iload hx hb d_Mo_replace_353 (lv_at hl 0 rfl) ?_
        refine lv_aload hx hb d_Mo_replace_355 (lv_at hl 1 rfl) ?_
        refine gy_get (ci := 9) (v := Value.int (X76.I 54 7)) (C := "CommitLedgerModel$Version") (T := F_Ve) (N := 11) hx hb hts i_Ve hown hK Y gF_54 rfl 7 (by decide) kf_Mo_122 rfl d_Mo_replace_357 ?_
        refine lv_icmp_gt (tgt := 391) hx hb d_Mo_replace_360 (by decide) (fun c360_77 => ?_) (fun c360_77 => ?_)
        · replace hf := gp_t c360_77 hf
          refine lv_aload hx hb d_Mo_replace_391 (lv_at hl 1 rfl) ?_
          refine lv_dup hx hb d_Mo_replace_393 rfl ?_
          refine gy_get (ci := 9) (v := Value.int (X76.I 54 7)) (C := "CommitLedgerModel$Version") (T := F_Ve) (N := 11) hx hb hts i_Ve hown hK Y gF_54 rfl 7 (by decide) kf_Mo_122 rfl d_Mo_replace_394 ?_
          refine lv_iload hx hb d_Mo_replace_397 (lv_at hl 3 rfl) ?_
          refine lv_isub hx hb d_Mo_replace_399 ?_
          refine gy_put hf (ci := 9) (ty := .int) (C := "CommitLedgerModel$Version") (T := F_Ve) (N := 11) hx hb hts i_Ve t_Ve_ok n_Ve hown hK Y gF_54 rfl (by decide) kf_Mo_122 rfl (by decide +kernel) rfl rfl (Nat.le_of_ble_eq_true rfl) gF_54 d_Mo_replace_400 (fun X78 H locs hf Y => ?_)
          replace hf := gU hf ho76
          exact gy_vret hf hx hb hr hlocks hK Y (Nat.zero_le _) (Nat.zero_le _) d_Mo_replace_403
        · replace hf := gp_f c360_77 hf
          refine lv_aload hx hb d_Mo_replace_363 (lv_at hl 1 rfl) ?_
          refine gy_get (ci := 9) (v := Value.ref (b 57)) (C := "CommitLedgerModel$Version") (T := F_Ve) (N := 11) hx hb hts i_Ve hown hK Y gF_54 rfl 2 (by decide) kf_Mo_182 rfl d_Mo_replace_365 ?_
          refine lv_iload hx hb d_Mo_replace_368 (lv_at hl 0 rfl) ?_
          refine lv_iload hx hb d_Mo_replace_370 (lv_at hl 3 rfl) ?_
          refine lv_isub hx hb d_Mo_replace_372 ?_
          refine lv_aload hx hb d_Mo_replace_373 (lv_at hl 1 rfl) ?_
          refine gy_get (ci := 9) (v := Value.ref (b 57)) (C := "CommitLedgerModel$Version") (T := F_Ve) (N := 11) hx hb hts i_Ve hown hK Y gF_54 rfl 2 (by decide) kf_Mo_182 rfl d_Mo_replace_375 ?_
          refine lv_iload hx hb d_Mo_replace_378 (lv_at hl 0 rfl) ?_
          refine gy_iald hf hx hb hK Y 0 (fun _ => gF_57) ht0 d_Mo_replace_380 (fun _ hf => ?_)
          refine lv_iload hx hb d_Mo_replace_381 (lv_at hl 2 rfl) ?_
          refine lv_isub hx hb d_Mo_replace_383 ?_
          refine gy_iast hf hx hb hK Y 0 (fun _ => gF_57) ht0 d_Mo_replace_384 (fun X79 H locs hf Y => ?_)
          refine lv_iinc (v := i11_76 + 1) (lv' := [(11, Value.int (i11_76 + 1)), (4, Value.ref (b 54)), (9, Value.int ((i7_67 - i5_67) - i6_67)), (10, Value.int ((a2 - a1) - 1))]) hx hb d_Mo_replace_385 hl (k := 0) rfl (rfl) (by decide) rfl (fun ls hl => ?_)
          refine lv_goto (tgt := 353) hx hb d_Mo_replace_388 (by decide) ?_
          exact hk76 _ _ _ _ hf (lv_sub hl [0, 1, 2, 3] rfl) Y
      · replace hf := gp_f c268_74 hf
        refine lv_aload hx hb d_Mo_replace_271 (lv_at hl 3 rfl) ?_
        refine gy_get (ci := 9) (v := Value.ref (b 55)) (C := "CommitLedgerModel$Version") (T := F_Ve) (N := 11) hx hb hts i_Ve hown hK Y gF_54 rfl 0 (by decide) kf_Mo_125 rfl d_Mo_replace_273 ?_
        refine lv_iload hx hb d_Mo_replace_276 (lv_at hl 0 rfl) ?_
        refine lv_iload hx hb d_Mo_replace_278 (lv_at hl 7 rfl) ?_
        refine lv_isub hx hb d_Mo_replace_280 ?_
        refine lv_aload hx hb d_Mo_replace_281 (lv_at hl 3 rfl) ?_
        refine gy_get (ci := 9) (v := Value.ref (b 55)) (C := "CommitLedgerModel$Version") (T := F_Ve) (N := 11) hx hb hts i_Ve hown hK Y gF_54 rfl 0 (by decide) kf_Mo_125 rfl d_Mo_replace_283 ?_
        refine lv_iload hx hb d_Mo_replace_286 (lv_at hl 0 rfl) ?_
        refine gy_iald hf hx hb hK Y 0 (fun _ => gF_55) ht0 d_Mo_replace_288 (fun _ hf => ?_)
        refine gy_iast hf hx hb hK Y 0 (fun _ => gF_55) ht0 d_Mo_replace_289 (fun X80 H locs hf Y => ?_)
        refine lv_aload hx hb d_Mo_replace_290 (lv_at hl 3 rfl) ?_
        refine gy_get (ci := 9) (v := Value.ref (b 56)) (C := "CommitLedgerModel$Version") (T := F_Ve) (N := 11) hx hb hts i_Ve hown hK Y gF_54 rfl 1 (by decide) kf_Mo_132 rfl d_Mo_replace_292 ?_
        refine lv_iload hx hb d_Mo_replace_295 (lv_at hl 0 rfl) ?_
        refine lv_iload hx hb d_Mo_replace_297 (lv_at hl 7 rfl) ?_
        refine lv_isub hx hb d_Mo_replace_299 ?_
        refine lv_aload hx hb d_Mo_replace_300 (lv_at hl 3 rfl) ?_
        refine gy_get (ci := 9) (v := Value.ref (b 56)) (C := "CommitLedgerModel$Version") (T := F_Ve) (N := 11) hx hb hts i_Ve hown hK Y gF_54 rfl 1 (by decide) kf_Mo_132 rfl d_Mo_replace_302 ?_
        refine lv_iload hx hb d_Mo_replace_305 (lv_at hl 0 rfl) ?_
        refine gy_iald hf hx hb hK Y 0 (fun _ => gF_56) ht0 d_Mo_replace_307 (fun _ hf => ?_)
        refine gy_iast hf hx hb hK Y 0 (fun _ => gF_56) ht0 d_Mo_replace_308 (fun X81 H locs hf Y => ?_)
        refine lv_aload hx hb d_Mo_replace_309 (lv_at hl 3 rfl) ?_
        refine gy_get (ci := 9) (v := Value.ref (b 58)) (C := "CommitLedgerModel$Version") (T := F_Ve) (N := 11) hx hb hts i_Ve hown hK Y gF_54 rfl 3 (by decide) kf_Mo_166 rfl d_Mo_replace_311 ?_
        refine lv_iload hx hb d_Mo_replace_314 (lv_at hl 0 rfl) ?_
        refine lv_iload hx hb d_Mo_replace_316 (lv_at hl 7 rfl) ?_
        refine lv_isub hx hb d_Mo_replace_318 ?_
        refine lv_aload hx hb d_Mo_replace_319 (lv_at hl 3 rfl) ?_
        refine gy_get (ci := 9) (v := Value.ref (b 58)) (C := "CommitLedgerModel$Version") (T := F_Ve) (N := 11) hx hb hts i_Ve hown hK Y gF_54 rfl 3 (by decide) kf_Mo_166 rfl d_Mo_replace_321 ?_
        refine lv_iload hx hb d_Mo_replace_324 (lv_at hl 0 rfl) ?_
        refine gy_iald hf hx hb hK Y 0 (fun _ => gF_58) ht0 d_Mo_replace_326 (fun _ hf => ?_)
        refine gy_iast hf hx hb hK Y 0 (fun _ => gF_58) ht0 d_Mo_replace_327 (fun X82 H locs hf Y => ?_)
        refine lv_iinc (v := i11_73 + 1) (lv' := [(11, Value.int (i11_73 + 1)), (1, Value.int a1), (2, Value.int a2), (4, Value.ref (b 54)), (5, Value.int i5_67), (6, Value.int i6_67), (9, Value.int ((i7_67 - i5_67) - i6_67)), (10, Value.int ((a2 - a1) - 1))]) hx hb d_Mo_replace_328 hl (k := 0) rfl (rfl) (by decide) rfl (fun ls hl => ?_)
        refine lv_goto (tgt := 261) hx hb d_Mo_replace_331 (by decide) ?_
        exact hk73 _ _ _ _ hf (lv_sub hl [0, 1, 2, 3, 4, 5, 6, 7] rfl) Y
    · replace hf := gp_f c156_69 hf
      refine lv_aload hx hb d_Mo_replace_159 (lv_at hl 5 rfl) ?_
      refine gy_get (ci := 9) (v := Value.ref (b 59)) (C := "CommitLedgerModel$Version") (T := F_Ve) (N := 11) hx hb hts i_Ve hown hK Y gF_54 rfl 4 (by decide) kf_Mo_185 rfl d_Mo_replace_161 ?_
      refine lv_iload hx hb d_Mo_replace_164 (lv_at hl 0 rfl) ?_
      refine lv_iload hx hb d_Mo_replace_166 (lv_at hl 9 rfl) ?_
      refine lv_isub hx hb d_Mo_replace_168 ?_
      refine lv_aload hx hb d_Mo_replace_169 (lv_at hl 5 rfl) ?_
      refine gy_get (ci := 9) (v := Value.ref (b 59)) (C := "CommitLedgerModel$Version") (T := F_Ve) (N := 11) hx hb hts i_Ve hown hK Y gF_54 rfl 4 (by decide) kf_Mo_185 rfl d_Mo_replace_171 ?_
      refine lv_iload hx hb d_Mo_replace_174 (lv_at hl 0 rfl) ?_
      refine gy_iald hf hx hb hK Y 0 (fun _ => gF_59) ht0 d_Mo_replace_176 (fun _ hf => ?_)
      refine gy_iast hf hx hb hK Y 0 (fun _ => gF_59) ht0 d_Mo_replace_177 (fun X83 H locs hf Y => ?_)
      refine lv_aload hx hb d_Mo_replace_178 (lv_at hl 5 rfl) ?_
      refine gy_get (ci := 9) (v := Value.ref (b 60)) (C := "CommitLedgerModel$Version") (T := F_Ve) (N := 11) hx hb hts i_Ve hown hK Y gF_54 rfl 5 (by decide) kf_Mo_188 rfl d_Mo_replace_180 ?_
      refine lv_iload hx hb d_Mo_replace_183 (lv_at hl 0 rfl) ?_
      refine lv_iload hx hb d_Mo_replace_185 (lv_at hl 9 rfl) ?_
      refine lv_isub hx hb d_Mo_replace_187 ?_
      refine lv_aload hx hb d_Mo_replace_188 (lv_at hl 5 rfl) ?_
      refine gy_get (ci := 9) (v := Value.ref (b 60)) (C := "CommitLedgerModel$Version") (T := F_Ve) (N := 11) hx hb hts i_Ve hown hK Y gF_54 rfl 5 (by decide) kf_Mo_188 rfl d_Mo_replace_190 ?_
      refine lv_iload hx hb d_Mo_replace_193 (lv_at hl 0 rfl) ?_
      refine gy_zald hf hx hb hK Y 1 (fun _ => gF_60) ht1 d_Mo_replace_195 (fun _ hf => ?_)
      refine gy_zast hf hx hb hK Y 1 (fun _ => gF_60) ht1 d_Mo_replace_196 (fun X84 H locs hf Y => ?_)
      refine lv_aload hx hb d_Mo_replace_197 (lv_at hl 5 rfl) ?_
      refine gy_get (ci := 9) (v := Value.ref (b 61)) (C := "CommitLedgerModel$Version") (T := F_Ve) (N := 11) hx hb hts i_Ve hown hK Y gF_54 rfl 6 (by decide) kf_Mo_191 rfl d_Mo_replace_199 ?_
      refine lv_iload hx hb d_Mo_replace_202 (lv_at hl 0 rfl) ?_
      refine lv_iload hx hb d_Mo_replace_204 (lv_at hl 9 rfl) ?_
      refine lv_isub hx hb d_Mo_replace_206 ?_
      refine lv_aload hx hb d_Mo_replace_207 (lv_at hl 5 rfl) ?_
      refine gy_get (ci := 9) (v := Value.ref (b 61)) (C := "CommitLedgerModel$Version") (T := F_Ve) (N := 11) hx hb hts i_Ve hown hK Y gF_54 rfl 6 (by decide) kf_Mo_191 rfl d_Mo_replace_209 ?_
      refine lv_iload hx hb d_Mo_replace_212 (lv_at hl 0 rfl) ?_
      refine gy_zald hf hx hb hK Y 1 (fun _ => gF_61) ht1 d_Mo_replace_214 (fun _ hf => ?_)
      refine gy_zast hf hx hb hK Y 1 (fun _ => gF_61) ht1 d_Mo_replace_215 (fun X85 H locs hf Y => ?_)
      refine lv_iinc (v := i10_68 + 1) (lv' := [(10, Value.int (i10_68 + 1)), (0, Value.ref (b 46)), (1, Value.int a1), (2, Value.int a2), (3, Value.int a3), (4, Value.ref (b 54)), (5, Value.int i5_67), (6, Value.int i6_67), (8, Value.int i8_67), (9, Value.int ((i7_67 - i5_67) - i6_67))]) hx hb d_Mo_replace_216 hl (k := 0) rfl (rfl) (by decide) rfl (fun ls hl => ?_)
      refine lv_goto (tgt := 152) hx hb d_Mo_replace_219 (by decide) ?_
      exact hk68 _ _ _ _ hf (lv_sub hl [0, 1, 2, 3, 4, 5, 6, 7, 8, 9] rfl) Y
  unfold f_Mo_replace at hf
  refine lv_aload_n hx hb d_Mo_replace_0 rfl (lv_at hl 0 rfl) ?_
  refine gy_get (ci := 8) (v := Value.ref (b 54)) (C := "CommitLedgerModel") (T := F_Mo) (N := 35) hx hb hts i_Mo hown hK Y gF_46 rfl 15 (by decide) kf_Mo_40 rfl d_Mo_replace_1 ?_
  refine lv_astore (lv' := [(4, Value.ref (b 54)), (0, Value.ref (b 46)), (1, Value.int a1), (2, Value.int a2), (3, Value.int a3)]) hx hb d_Mo_replace_4 hl (by decide) rfl (fun ls hl => ?_)
  refine lv_aload hx hb d_Mo_replace_6 (lv_at hl 0 rfl) ?_
  refine gy_get (ci := 9) (v := Value.ref (b 57)) (C := "CommitLedgerModel$Version") (T := F_Ve) (N := 11) hx hb hts i_Ve hown hK Y gF_54 rfl 2 (by decide) kf_Mo_182 rfl d_Mo_replace_8 ?_
  refine lv_iload_n hx hb d_Mo_replace_11 rfl (lv_at hl 2 rfl) ?_
  refine gy_iald hf hx hb hK Y 0 (fun _ => gF_57) ht0 d_Mo_replace_12 (fun _ hf => ?_)
  refine lv_istore (lv' := [(5, Value.int (X0.I 57 (gn a1))), (4, Value.ref (b 54)), (0, Value.ref (b 46)), (1, Value.int a1), (2, Value.int a2), (3, Value.int a3)]) hx hb d_Mo_replace_13 hl (by decide) rfl (fun ls hl => ?_)
  refine lv_iconst (v := 0) hx hb d_Mo_replace_15 (by decide) ?_
  refine lv_istore (lv' := [(6, Value.int 0), (5, Value.int (X0.I 57 (gn a1))), (4, Value.ref (b 54)), (0, Value.ref (b 46)), (1, Value.int a1), (2, Value.int a2), (3, Value.int a3)]) hx hb d_Mo_replace_16 hl (by decide) rfl (fun ls hl => ?_)
  refine lv_aload hx hb d_Mo_replace_18 (lv_at hl 2 rfl) ?_
  refine gy_get (ci := 9) (v := Value.ref (b 57)) (C := "CommitLedgerModel$Version") (T := F_Ve) (N := 11) hx hb hts i_Ve hown hK Y gF_54 rfl 2 (by decide) kf_Mo_182 rfl d_Mo_replace_20 ?_
  refine lv_iload_n hx hb d_Mo_replace_23 rfl (lv_at hl 5 rfl) ?_
  refine gy_iald hf hx hb hK Y 0 (fun _ => gF_57) ht0 d_Mo_replace_24 (fun _ hf => ?_)
  refine lv_istore (lv' := [(7, Value.int (X0.I 57 (gn a2))), (6, Value.int 0), (5, Value.int (X0.I 57 (gn a1))), (4, Value.ref (b 54)), (0, Value.ref (b 46)), (1, Value.int a1), (2, Value.int a2), (3, Value.int a3)]) hx hb d_Mo_replace_25 hl (by decide) rfl (fun ls hl => ?_)
  refine lv_aload hx hb d_Mo_replace_27 (lv_at hl 3 rfl) ?_
  obtain ⟨x86, X86, hF86, hf⟩ := gCi_el hf
  refine gy_callI (rm := { frames := 1, cells := 0, slots := 0, locals := 12 }) (ig := .invokevirtual 200) (av := [Value.ref (b 54)]) Y (fun ws h hS hw => K_Ve_docs l htr D tys z _ ws h hS t ht b X0 hw 54 (by decide) (gR.i x86, X86) hF86) (gx_invV (As := []) (rest := []) hx hb hown hts km_Mo_200 kI_Ve_docs kV_Ve_docs kc_Ve_docs (by decide) (show (parseMethodDescriptor y_Ve_docs.desc).map (fun d => d.parameters.length) = some 0 by decide +kernel) (gy_recv (ci := 9) hK Y rfl gF_54) rfl rfl d_Mo_replace_29) (gx_cw (z := 0) hts kc_Ve_docs kN_Ve rfl rfl ⟨Nat.le_of_ble_eq_true rfl, Nat.le_of_ble_eq_true rfl⟩) hb hml hz hK hY hAz hA hl.1 (lv_room (Nat.le_of_ble_eq_true rfl)) d_Mo_replace_29 ⟨Nat.zero_le _, Nat.zero_le _⟩ (fun H locs Y => ?_)
  refine lv_istore (lv' := [(8, Value.int x86), (7, Value.int (X0.I 57 (gn a2))), (6, Value.int 0), (5, Value.int (X0.I 57 (gn a1))), (4, Value.ref (b 54)), (0, Value.ref (b 46)), (1, Value.int a1), (2, Value.int a2), (3, Value.int a3)]) hx hb d_Mo_replace_32 hl (by decide) rfl (fun ls hl => ?_)
  refine lv_iload hx hb d_Mo_replace_34 (lv_at hl 3 rfl) ?_
  refine lv_istore (lv' := [(9, Value.int (X0.I 57 (gn a1))), (8, Value.int x86), (7, Value.int (X0.I 57 (gn a2))), (6, Value.int 0), (5, Value.int (X0.I 57 (gn a1))), (4, Value.ref (b 54)), (0, Value.ref (b 46)), (1, Value.int a1), (2, Value.int a2), (3, Value.int a3)]) hx hb d_Mo_replace_36 hl (by decide) rfl (fun ls hl => ?_)
  refine gy_iter (fun s : gX × Int32 × Int32 => s.1) (fun (s : gX × Int32 × Int32) ls => lv_has ls 12 [(6, Value.int s.2.1), (9, Value.int s.2.2), (0, Value.ref (b 46)), (1, Value.int a1), (2, Value.int a2), (3, Value.int a3), (4, Value.ref (b 54)), (5, Value.int (X0.I 57 (gn a1))), (7, Value.int (X0.I 57 (gn a2))), (8, Value.int x86)]) ?_ gK (X86, 0, X0.I 57 (gn a1)) _ _ _ hf (lv_sub hl [3, 0, 6, 7, 8, 9, 5, 4, 2, 1] rfl) Y
  rintro ⟨X87, i6_87, i9_87⟩ u87 H locs ls hf hl Y hk87 ho87
  have hl : lv_has ls 12 [(6, Value.int i6_87), (9, Value.int i9_87), (0, Value.ref (b 46)), (1, Value.int a1), (2, Value.int a2), (3, Value.int a3), (4, Value.ref (b 54)), (5, Value.int (X0.I 57 (gn a1))), (7, Value.int (X0.I 57 (gn a2))), (8, Value.int x86)] := hl
  have Y : gy D t b A s.heap X0 X87 H locs := Y
  have hf : f_Mo_replace_38 X87 a1 a2 a3 (X0.I 57 (gn a1)) (X0.I 57 (gn a2)) x86 i6_87 i9_87 = some u87 := hf
  refine gy_cut (pcJ := 132) Y (fun s : gX × Int32 × Int32 => f_Mo_replace_132 s.1 a1 a2 a3 (X0.I 57 (gn a1)) s.2.1 (X0.I 57 (gn a2)) x86 s.2.2) u87 (fun s => s.1) (fun s ls => lv_has ls 12 [(6, Value.int s.2.1), (9, Value.int s.2.2), (0, Value.ref (b 46)), (1, Value.int a1), (2, Value.int a2), (3, Value.int a3), (4, Value.ref (b 54)), (5, Value.int (X0.I 57 (gn a1))), (7, Value.int (X0.I 57 (gn a2))), (8, Value.int x86)]) (fun s => []) ?_ (fun J132 => ?_)
  · rintro ⟨X88, i6_88, i9_88⟩ H locs ls hf hl Y
    have hl : lv_has ls 12 [(6, Value.int i6_88), (9, Value.int i9_88), (0, Value.ref (b 46)), (1, Value.int a1), (2, Value.int a2), (3, Value.int a3), (4, Value.ref (b 54)), (5, Value.int (X0.I 57 (gn a1))), (7, Value.int (X0.I 57 (gn a2))), (8, Value.int x86)] := hl
    have Y : gy D t b A s.heap X0 X88 H locs := Y
    have hf : f_Mo_replace_132 X88 a1 a2 a3 (X0.I 57 (gn a1)) i6_88 (X0.I 57 (gn a2)) x86 i9_88 = some u87 := hf
    unfold f_Mo_replace_132 at hf
    refine lv_iinc (v := i9_88 + 1) (lv' := [(9, Value.int (i9_88 + 1)), (6, Value.int i6_88), (0, Value.ref (b 46)), (1, Value.int a1), (2, Value.int a2), (3, Value.int a3), (4, Value.ref (b 54)), (5, Value.int (X0.I 57 (gn a1))), (7, Value.int (X0.I 57 (gn a2))), (8, Value.int x86)]) hx hb d_Mo_replace_132 hl (k := 1) rfl (rfl) (by decide) rfl (fun ls hl => ?_)
    refine lv_goto (tgt := 38) hx hb d_Mo_replace_135 (by decide) ?_
    exact hk87 _ _ _ _ hf (lv_sub hl [1, 0, 2, 3, 4, 5, 6, 7, 8, 9] rfl) Y
  unfold f_Mo_replace_38 at hf
  refine lv_iload hx hb d_Mo_replace_38 (lv_at hl 1 rfl) ?_
  refine lv_iload hx hb d_Mo_replace_40 (lv_at hl 8 rfl) ?_
  refine lv_icmp_ge (tgt := 138) hx hb d_Mo_replace_42 (by decide) (fun c42_89 => ?_) (fun c42_89 => ?_)
  · replace hf := gp_t c42_89 hf
    replace hf := gU hf ho87
    exact J138 (X87, X0.I 57 (gn a1), i6_87, X0.I 57 (gn a2), x86) _ _ _ hf (lv_sub hl [7, 0, 8, 9, 2, 3, 4, 5, 6] rfl) Y
  · replace hf := gp_f c42_89 hf
    refine lv_iload hx hb d_Mo_replace_45 (lv_at hl 0 rfl) ?_
    refine lv_aload_n hx hb d_Mo_replace_47 rfl (lv_at hl 2 rfl) ?_
    refine gy_get (ci := 8) (v := Value.ref (b 80)) (C := "CommitLedgerModel") (T := F_Mo) (N := 35) hx hb hts i_Mo hown hK Y gF_46 rfl 27 (by decide) kf_Mo_67 rfl d_Mo_replace_48 ?_
    refine lv_iload_n hx hb d_Mo_replace_51 rfl (lv_at hl 5 rfl) ?_
    refine gy_iald hf hx hb hK Y 0 (fun _ => gF_80) ht0 d_Mo_replace_52 (fun _ hf => ?_)
    refine lv_icmp_ge (tgt := 138) hx hb d_Mo_replace_53 (by decide) (fun c53_90 => ?_) (fun c53_90 => ?_)
    · replace hf := gp_t c53_90 hf
      replace hf := gU hf ho87
      exact J138 (X87, X0.I 57 (gn a1), i6_87, X0.I 57 (gn a2), x86) _ _ _ hf (lv_sub hl [7, 0, 8, 9, 2, 3, 4, 5, 6] rfl) Y
    · replace hf := gp_f c53_90 hf
      refine lv_aload hx hb d_Mo_replace_56 (lv_at hl 6 rfl) ?_
      refine gy_get (ci := 9) (v := Value.ref (b 59)) (C := "CommitLedgerModel$Version") (T := F_Ve) (N := 11) hx hb hts i_Ve hown hK Y gF_54 rfl 4 (by decide) kf_Mo_185 rfl d_Mo_replace_58 ?_
      refine lv_iload hx hb d_Mo_replace_61 (lv_at hl 1 rfl) ?_
      refine gy_iald hf hx hb hK Y 0 (fun _ => gF_59) ht0 d_Mo_replace_63 (fun _ hf => ?_)
      refine lv_aload_n hx hb d_Mo_replace_64 rfl (lv_at hl 2 rfl) ?_
      refine gy_get (ci := 8) (v := Value.ref (b 121)) (C := "CommitLedgerModel") (T := F_Mo) (N := 35) hx hb hts i_Mo hown hK Y gF_46 rfl 26 (by decide) kf_Mo_64 rfl d_Mo_replace_65 ?_
      refine lv_iload_n hx hb d_Mo_replace_68 rfl (lv_at hl 5 rfl) ?_
      refine gy_aaldA hf hx hb hK Y 8 gF_121 ht8 d_Mo_replace_69 (fun hf => ?_)
      refine lv_iload hx hb d_Mo_replace_70 (lv_at hl 0 rfl) ?_
      obtain ⟨n91, e91, hf⟩ := gM_el hf
      refine W.eq (g2 := F0 m 72 ls [Value.int i6_87, Value.ref (b n91), Value.int (X87.I 59 (gn i9_87))]) (by rw [e91] <;> rfl) ?_
      obtain ⟨hv92, hf⟩ := gp_g hf
      refine gy_iald hf hx hb hK Y 0 (fun _ => (gF_Ro hv92)) ht0 d_Mo_replace_72 (fun _ hf => ?_)
      refine lv_icmp_eq (tgt := 79) hx hb d_Mo_replace_73 (by decide) (fun c73_93 => ?_) (fun c73_93 => ?_)
      · replace hf := gp_t c73_93 hf
        refine lv_aload hx hb d_Mo_replace_79 (lv_at hl 6 rfl) ?_
        refine gy_get (ci := 9) (v := Value.ref (b 59)) (C := "CommitLedgerModel$Version") (T := F_Ve) (N := 11) hx hb hts i_Ve hown hK Y gF_54 rfl 4 (by decide) kf_Mo_185 rfl d_Mo_replace_81 ?_
        refine lv_iload hx hb d_Mo_replace_84 (lv_at hl 7 rfl) ?_
        refine lv_iload hx hb d_Mo_replace_86 (lv_at hl 0 rfl) ?_
        refine lv_iadd hx hb d_Mo_replace_88 ?_
        refine lv_aload hx hb d_Mo_replace_89 (lv_at hl 6 rfl) ?_
        refine gy_get (ci := 9) (v := Value.ref (b 59)) (C := "CommitLedgerModel$Version") (T := F_Ve) (N := 11) hx hb hts i_Ve hown hK Y gF_54 rfl 4 (by decide) kf_Mo_185 rfl d_Mo_replace_91 ?_
        refine lv_iload hx hb d_Mo_replace_94 (lv_at hl 1 rfl) ?_
        refine gy_iald hf hx hb hK Y 0 (fun _ => gF_59) ht0 d_Mo_replace_96 (fun _ hf => ?_)
        refine gy_iast hf hx hb hK Y 0 (fun _ => gF_59) ht0 d_Mo_replace_97 (fun X94 H locs hf Y => ?_)
        refine lv_aload hx hb d_Mo_replace_98 (lv_at hl 6 rfl) ?_
        refine gy_get (ci := 9) (v := Value.ref (b 60)) (C := "CommitLedgerModel$Version") (T := F_Ve) (N := 11) hx hb hts i_Ve hown hK Y gF_54 rfl 5 (by decide) kf_Mo_188 rfl d_Mo_replace_100 ?_
        refine lv_iload hx hb d_Mo_replace_103 (lv_at hl 7 rfl) ?_
        refine lv_iload hx hb d_Mo_replace_105 (lv_at hl 0 rfl) ?_
        refine lv_iadd hx hb d_Mo_replace_107 ?_
        refine lv_aload hx hb d_Mo_replace_108 (lv_at hl 6 rfl) ?_
        refine gy_get (ci := 9) (v := Value.ref (b 60)) (C := "CommitLedgerModel$Version") (T := F_Ve) (N := 11) hx hb hts i_Ve hown hK Y gF_54 rfl 5 (by decide) kf_Mo_188 rfl d_Mo_replace_110 ?_
        refine lv_iload hx hb d_Mo_replace_113 (lv_at hl 1 rfl) ?_
        refine gy_zald hf hx hb hK Y 1 (fun _ => gF_60) ht1 d_Mo_replace_115 (fun _ hf => ?_)
        refine gy_zast hf hx hb hK Y 1 (fun _ => gF_60) ht1 d_Mo_replace_116 (fun X95 H locs hf Y => ?_)
        refine lv_aload hx hb d_Mo_replace_117 (lv_at hl 6 rfl) ?_
        refine gy_get (ci := 9) (v := Value.ref (b 61)) (C := "CommitLedgerModel$Version") (T := F_Ve) (N := 11) hx hb hts i_Ve hown hK Y gF_54 rfl 6 (by decide) kf_Mo_191 rfl d_Mo_replace_119 ?_
        refine lv_iload hx hb d_Mo_replace_122 (lv_at hl 7 rfl) ?_
        refine lv_iload hx hb d_Mo_replace_124 (lv_at hl 0 rfl) ?_
        refine lv_iadd hx hb d_Mo_replace_126 ?_
        refine lv_iconst (v := 1) hx hb d_Mo_replace_127 (by decide) ?_
        refine gy_zast hf hx hb hK Y 1 (fun _ => gF_61) ht1 d_Mo_replace_128 (fun X96 H locs hf Y => ?_)
        refine lv_iinc (v := i6_87 + 1) (lv' := [(6, Value.int (i6_87 + 1)), (9, Value.int i9_87), (0, Value.ref (b 46)), (1, Value.int a1), (2, Value.int a2), (3, Value.int a3), (4, Value.ref (b 54)), (5, Value.int (X0.I 57 (gn a1))), (7, Value.int (X0.I 57 (gn a2))), (8, Value.int x86)]) hx hb d_Mo_replace_129 hl (k := 0) rfl (rfl) (by decide) rfl (fun ls hl => ?_)
        exact J132 (X96, i6_87 + 1, i9_87) _ _ _ hf (lv_sub hl [0, 1, 2, 3, 4, 5, 6, 7, 8, 9] rfl) Y
      · replace hf := gp_f c73_93 hf
        refine lv_goto (tgt := 132) hx hb d_Mo_replace_76 (by decide) ?_
        exact J132 (X87, i6_87, i9_87) _ _ _ hf (lv_sub hl [0, 1, 2, 3, 4, 5, 6, 7, 8, 9] rfl) Y

def f_Mo_ending_111 (X : gX) (i5 : Int32) : Option ((gX × Int32) ⊕ (gR × gX)) := (if (X.I 46 30) ≤ (i5 + 1) then gB (X.w 46 30 ((X.I 46 30) - 1)) (fun X10 => gCv (f_Ve_tidy X10 54) (fun X11 => gLf (some (gR.v, X11)))) else (if gIn i5 4 then (if gIn (i5 + 1) 4 then (if gIn i5 4 then (if gOr (X.G 121 (gn (i5 + 1))) then gB (X.g 121 (gn i5) (X.G 121 (gn (i5 + 1)))) (fun X12 => (if gIn (i5 + 1) 4 then (if gOr (X.G 121 (gn i5)) then gB (X12.g 121 (gn (i5 + 1)) (X.G 121 (gn i5))) (fun X13 => (if gIn (i5 + 1) 4 then (if gIn i5 4 then gB (X13.w 80 (gn i5) (X13.I 80 (gn (i5 + 1)))) (fun X14 => (if gIn (i5 + 1) 4 then (if gIn i5 4 then gB (X14.w 81 (gn i5) (X14.I 81 (gn (i5 + 1)))) (fun X15 => (if gIn (i5 + 1) 4 then (if gIn i5 4 then gB (X15.w 82 (gn i5) (X15.I 82 (gn (i5 + 1)))) (fun X16 => some (Sum.inl (X16, i5 + 1))) else none) else none)) else none) else none)) else none) else none)) else none) else none)) else none) else none) else none) else none))
def f_Mo_ending_108 (X : gX) (i1 : Int32) : Option (gR × gX) := gI (fun s : gX × Int32 => f_Mo_ending_111 s.1 s.2) gK (X, i1)
def f_Mo_ending_84 (X : gX) (i1 : Int32) (i4 : Int32) (i5 : Int32) : Option ((gX × Int32) ⊕ (gR × gX)) := (if i4 ≤ i5 then gLf (f_Mo_ending_108 X i1) else (if gIn i5 4097 then gB (X.w 58 (gn i5) 0) (fun X25 => some (Sum.inl (X25, i5 + 1))) else none))
def f_Mo_ending_66 (X : gX) (i1 : Int32) (i2 : Int32) (i3 : Int32) (i4 : Int32) : Option (gR × gX) := (if i2 = (0 : Int32) then gI (fun s : gX × Int32 => f_Mo_ending_84 s.1 i1 i4 s.2) gK (X, i3) else gCv (f_Mo_replace X i3 i4 i1) (fun X28 => f_Mo_ending_108 X28 i1))
def f_Mo_ending_29 (X : gX) (i1 : Int32) (i2 : Int32) (i3 : Int32) (i4 : Int32) : Option ((Int32) ⊕ (gR × gX)) := (if (X.I 54 7) ≤ i4 then gLf (f_Mo_ending_66 X i1 i2 i3 i4) else (if gIn i4 4097 then (if gIn i1 4 then (if (X.I 58 (gn i4)) = (X.I 81 (gn i1)) then some (Sum.inl (i4 + 1)) else gLf (f_Mo_ending_66 X i1 i2 i3 i4)) else none) else none))
def f_Mo_ending_2 (X : gX) (i1 : Int32) (i2 : Int32) (i3 : Int32) : Option ((Int32) ⊕ (gR × gX)) := (if gIn i3 4097 then (if gIn i1 4 then (if (X.I 58 (gn i3)) = (X.I 81 (gn i1)) then gLf (gI (fun s : Int32 => f_Mo_ending_29 X i1 i2 i3 s) gK i3) else some (Sum.inl (i3 + 1))) else none) else none)
def f_Mo_ending (X0 : gX) (a1 : Int32) (a2 : Int32) : Option (gR × gX) := gI (fun s : Int32 => f_Mo_ending_2 X0 a1 a2 s) gK 0
set_option maxHeartbeats 4000000 in
set_option maxRecDepth 100000 in
theorem K_Mo_ending (l : Launch) (htr : l.stackTraces = false) (D : va_G) (tys : List (ClassId × FieldType)) (z sz : Nat) (ws : va_W) (h : gm_M) (hM : gm_S h ws) (t : Nat → ClassId) (ht : gTy t tys) (b : Nat → Nat) (X0 : gX) (hw : gw D t b X0 h) (a1 : Int32) (a2 : Int32) (o : gR × gX) (hf : f_Mo_ending X0 a1 a2 = some o) : gx_Met l y_Mo_ending [Cond.code y_Mo_ending b_Mo_ending 7 none] { frames := 4, cells := 0, slots := 0, locals := 76 } (gx_P z sz D classes tys ws [Value.ref (b 46), Value.int a1, Value.int a2]) (gx_Q D classes tys (va_A ws sz) (gPo D t b X0 o)) (0) (0) (va_A ws sz) := by
  refine gx_ofW (cc := b_Mo_ending) (maxL := 7) (ret := none) (by decide) rfl ?_
  intro p e s m args below meth c s₁ B hml hv
  obtain ⟨rfl, hsz, hz, hP, hK, hD0, hY⟩ := hv
  have hx := B.exec
  have hb := B.bytes
  have hr := B.returns
  have hts := hY.hts (#[Value.ref (b 46), Value.int a1, Value.int a2] : Array Value)
  have hown : s.vm.findClass "CommitLedgerModel" = some m.cls := findClass_of_methodNamed B.named
  have hlocks := B.notSynchronized
  subst hsz
  have hAz := gx_az hD0 hz
  have hD := hD0.self (sz := s.heap.size)
  have hA : ∀ q : Nat, s.heap.size ≤ q → va_A ws s.heap.size q := fun q h => Or.inr h
  generalize va_A ws s.heap.size = A at hD hA hAz ⊢
  have Y : gy D t b A s.heap X0 X0 s.heap [] := ⟨h, ⟨ws, hM, hP, hD, va_S.rf⟩, hw, gEq.rf⟩
  clear hP hD hM hD0 hw
  obtain ⟨ht0, ht1, ht2, ht3, ht4, ht5, ht6, ht7, ht8⟩ := id ht
  have hl := lv_entry ([Value.ref (b 46), Value.int a1, Value.int a2]) (n := 7) (Nat.le_of_ble_eq_true rfl)
  rw [lg_entry_eq]
  generalize (lg_sl ([Value.ref (b 46), Value.int a1, Value.int a2]) ++ List.replicate (7 - (lg_sl ([Value.ref (b 46), Value.int a1, Value.int a2])).length) Slot.unset).toArray = ls at hl ⊢
  have hl : lv_has ls 7 [(0, Value.ref (b 46)), (1, Value.int a1), (2, Value.int a2)] := hl
  refine gy_cut (pcJ := 108) Y (fun s : gX => f_Mo_ending_108 s a1) o (fun s => s) (fun s ls => lv_has ls 7 [(0, Value.ref (b 46)), (1, Value.int a1)]) (fun s => []) ?_ (fun J108 => ?_)
  · rintro X36 H locs ls hf hl Y
    have hl : lv_has ls 7 [(0, Value.ref (b 46)), (1, Value.int a1)] := hl
    have Y : gy D t b A s.heap X0 X36 H locs := Y
    have hf : f_Mo_ending_108 X36 a1 = some o := hf
    unfold f_Mo_ending_108 at hf
    refine lv_iload_n hx hb d_Mo_ending_108 rfl (lv_at hl 1 rfl) ?_
    refine lv_istore (lv' := [(5, Value.int a1), (0, Value.ref (b 46)), (1, Value.int a1)]) hx hb d_Mo_ending_109 hl (by decide) rfl (fun ls hl => ?_)
    refine gy_iter (fun s : gX × Int32 => s.1) (fun (s : gX × Int32) ls => lv_has ls 7 [(5, Value.int s.2), (0, Value.ref (b 46))]) ?_ gK (X36, a1) _ _ _ hf (lv_sub hl [0, 1] rfl) Y
    rintro ⟨X37, i5_37⟩ u37 H locs ls hf hl Y hk37 ho37
    have hl : lv_has ls 7 [(5, Value.int i5_37), (0, Value.ref (b 46))] := hl
    have Y : gy D t b A s.heap X0 X37 H locs := Y
    have hf : f_Mo_ending_111 X37 i5_37 = some u37 := hf
    unfold f_Mo_ending_111 at hf
    refine lv_iload hx hb d_Mo_ending_111 (lv_at hl 0 rfl) ?_
    refine lv_iconst (v := 1) hx hb d_Mo_ending_113 (by decide) ?_
    refine lv_iadd hx hb d_Mo_ending_114 ?_
    refine lv_aload_n hx hb d_Mo_ending_115 rfl (lv_at hl 1 rfl) ?_
    refine gy_get (ci := 8) (v := Value.int (X37.I 46 30)) (C := "CommitLedgerModel") (T := F_Mo) (N := 35) hx hb hts i_Mo hown hK Y gF_46 rfl 30 (by decide) kf_Mo_106 rfl d_Mo_ending_116 ?_
    refine lv_icmp_ge (tgt := 212) hx hb d_Mo_ending_119 (by decide) (fun c119_38 => ?_) (fun c119_38 => ?_)
    · replace hf := gp_t c119_38 hf
      refine lv_aload_n hx hb d_Mo_ending_212 rfl (lv_at hl 1 rfl) ?_
      refine lv_dup hx hb d_Mo_ending_213 rfl ?_
      refine gy_get (ci := 8) (v := Value.int (X37.I 46 30)) (C := "CommitLedgerModel") (T := F_Mo) (N := 35) hx hb hts i_Mo hown hK Y gF_46 rfl 30 (by decide) kf_Mo_106 rfl d_Mo_ending_214 ?_
      refine lv_iconst (v := 1) hx hb d_Mo_ending_217 (by decide) ?_
      refine lv_isub hx hb d_Mo_ending_218 ?_
      refine gy_put hf (ci := 8) (ty := .int) (C := "CommitLedgerModel") (T := F_Mo) (N := 35) hx hb hts i_Mo t_Mo_ok n_Mo hown hK Y gF_46 rfl (by decide) kf_Mo_106 rfl (by decide +kernel) rfl rfl (Nat.le_of_ble_eq_true rfl) gF_46 d_Mo_ending_219 (fun X39 H locs hf Y => ?_)
      refine lv_aload_n hx hb d_Mo_ending_222 rfl (lv_at hl 1 rfl) ?_
      refine gy_get (ci := 8) (v := Value.ref (b 54)) (C := "CommitLedgerModel") (T := F_Mo) (N := 35) hx hb hts i_Mo hown hK Y gF_46 rfl 15 (by decide) kf_Mo_40 rfl d_Mo_ending_223 ?_
      obtain ⟨X40, hF40, hf⟩ := gCv_el hf
      refine gy_callV (rm := { frames := 3, cells := 0, slots := 0, locals := 55 }) (ig := .invokevirtual 169) (av := [Value.ref (b 54)]) Y (fun ws h hS hw => K_Ve_tidy l htr D tys z _ ws h hS t ht b X39 hw 54 (by decide) (gR.v, X40) hF40) (gx_invV (As := []) (rest := []) hx hb hown hts km_Mo_169 kI_Ve_tidy kV_Ve_tidy kc_Ve_tidy (by decide) (show (parseMethodDescriptor y_Ve_tidy.desc).map (fun d => d.parameters.length) = some 0 by decide +kernel) (gy_recv (ci := 9) hK Y rfl gF_54) rfl rfl d_Mo_ending_226) (gx_cw (z := 0) hts kc_Ve_tidy kN_Ve rfl rfl ⟨Nat.le_of_ble_eq_true rfl, Nat.le_of_ble_eq_true rfl⟩) hb hml hz hK hY hAz hA hl.1 (lv_room (Nat.le_of_ble_eq_true rfl)) d_Mo_ending_226 ⟨Nat.zero_le _, Nat.zero_le _⟩ (fun H locs Y => ?_)
      replace hf := gU hf ho37
      exact gy_vret hf hx hb hr hlocks hK Y (Nat.zero_le _) (Nat.zero_le _) d_Mo_ending_229
    · replace hf := gp_f c119_38 hf
      refine lv_aload_n hx hb d_Mo_ending_122 rfl (lv_at hl 1 rfl) ?_
      refine gy_get (ci := 8) (v := Value.ref (b 121)) (C := "CommitLedgerModel") (T := F_Mo) (N := 35) hx hb hts i_Mo hown hK Y gF_46 rfl 26 (by decide) kf_Mo_64 rfl d_Mo_ending_123 ?_
      refine lv_iload hx hb d_Mo_ending_126 (lv_at hl 0 rfl) ?_
      refine gy_aaldA hf hx hb hK Y 8 gF_121 ht8 d_Mo_ending_128 (fun hf => ?_)
      refine lv_astoreO (lv' := [(6, va_rf (Option.map b (X37.G 121 (gn i5_37)))), (5, Value.int i5_37), (0, Value.ref (b 46))]) hx hb d_Mo_ending_129 hl (by decide) rfl (fun ls hl => ?_)
      refine lv_aload_n hx hb d_Mo_ending_131 rfl (lv_at hl 2 rfl) ?_
      refine gy_get (ci := 8) (v := Value.ref (b 121)) (C := "CommitLedgerModel") (T := F_Mo) (N := 35) hx hb hts i_Mo hown hK Y gF_46 rfl 26 (by decide) kf_Mo_64 rfl d_Mo_ending_132 ?_
      refine lv_iload hx hb d_Mo_ending_135 (lv_at hl 1 rfl) ?_
      refine lv_aload_n hx hb d_Mo_ending_137 rfl (lv_at hl 2 rfl) ?_
      refine gy_get (ci := 8) (v := Value.ref (b 121)) (C := "CommitLedgerModel") (T := F_Mo) (N := 35) hx hb hts i_Mo hown hK Y gF_46 rfl 26 (by decide) kf_Mo_64 rfl d_Mo_ending_138 ?_
      refine lv_iload hx hb d_Mo_ending_141 (lv_at hl 1 rfl) ?_
      refine lv_iconst (v := 1) hx hb d_Mo_ending_143 (by decide) ?_
      refine lv_iadd hx hb d_Mo_ending_144 ?_
      refine gy_aaldA hf hx hb hK Y 8 gF_121 ht8 d_Mo_ending_145 (fun hf => ?_)
      refine gy_aastA (x := (X37.G 121 (gn (i5_37 + 1)))) hf hx hb hts hK Y (fun _ => gF_121) ht0 ht8 d_Mo_ending_146 (fun X41 H locs hf Y => ?_)
      refine lv_aload_n hx hb d_Mo_ending_147 rfl (lv_at hl 2 rfl) ?_
      refine gy_get (ci := 8) (v := Value.ref (b 121)) (C := "CommitLedgerModel") (T := F_Mo) (N := 35) hx hb hts i_Mo hown hK Y gF_46 rfl 26 (by decide) kf_Mo_64 rfl d_Mo_ending_148 ?_
      refine lv_iload hx hb d_Mo_ending_151 (lv_at hl 1 rfl) ?_
      refine lv_iconst (v := 1) hx hb d_Mo_ending_153 (by decide) ?_
      refine lv_iadd hx hb d_Mo_ending_154 ?_
      refine lv_aloadO hx hb d_Mo_ending_155 (lv_at hl 0 rfl) ?_
      refine gy_aastA (x := (X37.G 121 (gn i5_37))) hf hx hb hts hK Y (fun _ => gF_121) ht0 ht8 d_Mo_ending_157 (fun X42 H locs hf Y => ?_)
      refine lv_aload_n hx hb d_Mo_ending_158 rfl (lv_at hl 2 rfl) ?_
      refine gy_get (ci := 8) (v := Value.ref (b 80)) (C := "CommitLedgerModel") (T := F_Mo) (N := 35) hx hb hts i_Mo hown hK Y gF_46 rfl 27 (by decide) kf_Mo_67 rfl d_Mo_ending_159 ?_
      refine lv_iload hx hb d_Mo_ending_162 (lv_at hl 1 rfl) ?_
      refine lv_aload_n hx hb d_Mo_ending_164 rfl (lv_at hl 2 rfl) ?_
      refine gy_get (ci := 8) (v := Value.ref (b 80)) (C := "CommitLedgerModel") (T := F_Mo) (N := 35) hx hb hts i_Mo hown hK Y gF_46 rfl 27 (by decide) kf_Mo_67 rfl d_Mo_ending_165 ?_
      refine lv_iload hx hb d_Mo_ending_168 (lv_at hl 1 rfl) ?_
      refine lv_iconst (v := 1) hx hb d_Mo_ending_170 (by decide) ?_
      refine lv_iadd hx hb d_Mo_ending_171 ?_
      refine gy_iald hf hx hb hK Y 0 (fun _ => gF_80) ht0 d_Mo_ending_172 (fun _ hf => ?_)
      refine gy_iast hf hx hb hK Y 0 (fun _ => gF_80) ht0 d_Mo_ending_173 (fun X43 H locs hf Y => ?_)
      refine lv_aload_n hx hb d_Mo_ending_174 rfl (lv_at hl 2 rfl) ?_
      refine gy_get (ci := 8) (v := Value.ref (b 81)) (C := "CommitLedgerModel") (T := F_Mo) (N := 35) hx hb hts i_Mo hown hK Y gF_46 rfl 28 (by decide) kf_Mo_70 rfl d_Mo_ending_175 ?_
      refine lv_iload hx hb d_Mo_ending_178 (lv_at hl 1 rfl) ?_
      refine lv_aload_n hx hb d_Mo_ending_180 rfl (lv_at hl 2 rfl) ?_
      refine gy_get (ci := 8) (v := Value.ref (b 81)) (C := "CommitLedgerModel") (T := F_Mo) (N := 35) hx hb hts i_Mo hown hK Y gF_46 rfl 28 (by decide) kf_Mo_70 rfl d_Mo_ending_181 ?_
      refine lv_iload hx hb d_Mo_ending_184 (lv_at hl 1 rfl) ?_
      refine lv_iconst (v := 1) hx hb d_Mo_ending_186 (by decide) ?_
      refine lv_iadd hx hb d_Mo_ending_187 ?_
      refine gy_iald hf hx hb hK Y 0 (fun _ => gF_81) ht0 d_Mo_ending_188 (fun _ hf => ?_)
      refine gy_iast hf hx hb hK Y 0 (fun _ => gF_81) ht0 d_Mo_ending_189 (fun X44 H locs hf Y => ?_)
      refine lv_aload_n hx hb d_Mo_ending_190 rfl (lv_at hl 2 rfl) ?_
      refine gy_get (ci := 8) (v := Value.ref (b 82)) (C := "CommitLedgerModel") (T := F_Mo) (N := 35) hx hb hts i_Mo hown hK Y gF_46 rfl 29 (by decide) kf_Mo_73 rfl d_Mo_ending_191 ?_
      refine lv_iload hx hb d_Mo_ending_194 (lv_at hl 1 rfl) ?_
      refine lv_aload_n hx hb d_Mo_ending_196 rfl (lv_at hl 2 rfl) ?_
      refine gy_get (ci := 8) (v := Value.ref (b 82)) (C := "CommitLedgerModel") (T := F_Mo) (N := 35) hx hb hts i_Mo hown hK Y gF_46 rfl 29 (by decide) kf_Mo_73 rfl d_Mo_ending_197 ?_
      refine lv_iload hx hb d_Mo_ending_200 (lv_at hl 1 rfl) ?_
      refine lv_iconst (v := 1) hx hb d_Mo_ending_202 (by decide) ?_
      refine lv_iadd hx hb d_Mo_ending_203 ?_
      refine gy_iald hf hx hb hK Y 0 (fun _ => gF_82) ht0 d_Mo_ending_204 (fun _ hf => ?_)
      refine gy_iast hf hx hb hK Y 0 (fun _ => gF_82) ht0 d_Mo_ending_205 (fun X45 H locs hf Y => ?_)
      refine lv_iinc (v := i5_37 + 1) (lv' := [(5, Value.int (i5_37 + 1)), (6, va_rf (Option.map b (X37.G 121 (gn i5_37)))), (0, Value.ref (b 46))]) hx hb d_Mo_ending_206 hl (k := 1) rfl (rfl) (by decide) rfl (fun ls hl => ?_)
      refine lv_goto (tgt := 111) hx hb d_Mo_ending_209 (by decide) ?_
      exact hk37 _ _ _ _ hf (lv_sub hl [0, 2] rfl) Y
  refine gy_cut (pcJ := 66) Y (fun s : gX × Int32 × Int32 => f_Mo_ending_66 s.1 a1 a2 s.2.1 s.2.2) o (fun s => s.1) (fun s ls => lv_has ls 7 [(3, Value.int s.2.1), (4, Value.int s.2.2), (0, Value.ref (b 46)), (1, Value.int a1), (2, Value.int a2)]) (fun s => []) ?_ (fun J66 => ?_)
  · rintro ⟨X46, i3_46, i4_46⟩ H locs ls hf hl Y
    have hl : lv_has ls 7 [(3, Value.int i3_46), (4, Value.int i4_46), (0, Value.ref (b 46)), (1, Value.int a1), (2, Value.int a2)] := hl
    have Y : gy D t b A s.heap X0 X46 H locs := Y
    have hf : f_Mo_ending_66 X46 a1 a2 i3_46 i4_46 = some o := hf
    unfold f_Mo_ending_66 at hf
    refine lv_iload_n hx hb d_Mo_ending_66 rfl (lv_at hl 4 rfl) ?_
    refine lv_if_eq (tgt := 81) hx hb d_Mo_ending_67 (by decide) (fun c67_47 => ?_) (fun c67_47 => ?_)
    · replace hf := gp_t c67_47 hf
      refine lv_iload_n hx hb d_Mo_ending_81 rfl (lv_at hl 0 rfl) ?_
      refine lv_istore (lv' := [(5, Value.int i3_46), (3, Value.int i3_46), (4, Value.int i4_46), (0, Value.ref (b 46)), (1, Value.int a1), (2, Value.int a2)]) hx hb d_Mo_ending_82 hl (by decide) rfl (fun ls hl => ?_)
      refine gy_iter (fun s : gX × Int32 => s.1) (fun (s : gX × Int32) ls => lv_has ls 7 [(5, Value.int s.2), (0, Value.ref (b 46)), (1, Value.int a1), (4, Value.int i4_46)]) ?_ gK (X46, i3_46) _ _ _ hf (lv_sub hl [0, 3, 4, 2] rfl) Y
      rintro ⟨X48, i5_48⟩ u48 H locs ls hf hl Y hk48 ho48
      have hl : lv_has ls 7 [(5, Value.int i5_48), (0, Value.ref (b 46)), (1, Value.int a1), (4, Value.int i4_46)] := hl
      have Y : gy D t b A s.heap X0 X48 H locs := Y
      have hf : f_Mo_ending_84 X48 a1 i4_46 i5_48 = some u48 := hf
      unfold f_Mo_ending_84 at hf
      refine lv_iload hx hb d_Mo_ending_84 (lv_at hl 0 rfl) ?_
      refine lv_iload hx hb d_Mo_ending_86 (lv_at hl 3 rfl) ?_
      refine lv_icmp_ge (tgt := 108) hx hb d_Mo_ending_88 (by decide) (fun c88_49 => ?_) (fun c88_49 => ?_)
      · replace hf := gp_t c88_49 hf
        replace hf := gU hf ho48
        exact J108 X48 _ _ _ hf (lv_sub hl [1, 2] rfl) Y
      · replace hf := gp_f c88_49 hf
        refine lv_aload_n hx hb d_Mo_ending_91 rfl (lv_at hl 1 rfl) ?_
        refine gy_get (ci := 8) (v := Value.ref (b 54)) (C := "CommitLedgerModel") (T := F_Mo) (N := 35) hx hb hts i_Mo hown hK Y gF_46 rfl 15 (by decide) kf_Mo_40 rfl d_Mo_ending_92 ?_
        refine gy_get (ci := 9) (v := Value.ref (b 58)) (C := "CommitLedgerModel$Version") (T := F_Ve) (N := 11) hx hb hts i_Ve hown hK Y gF_54 rfl 3 (by decide) kf_Mo_166 rfl d_Mo_ending_95 ?_
        refine lv_iload hx hb d_Mo_ending_98 (lv_at hl 0 rfl) ?_
        refine lv_iconst (v := 0) hx hb d_Mo_ending_100 (by decide) ?_
        refine gy_iast hf hx hb hK Y 0 (fun _ => gF_58) ht0 d_Mo_ending_101 (fun X50 H locs hf Y => ?_)
        refine lv_iinc (v := i5_48 + 1) (lv' := [(5, Value.int (i5_48 + 1)), (0, Value.ref (b 46)), (1, Value.int a1), (4, Value.int i4_46)]) hx hb d_Mo_ending_102 hl (k := 0) rfl (rfl) (by decide) rfl (fun ls hl => ?_)
        refine lv_goto (tgt := 84) hx hb d_Mo_ending_105 (by decide) ?_
        exact hk48 _ _ _ _ hf (lv_sub hl [0, 1, 2, 3] rfl) Y
    · replace hf := gp_f c67_47 hf
      refine lv_aload_n hx hb d_Mo_ending_70 rfl (lv_at hl 2 rfl) ?_
      refine lv_iload_n hx hb d_Mo_ending_71 rfl (lv_at hl 0 rfl) ?_
      refine lv_iload hx hb d_Mo_ending_72 (lv_at hl 1 rfl) ?_
      refine lv_iload_n hx hb d_Mo_ending_74 rfl (lv_at hl 3 rfl) ?_
      obtain ⟨X51, hF51, hf⟩ := gCv_el hf
      refine gy_callV (rm := { frames := 2, cells := 0, slots := 0, locals := 32 }) (ig := .invokevirtual 221) (av := [Value.ref (b 46), Value.int i3_46, Value.int i4_46, Value.int a1]) Y (fun ws h hS hw => K_Mo_replace l htr D tys z _ ws h hS t ht b X46 hw i3_46 i4_46 a1 (gR.v, X51) hF51) (gx_invV (As := [Value.int i3_46, Value.int i4_46, Value.int a1]) (rest := []) hx hb hown hts km_Mo_221 kI_Mo_replace kV_Mo_replace kc_Mo_replace (by decide) (show (parseMethodDescriptor y_Mo_replace.desc).map (fun d => d.parameters.length) = some 3 by decide +kernel) (gy_recv (ci := 8) hK Y rfl gF_46) rfl rfl d_Mo_ending_75) (gx_cw (z := 0) hts kc_Mo_replace kN_Mo rfl rfl ⟨Nat.le_of_ble_eq_true rfl, Nat.le_of_ble_eq_true rfl⟩) hb hml hz hK hY hAz hA hl.1 (lv_room (Nat.le_of_ble_eq_true rfl)) d_Mo_ending_75 ⟨Nat.zero_le _, Nat.zero_le _⟩ (fun H locs Y => ?_)
      refine lv_goto (tgt := 108) hx hb d_Mo_ending_78 (by decide) ?_
      exact J108 X51 _ _ _ hf (lv_sub hl [2, 3] rfl) Y
  unfold f_Mo_ending at hf
  refine lv_iconst (v := 0) hx hb d_Mo_ending_0 (by decide) ?_
  refine lv_istore_n (lv' := [(3, Value.int 0), (0, Value.ref (b 46)), (1, Value.int a1), (2, Value.int a2)]) hx hb d_Mo_ending_1 rfl hl (by decide) rfl (fun ls hl => ?_)
  refine gy_iter (fun s : Int32 => X0) (fun (s : Int32) ls => lv_has ls 7 [(3, Value.int s), (0, Value.ref (b 46)), (1, Value.int a1), (2, Value.int a2)]) ?_ gK 0 _ _ _ hf (lv_sub hl [0, 1, 2, 3] rfl) Y
  rintro i3_52 u52 H locs ls hf hl Y hk52 ho52
  have hl : lv_has ls 7 [(3, Value.int i3_52), (0, Value.ref (b 46)), (1, Value.int a1), (2, Value.int a2)] := hl
  have Y : gy D t b A s.heap X0 X0 H locs := Y
  have hf : f_Mo_ending_2 X0 a1 a2 i3_52 = some u52 := hf
  unfold f_Mo_ending_2 at hf
  refine lv_aload_n hx hb d_Mo_ending_2 rfl (lv_at hl 1 rfl) ?_
  refine gy_get (ci := 8) (v := Value.ref (b 54)) (C := "CommitLedgerModel") (T := F_Mo) (N := 35) hx hb hts i_Mo hown hK Y gF_46 rfl 15 (by decide) kf_Mo_40 rfl d_Mo_ending_3 ?_
  refine gy_get (ci := 9) (v := Value.ref (b 58)) (C := "CommitLedgerModel$Version") (T := F_Ve) (N := 11) hx hb hts i_Ve hown hK Y gF_54 rfl 3 (by decide) kf_Mo_166 rfl d_Mo_ending_6 ?_
  refine lv_iload_n hx hb d_Mo_ending_9 rfl (lv_at hl 0 rfl) ?_
  refine gy_iald hf hx hb hK Y 0 (fun _ => gF_58) ht0 d_Mo_ending_10 (fun _ hf => ?_)
  refine lv_aload_n hx hb d_Mo_ending_11 rfl (lv_at hl 1 rfl) ?_
  refine gy_get (ci := 8) (v := Value.ref (b 81)) (C := "CommitLedgerModel") (T := F_Mo) (N := 35) hx hb hts i_Mo hown hK Y gF_46 rfl 28 (by decide) kf_Mo_70 rfl d_Mo_ending_12 ?_
  refine lv_iload_n hx hb d_Mo_ending_15 rfl (lv_at hl 2 rfl) ?_
  refine gy_iald hf hx hb hK Y 0 (fun _ => gF_81) ht0 d_Mo_ending_16 (fun _ hf => ?_)
  refine lv_icmp_eq (tgt := 26) hx hb d_Mo_ending_17 (by decide) (fun c17_53 => ?_) (fun c17_53 => ?_)
  · replace hf := gp_t c17_53 hf
    refine lv_iload_n hx hb d_Mo_ending_26 rfl (lv_at hl 0 rfl) ?_
    refine lv_istore (lv' := [(4, Value.int i3_52), (3, Value.int i3_52), (0, Value.ref (b 46)), (1, Value.int a1), (2, Value.int a2)]) hx hb d_Mo_ending_27 hl (by decide) rfl (fun ls hl => ?_)
    replace hf := gU hf ho52
    refine gy_iter (fun s : Int32 => X0) (fun (s : Int32) ls => lv_has ls 7 [(4, Value.int s), (0, Value.ref (b 46)), (1, Value.int a1), (2, Value.int a2), (3, Value.int i3_52)]) ?_ gK i3_52 _ _ _ hf (lv_sub hl [0, 2, 3, 4, 1] rfl) Y
    rintro i4_54 u54 H locs ls hf hl Y hk54 ho54
    have hl : lv_has ls 7 [(4, Value.int i4_54), (0, Value.ref (b 46)), (1, Value.int a1), (2, Value.int a2), (3, Value.int i3_52)] := hl
    have Y : gy D t b A s.heap X0 X0 H locs := Y
    have hf : f_Mo_ending_29 X0 a1 a2 i3_52 i4_54 = some u54 := hf
    unfold f_Mo_ending_29 at hf
    refine lv_iload hx hb d_Mo_ending_29 (lv_at hl 0 rfl) ?_
    refine lv_aload_n hx hb d_Mo_ending_31 rfl (lv_at hl 1 rfl) ?_
    refine gy_get (ci := 8) (v := Value.ref (b 54)) (C := "CommitLedgerModel") (T := F_Mo) (N := 35) hx hb hts i_Mo hown hK Y gF_46 rfl 15 (by decide) kf_Mo_40 rfl d_Mo_ending_32 ?_
    refine gy_get (ci := 9) (v := Value.int (X0.I 54 7)) (C := "CommitLedgerModel$Version") (T := F_Ve) (N := 11) hx hb hts i_Ve hown hK Y gF_54 rfl 7 (by decide) kf_Mo_122 rfl d_Mo_ending_35 ?_
    refine lv_icmp_ge (tgt := 66) hx hb d_Mo_ending_38 (by decide) (fun c38_55 => ?_) (fun c38_55 => ?_)
    · replace hf := gp_t c38_55 hf
      replace hf := gU hf ho54
      exact J66 (X0, i3_52, i4_54) _ _ _ hf (lv_sub hl [4, 0, 1, 2, 3] rfl) Y
    · replace hf := gp_f c38_55 hf
      refine lv_aload_n hx hb d_Mo_ending_41 rfl (lv_at hl 1 rfl) ?_
      refine gy_get (ci := 8) (v := Value.ref (b 54)) (C := "CommitLedgerModel") (T := F_Mo) (N := 35) hx hb hts i_Mo hown hK Y gF_46 rfl 15 (by decide) kf_Mo_40 rfl d_Mo_ending_42 ?_
      refine gy_get (ci := 9) (v := Value.ref (b 58)) (C := "CommitLedgerModel$Version") (T := F_Ve) (N := 11) hx hb hts i_Ve hown hK Y gF_54 rfl 3 (by decide) kf_Mo_166 rfl d_Mo_ending_45 ?_
      refine lv_iload hx hb d_Mo_ending_48 (lv_at hl 0 rfl) ?_
      refine gy_iald hf hx hb hK Y 0 (fun _ => gF_58) ht0 d_Mo_ending_50 (fun _ hf => ?_)
      refine lv_aload_n hx hb d_Mo_ending_51 rfl (lv_at hl 1 rfl) ?_
      refine gy_get (ci := 8) (v := Value.ref (b 81)) (C := "CommitLedgerModel") (T := F_Mo) (N := 35) hx hb hts i_Mo hown hK Y gF_46 rfl 28 (by decide) kf_Mo_70 rfl d_Mo_ending_52 ?_
      refine lv_iload_n hx hb d_Mo_ending_55 rfl (lv_at hl 2 rfl) ?_
      refine gy_iald hf hx hb hK Y 0 (fun _ => gF_81) ht0 d_Mo_ending_56 (fun _ hf => ?_)
      refine lv_icmp_ne (tgt := 66) hx hb d_Mo_ending_57 (by decide) (fun c57_56 => ?_) (fun c57_56 => ?_)
      · replace hf := gp_f c57_56 hf
        replace hf := gU hf ho54
        exact J66 (X0, i3_52, i4_54) _ _ _ hf (lv_sub hl [4, 0, 1, 2, 3] rfl) Y
      · replace hf := gp_t c57_56 hf
        refine lv_iinc (v := i4_54 + 1) (lv' := [(4, Value.int (i4_54 + 1)), (0, Value.ref (b 46)), (1, Value.int a1), (2, Value.int a2), (3, Value.int i3_52)]) hx hb d_Mo_ending_60 hl (k := 0) rfl (rfl) (by decide) rfl (fun ls hl => ?_)
        refine lv_goto (tgt := 29) hx hb d_Mo_ending_63 (by decide) ?_
        exact hk54 _ _ _ _ hf (lv_sub hl [0, 1, 2, 3, 4] rfl) Y
  · replace hf := gp_f c17_53 hf
    refine lv_iinc (v := i3_52 + 1) (lv' := [(3, Value.int (i3_52 + 1)), (0, Value.ref (b 46)), (1, Value.int a1), (2, Value.int a2)]) hx hb d_Mo_ending_20 hl (k := 0) rfl (rfl) (by decide) rfl (fun ls hl => ?_)
    refine lv_goto (tgt := 2) hx hb d_Mo_ending_23 (by decide) ?_
    exact hk52 _ _ _ _ hf (lv_sub hl [0, 1, 2, 3] rfl) Y

def f_Mo_merge_215 (X : gX) (i2 : Int32) (i3 : Int32) (i4 : Int32) (i5 : Int32) : Option ((gX × Int32) ⊕ (gR × gX)) := (if (i2 + (X.I 46 33)) ≤ i5 then (if gIn (X.I 46 30) 4 then gB (X.w 80 (gn (X.I 46 30)) i4) (fun X22 => (if gIn (X22.I 46 30) 4 then gB (X22.w 81 (gn (X22.I 46 30)) (X22.I 46 34)) (fun X23 => (if gIn (X23.I 46 30) 4 then gB (X23.w 82 (gn (X23.I 46 30)) i3) (fun X24 => gB (X24.w 46 30 ((X24.I 46 30) + 1)) (fun X25 => gCi (f_Mo_finished X25 (X25.I 46 34) 12356) (fun x26 X26 => gLf (some (gR.i x26, X26))))) else none)) else none)) else none) else (if gIn i5 4097 then gB (X.w 58 (gn i5) (X.I 46 34)) (fun X27 => some (Sum.inl (X27, i5 + 1))) else none))
def f_Mo_merge_206 (X : gX) (i2 : Int32) (i3 : Int32) (i4 : Int32) (i5 : Int32) : Option ((gX × Int32 × Int32) ⊕ (gR × gX)) := some (Sum.inl (X, i4, i5 + 1))
def f_Mo_merge_146 (X : gX) (i2 : Int32) (i3 : Int32) (i4 : Int32) (i5 : Int32) : Option ((gX × Int32 × Int32) ⊕ (gR × gX)) := (if gIn (i2 + (X.I 46 33)) 4098 then (if (X.I 57 (gn (i2 + (X.I 46 33)))) ≤ i5 then gLf (gI (fun s : gX × Int32 => f_Mo_merge_215 s.1 i2 i3 i4 s.2) gK (X, i2)) else (if gIn i5 4096 then (if (X.I 60 (gn i5)) = (0 : Int32) then f_Mo_merge_206 X i2 i3 i4 i5 else (if gIn (X.I 46 30) 4 then (if gIn i5 4096 then gM (X.G 121 (gn (X.I 46 30))) (fun n36 => (if gRow n36 then (if gIn i4 4096 then gB (X.w n36 (gn i4) (X.I 59 (gn i5))) (fun X38 => f_Mo_merge_206 X38 i2 i3 (i4 + 1) i5) else none) else none)) else none) else none)) else none)) else none)
def f_Mo_merge_88 (X : gX) (i2 : Int32) (i1000 : Int32) : Option (gR × gX) := gCi (f_Mo_wrong X i1000 3) (fun x13 X13 => (if x13 = (0 : Int32) then gCi (f_Mo_write X13) (fun x15 X15 => (if (0 : Int32) ≤ x15 then gB (X15.w 46 34 ((X15.I 46 34) + 1)) (fun X17 => (if gIn i2 4098 then gI (fun s : gX × Int32 × Int32 => f_Mo_merge_146 s.1 i2 x15 s.2.1 s.2.2) gK (X17, 0, X17.I 57 (gn i2)) else none)) else gCi (f_Mo_finished X15 0 12356) (fun x53 X53 => some (gR.i x53, X53)))) else gCi (f_Mo_done X13 0 12356) (fun x54 X54 => some (gR.i x54, X54))))
def f_Mo_merge_63 (X : gX) : Option (gR × gX) := gCi (f_Mo_done X 0 12356) (fun x4 X4 => some (gR.i x4, X4))
def f_Mo_merge_56 (X : gX) (i1 : Int32) (i1000 : Int32) : Option (gR × gX) := gCi (f_Mo_wrong X i1000 5) (fun x9 X9 => (if x9 = (0 : Int32) then gCi (f_Mo_chosen X9 i1) (fun x11 X11 => (if (0 : Int32) ≤ x11 then f_Mo_merge_88 X11 x11 0 else f_Mo_merge_88 X11 x11 1)) else f_Mo_merge_63 X9))
def f_Mo_merge_35 (X : gX) (i1 : Int32) (i1000 : Int32) : Option (gR × gX) := gCi (f_Mo_wrong X i1000 2) (fun x6 X6 => (if x6 = (0 : Int32) then (if (X6.I 46 30) = (4 : Int32) then f_Mo_merge_56 X6 i1 1 else f_Mo_merge_56 X6 i1 0) else f_Mo_merge_63 X6))
def f_Mo_merge_15 (X : gX) (i1 : Int32) (i1000 : Int32) : Option (gR × gX) := gCi (f_Mo_wrong X i1000 1) (fun x2 X2 => (if x2 = (0 : Int32) then (if (X2.I 46 18) = (0 : Int32) then f_Mo_merge_35 X2 i1 1 else f_Mo_merge_35 X2 i1 0) else f_Mo_merge_63 X2))
def f_Mo_merge_10 (X : gX) (i1 : Int32) : Option (gR × gX) := f_Mo_merge_15 X i1 1
def f_Mo_merge (X0 : gX) (a1 : Int32) : Option (gR × gX) := (if a1 < (0 : Int32) then f_Mo_merge_10 X0 a1 else (if a1 ≤ (1 : Int32) then f_Mo_merge_15 X0 a1 0 else f_Mo_merge_10 X0 a1))
set_option maxHeartbeats 4000000 in
set_option maxRecDepth 100000 in
theorem K_Mo_merge (l : Launch) (htr : l.stackTraces = false) (D : va_G) (tys : List (ClassId × FieldType)) (z sz : Nat) (ws : va_W) (h : gm_M) (hM : gm_S h ws) (t : Nat → ClassId) (ht : gTy t tys) (b : Nat → Nat) (X0 : gX) (hw : gw D t b X0 h) (a1 : Int32) (o : gR × gX) (hf : f_Mo_merge X0 a1 = some o) : gx_Met l y_Mo_merge [Cond.code y_Mo_merge b_Mo_merge 6 (some .int)] { frames := 5, cells := 0, slots := 0, locals := 107 } (gx_P z sz D classes tys ws [Value.ref (b 46), Value.int a1]) (gx_Q D classes tys (va_A ws sz) (gPo D t b X0 o)) (0) (0) (va_A ws sz) := by
  refine gx_ofW (cc := b_Mo_merge) (maxL := 6) (ret := (some .int)) (by decide) rfl ?_
  intro p e s m args below meth c s₁ B hml hv
  obtain ⟨rfl, hsz, hz, hP, hK, hD0, hY⟩ := hv
  have hx := B.exec
  have hb := B.bytes
  have hr := B.returns
  have hts := hY.hts (#[Value.ref (b 46), Value.int a1] : Array Value)
  have hown : s.vm.findClass "CommitLedgerModel" = some m.cls := findClass_of_methodNamed B.named
  have hlocks := B.notSynchronized
  subst hsz
  have hAz := gx_az hD0 hz
  have hD := hD0.self (sz := s.heap.size)
  have hA : ∀ q : Nat, s.heap.size ≤ q → va_A ws s.heap.size q := fun q h => Or.inr h
  generalize va_A ws s.heap.size = A at hD hA hAz ⊢
  have Y : gy D t b A s.heap X0 X0 s.heap [] := ⟨h, ⟨ws, hM, hP, hD, va_S.rf⟩, hw, gEq.rf⟩
  clear hP hD hM hD0 hw
  obtain ⟨ht0, ht1, ht2, ht3, ht4, ht5, ht6, ht7, ht8⟩ := id ht
  have hl := lv_entry ([Value.ref (b 46), Value.int a1]) (n := 6) (Nat.le_of_ble_eq_true rfl)
  rw [lg_entry_eq]
  generalize (lg_sl ([Value.ref (b 46), Value.int a1]) ++ List.replicate (6 - (lg_sl ([Value.ref (b 46), Value.int a1])).length) Slot.unset).toArray = ls at hl ⊢
  have hl : lv_has ls 6 [(0, Value.ref (b 46)), (1, Value.int a1)] := hl
  refine gy_cut (pcJ := 88) Y (fun s : gX × Int32 × Int32 => f_Mo_merge_88 s.1 s.2.1 s.2.2) o (fun s => s.1) (fun s ls => lv_has ls 6 [(2, Value.int s.2.1), (0, Value.ref (b 46))]) (fun s => [Value.int s.2.2, Value.ref (b 46)]) ?_ (fun J88 => ?_)
  · rintro ⟨X56, i2_56, i1000_56⟩ H locs ls hf hl Y
    have hl : lv_has ls 6 [(2, Value.int i2_56), (0, Value.ref (b 46))] := hl
    have Y : gy D t b A s.heap X0 X56 H locs := Y
    have hf : f_Mo_merge_88 X56 i2_56 i1000_56 = some o := hf
    unfold f_Mo_merge_88 at hf
    refine W.eq (g2 := F0 m 88 ls [Value.int i1000_56, Value.ref (b 46)]) rfl ?_
    refine lv_iconst (v := 3) hx hb d_Mo_merge_88 (by decide) ?_
    obtain ⟨x57, X57, hF57, hf⟩ := gCi_el hf
    refine gy_callI (rm := { frames := 1, cells := 0, slots := 0, locals := 12 }) (ig := .invokevirtual 152) (av := [Value.ref (b 46), Value.int i1000_56, Value.int 3]) Y (fun ws h hS hw => K_Mo_wrong l htr D tys z _ ws h hS t ht b X56 hw i1000_56 3 (gR.i x57, X57) hF57) (gx_invV (As := [Value.int i1000_56, Value.int 3]) (rest := []) hx hb hown hts km_Mo_152 kI_Mo_wrong kV_Mo_wrong kc_Mo_wrong (by decide) (show (parseMethodDescriptor y_Mo_wrong.desc).map (fun d => d.parameters.length) = some 2 by decide +kernel) (gy_recv (ci := 8) hK Y rfl gF_46) rfl rfl d_Mo_merge_89) (gx_cw (z := 0) hts kc_Mo_wrong kN_Mo rfl rfl ⟨Nat.le_of_ble_eq_true rfl, Nat.le_of_ble_eq_true rfl⟩) hb hml hz hK hY hAz hA hl.1 (lv_room (Nat.le_of_ble_eq_true rfl)) d_Mo_merge_89 ⟨Nat.zero_le _, Nat.zero_le _⟩ (fun H locs Y => ?_)
    refine lv_if_eq (tgt := 104) hx hb d_Mo_merge_92 (by decide) (fun c92_58 => ?_) (fun c92_58 => ?_)
    · replace hf := gp_t c92_58 hf
      refine lv_aload_n hx hb d_Mo_merge_104 rfl (lv_at hl 1 rfl) ?_
      obtain ⟨x59, X59, hF59, hf⟩ := gCi_el hf
      refine gy_callI (rm := { frames := 4, cells := 0, slots := 0, locals := 78 }) (ig := .invokevirtual 178) (av := [Value.ref (b 46)]) Y (fun ws h hS hw => K_Mo_write l htr D tys z _ ws h hS t ht b X57 hw (gR.i x59, X59) hF59) (gx_invV (As := []) (rest := []) hx hb hown hts km_Mo_178 kI_Mo_write kV_Mo_write kc_Mo_write (by decide) (show (parseMethodDescriptor y_Mo_write.desc).map (fun d => d.parameters.length) = some 0 by decide +kernel) (gy_recv (ci := 8) hK Y rfl gF_46) rfl rfl d_Mo_merge_105) (gx_cw (z := 0) hts kc_Mo_write kN_Mo rfl rfl ⟨Nat.le_of_ble_eq_true rfl, Nat.le_of_ble_eq_true rfl⟩) hb hml hz hK hY hAz hA hl.1 (lv_room (Nat.le_of_ble_eq_true rfl)) d_Mo_merge_105 ⟨Nat.zero_le _, Nat.zero_le _⟩ (fun H locs Y => ?_)
      refine lv_istore_n (lv' := [(3, Value.int x59), (2, Value.int i2_56), (0, Value.ref (b 46))]) hx hb d_Mo_merge_108 rfl hl (by decide) rfl (fun ls hl => ?_)
      refine lv_iload_n hx hb d_Mo_merge_109 rfl (lv_at hl 0 rfl) ?_
      refine lv_if_ge (tgt := 122) hx hb d_Mo_merge_110 (by decide) (fun c110_60 => ?_) (fun c110_60 => ?_)
      · replace hf := gp_t c110_60 hf
        refine lv_aload_n hx hb d_Mo_merge_122 rfl (lv_at hl 2 rfl) ?_
        refine lv_dup hx hb d_Mo_merge_123 rfl ?_
        refine gy_get (ci := 8) (v := Value.int (X59.I 46 34)) (C := "CommitLedgerModel") (T := F_Mo) (N := 35) hx hb hts i_Mo hown hK Y gF_46 rfl 34 (by decide) kf_Mo_218 rfl d_Mo_merge_124 ?_
        refine lv_iconst (v := 1) hx hb d_Mo_merge_127 (by decide) ?_
        refine lv_iadd hx hb d_Mo_merge_128 ?_
        refine gy_put hf (ci := 8) (ty := .int) (C := "CommitLedgerModel") (T := F_Mo) (N := 35) hx hb hts i_Mo t_Mo_ok n_Mo hown hK Y gF_46 rfl (by decide) kf_Mo_218 rfl (by decide +kernel) rfl rfl (Nat.le_of_ble_eq_true rfl) gF_46 d_Mo_merge_129 (fun X61 H locs hf Y => ?_)
        refine lv_iconst (v := 0) hx hb d_Mo_merge_132 (by decide) ?_
        refine lv_istore (lv' := [(4, Value.int 0), (3, Value.int x59), (2, Value.int i2_56), (0, Value.ref (b 46))]) hx hb d_Mo_merge_133 hl (by decide) rfl (fun ls hl => ?_)
        refine lv_aload_n hx hb d_Mo_merge_135 rfl (lv_at hl 3 rfl) ?_
        refine gy_get (ci := 8) (v := Value.ref (b 54)) (C := "CommitLedgerModel") (T := F_Mo) (N := 35) hx hb hts i_Mo hown hK Y gF_46 rfl 15 (by decide) kf_Mo_40 rfl d_Mo_merge_136 ?_
        refine gy_get (ci := 9) (v := Value.ref (b 57)) (C := "CommitLedgerModel$Version") (T := F_Ve) (N := 11) hx hb hts i_Ve hown hK Y gF_54 rfl 2 (by decide) kf_Mo_182 rfl d_Mo_merge_139 ?_
        refine lv_iload_n hx hb d_Mo_merge_142 rfl (lv_at hl 2 rfl) ?_
        refine gy_iald hf hx hb hK Y 0 (fun _ => gF_57) ht0 d_Mo_merge_143 (fun _ hf => ?_)
        refine lv_istore (lv' := [(5, Value.int (X61.I 57 (gn i2_56))), (4, Value.int 0), (3, Value.int x59), (2, Value.int i2_56), (0, Value.ref (b 46))]) hx hb d_Mo_merge_144 hl (by decide) rfl (fun ls hl => ?_)
        refine gy_iter (fun s : gX × Int32 × Int32 => s.1) (fun (s : gX × Int32 × Int32) ls => lv_has ls 6 [(4, Value.int s.2.1), (5, Value.int s.2.2), (0, Value.ref (b 46)), (2, Value.int i2_56), (3, Value.int x59)]) ?_ gK (X61, 0, X61.I 57 (gn i2_56)) _ _ _ hf (lv_sub hl [1, 0, 4, 3, 2] rfl) Y
        rintro ⟨X62, i4_62, i5_62⟩ u62 H locs ls hf hl Y hk62 ho62
        have hl : lv_has ls 6 [(4, Value.int i4_62), (5, Value.int i5_62), (0, Value.ref (b 46)), (2, Value.int i2_56), (3, Value.int x59)] := hl
        have Y : gy D t b A s.heap X0 X62 H locs := Y
        have hf : f_Mo_merge_146 X62 i2_56 x59 i4_62 i5_62 = some u62 := hf
        refine gy_cut (pcJ := 206) Y (fun s : gX × Int32 × Int32 => f_Mo_merge_206 s.1 i2_56 x59 s.2.1 s.2.2) u62 (fun s => s.1) (fun s ls => lv_has ls 6 [(4, Value.int s.2.1), (5, Value.int s.2.2), (0, Value.ref (b 46)), (2, Value.int i2_56), (3, Value.int x59)]) (fun s => []) ?_ (fun J206 => ?_)
        · rintro ⟨X63, i4_63, i5_63⟩ H locs ls hf hl Y
          have hl : lv_has ls 6 [(4, Value.int i4_63), (5, Value.int i5_63), (0, Value.ref (b 46)), (2, Value.int i2_56), (3, Value.int x59)] := hl
          have Y : gy D t b A s.heap X0 X63 H locs := Y
          have hf : f_Mo_merge_206 X63 i2_56 x59 i4_63 i5_63 = some u62 := hf
          unfold f_Mo_merge_206 at hf
          refine lv_iinc (v := i5_63 + 1) (lv' := [(5, Value.int (i5_63 + 1)), (4, Value.int i4_63), (0, Value.ref (b 46)), (2, Value.int i2_56), (3, Value.int x59)]) hx hb d_Mo_merge_206 hl (k := 1) rfl (rfl) (by decide) rfl (fun ls hl => ?_)
          refine lv_goto (tgt := 146) hx hb d_Mo_merge_209 (by decide) ?_
          exact hk62 _ _ _ _ hf (lv_sub hl [1, 0, 2, 3, 4] rfl) Y
        unfold f_Mo_merge_146 at hf
        refine lv_iload hx hb d_Mo_merge_146 (lv_at hl 1 rfl) ?_
        refine lv_aload_n hx hb d_Mo_merge_148 rfl (lv_at hl 2 rfl) ?_
        refine gy_get (ci := 8) (v := Value.ref (b 54)) (C := "CommitLedgerModel") (T := F_Mo) (N := 35) hx hb hts i_Mo hown hK Y gF_46 rfl 15 (by decide) kf_Mo_40 rfl d_Mo_merge_149 ?_
        refine gy_get (ci := 9) (v := Value.ref (b 57)) (C := "CommitLedgerModel$Version") (T := F_Ve) (N := 11) hx hb hts i_Ve hown hK Y gF_54 rfl 2 (by decide) kf_Mo_182 rfl d_Mo_merge_152 ?_
        refine lv_iload_n hx hb d_Mo_merge_155 rfl (lv_at hl 3 rfl) ?_
        refine lv_aload_n hx hb d_Mo_merge_156 rfl (lv_at hl 2 rfl) ?_
        refine gy_get (ci := 8) (v := Value.int (X62.I 46 33)) (C := "CommitLedgerModel") (T := F_Mo) (N := 35) hx hb hts i_Mo hown hK Y gF_46 rfl 33 (by decide) kf_Mo_208 rfl d_Mo_merge_157 ?_
        refine lv_iadd hx hb d_Mo_merge_160 ?_
        refine gy_iald hf hx hb hK Y 0 (fun _ => gF_57) ht0 d_Mo_merge_161 (fun _ hf => ?_)
        refine lv_icmp_ge (tgt := 212) hx hb d_Mo_merge_162 (by decide) (fun c162_64 => ?_) (fun c162_64 => ?_)
        · replace hf := gp_t c162_64 hf
          refine lv_iload_n hx hb d_Mo_merge_212 rfl (lv_at hl 3 rfl) ?_
          refine lv_istore (lv' := [(5, Value.int i2_56), (4, Value.int i4_62), (0, Value.ref (b 46)), (2, Value.int i2_56), (3, Value.int x59)]) hx hb d_Mo_merge_213 hl (by decide) rfl (fun ls hl => ?_)
          replace hf := gU hf ho62
          refine gy_iter (fun s : gX × Int32 => s.1) (fun (s : gX × Int32) ls => lv_has ls 6 [(5, Value.int s.2), (0, Value.ref (b 46)), (2, Value.int i2_56), (3, Value.int x59), (4, Value.int i4_62)]) ?_ gK (X62, i2_56) _ _ _ hf (lv_sub hl [0, 2, 3, 4, 1] rfl) Y
          rintro ⟨X65, i5_65⟩ u65 H locs ls hf hl Y hk65 ho65
          have hl : lv_has ls 6 [(5, Value.int i5_65), (0, Value.ref (b 46)), (2, Value.int i2_56), (3, Value.int x59), (4, Value.int i4_62)] := hl
          have Y : gy D t b A s.heap X0 X65 H locs := Y
          have hf : f_Mo_merge_215 X65 i2_56 x59 i4_62 i5_65 = some u65 := hf
          unfold f_Mo_merge_215 at hf
          refine lv_iload hx hb d_Mo_merge_215 (lv_at hl 0 rfl) ?_
          refine lv_iload_n hx hb d_Mo_merge_217 rfl (lv_at hl 2 rfl) ?_
          refine lv_aload_n hx hb d_Mo_merge_218 rfl (lv_at hl 1 rfl) ?_
          refine gy_get (ci := 8) (v := Value.int (X65.I 46 33)) (C := "CommitLedgerModel") (T := F_Mo) (N := 35) hx hb hts i_Mo hown hK Y gF_46 rfl 33 (by decide) kf_Mo_208 rfl d_Mo_merge_219 ?_
          refine lv_iadd hx hb d_Mo_merge_222 ?_
          refine lv_icmp_ge (tgt := 246) hx hb d_Mo_merge_223 (by decide) (fun c223_66 => ?_) (fun c223_66 => ?_)
          · replace hf := gp_t c223_66 hf
            refine lv_aload_n hx hb d_Mo_merge_246 rfl (lv_at hl 1 rfl) ?_
            refine gy_get (ci := 8) (v := Value.ref (b 80)) (C := "CommitLedgerModel") (T := F_Mo) (N := 35) hx hb hts i_Mo hown hK Y gF_46 rfl 27 (by decide) kf_Mo_67 rfl d_Mo_merge_247 ?_
            refine lv_aload_n hx hb d_Mo_merge_250 rfl (lv_at hl 1 rfl) ?_
            refine gy_get (ci := 8) (v := Value.int (X65.I 46 30)) (C := "CommitLedgerModel") (T := F_Mo) (N := 35) hx hb hts i_Mo hown hK Y gF_46 rfl 30 (by decide) kf_Mo_106 rfl d_Mo_merge_251 ?_
            refine lv_iload hx hb d_Mo_merge_254 (lv_at hl 4 rfl) ?_
            refine gy_iast hf hx hb hK Y 0 (fun _ => gF_80) ht0 d_Mo_merge_256 (fun X67 H locs hf Y => ?_)
            refine lv_aload_n hx hb d_Mo_merge_257 rfl (lv_at hl 1 rfl) ?_
            refine gy_get (ci := 8) (v := Value.ref (b 81)) (C := "CommitLedgerModel") (T := F_Mo) (N := 35) hx hb hts i_Mo hown hK Y gF_46 rfl 28 (by decide) kf_Mo_70 rfl d_Mo_merge_258 ?_
            refine lv_aload_n hx hb d_Mo_merge_261 rfl (lv_at hl 1 rfl) ?_
            refine gy_get (ci := 8) (v := Value.int (X67.I 46 30)) (C := "CommitLedgerModel") (T := F_Mo) (N := 35) hx hb hts i_Mo hown hK Y gF_46 rfl 30 (by decide) kf_Mo_106 rfl d_Mo_merge_262 ?_
            refine lv_aload_n hx hb d_Mo_merge_265 rfl (lv_at hl 1 rfl) ?_
            refine gy_get (ci := 8) (v := Value.int (X67.I 46 34)) (C := "CommitLedgerModel") (T := F_Mo) (N := 35) hx hb hts i_Mo hown hK Y gF_46 rfl 34 (by decide) kf_Mo_218 rfl d_Mo_merge_266 ?_
            refine gy_iast hf hx hb hK Y 0 (fun _ => gF_81) ht0 d_Mo_merge_269 (fun X68 H locs hf Y => ?_)
            refine lv_aload_n hx hb d_Mo_merge_270 rfl (lv_at hl 1 rfl) ?_
            refine gy_get (ci := 8) (v := Value.ref (b 82)) (C := "CommitLedgerModel") (T := F_Mo) (N := 35) hx hb hts i_Mo hown hK Y gF_46 rfl 29 (by decide) kf_Mo_73 rfl d_Mo_merge_271 ?_
            refine lv_aload_n hx hb d_Mo_merge_274 rfl (lv_at hl 1 rfl) ?_
            refine gy_get (ci := 8) (v := Value.int (X68.I 46 30)) (C := "CommitLedgerModel") (T := F_Mo) (N := 35) hx hb hts i_Mo hown hK Y gF_46 rfl 30 (by decide) kf_Mo_106 rfl d_Mo_merge_275 ?_
            refine lv_iload_n hx hb d_Mo_merge_278 rfl (lv_at hl 3 rfl) ?_
            refine gy_iast hf hx hb hK Y 0 (fun _ => gF_82) ht0 d_Mo_merge_279 (fun X69 H locs hf Y => ?_)
            refine lv_aload_n hx hb d_Mo_merge_280 rfl (lv_at hl 1 rfl) ?_
            refine lv_dup hx hb d_Mo_merge_281 rfl ?_
            refine gy_get (ci := 8) (v := Value.int (X69.I 46 30)) (C := "CommitLedgerModel") (T := F_Mo) (N := 35) hx hb hts i_Mo hown hK Y gF_46 rfl 30 (by decide) kf_Mo_106 rfl d_Mo_merge_282 ?_
            refine lv_iconst (v := 1) hx hb d_Mo_merge_285 (by decide) ?_
            refine lv_iadd hx hb d_Mo_merge_286 ?_
            refine gy_put hf (ci := 8) (ty := .int) (C := "CommitLedgerModel") (T := F_Mo) (N := 35) hx hb hts i_Mo t_Mo_ok n_Mo hown hK Y gF_46 rfl (by decide) kf_Mo_106 rfl (by decide +kernel) rfl rfl (Nat.le_of_ble_eq_true rfl) gF_46 d_Mo_merge_287 (fun X70 H locs hf Y => ?_)
            refine lv_aload_n hx hb d_Mo_merge_290 rfl (lv_at hl 1 rfl) ?_
            refine lv_aload_n hx hb d_Mo_merge_291 rfl (lv_at hl 1 rfl) ?_
            refine gy_get (ci := 8) (v := Value.int (X70.I 46 34)) (C := "CommitLedgerModel") (T := F_Mo) (N := 35) hx hb hts i_Mo hown hK Y gF_46 rfl 34 (by decide) kf_Mo_218 rfl d_Mo_merge_292 ?_
            refine lv_sipush (v := 12356) hx hb d_Mo_merge_295 (by decide) ?_
            obtain ⟨x71, X71, hF71, hf⟩ := gCi_el hf
            refine gy_callI (rm := { frames := 4, cells := 0, slots := 0, locals := 83 }) (ig := .invokevirtual 175) (av := [Value.ref (b 46), Value.int (X70.I 46 34), Value.int 12356]) Y (fun ws h hS hw => K_Mo_finished l htr D tys z _ ws h hS t ht b X70 hw (X70.I 46 34) 12356 (gR.i x71, X71) hF71) (gx_invV (As := [Value.int (X70.I 46 34), Value.int 12356]) (rest := []) hx hb hown hts km_Mo_175 kI_Mo_finished kV_Mo_finished kc_Mo_finished (by decide) (show (parseMethodDescriptor y_Mo_finished.desc).map (fun d => d.parameters.length) = some 2 by decide +kernel) (gy_recv (ci := 8) hK Y rfl gF_46) rfl rfl d_Mo_merge_298) (gx_cw (z := 0) hts kc_Mo_finished kN_Mo rfl rfl ⟨Nat.le_of_ble_eq_true rfl, Nat.le_of_ble_eq_true rfl⟩) hb hml hz hK hY hAz hA hl.1 (lv_room (Nat.le_of_ble_eq_true rfl)) d_Mo_merge_298 ⟨Nat.zero_le _, Nat.zero_le _⟩ (fun H locs Y => ?_)
            replace hf := gU hf ho65
            exact gy_iret hf hx hb hr hlocks hK Y (Nat.zero_le _) (Nat.zero_le _) d_Mo_merge_301
          · replace hf := gp_f c223_66 hf
            refine lv_aload_n hx hb d_Mo_merge_226 rfl (lv_at hl 1 rfl) ?_
            refine gy_get (ci := 8) (v := Value.ref (b 54)) (C := "CommitLedgerModel") (T := F_Mo) (N := 35) hx hb hts i_Mo hown hK Y gF_46 rfl 15 (by decide) kf_Mo_40 rfl d_Mo_merge_227 ?_
            refine gy_get (ci := 9) (v := Value.ref (b 58)) (C := "CommitLedgerModel$Version") (T := F_Ve) (N := 11) hx hb hts i_Ve hown hK Y gF_54 rfl 3 (by decide) kf_Mo_166 rfl d_Mo_merge_230 ?_
            refine lv_iload hx hb d_Mo_merge_233 (lv_at hl 0 rfl) ?_
            refine lv_aload_n hx hb d_Mo_merge_235 rfl (lv_at hl 1 rfl) ?_
            refine gy_get (ci := 8) (v := Value.int (X65.I 46 34)) (C := "CommitLedgerModel") (T := F_Mo) (N := 35) hx hb hts i_Mo hown hK Y gF_46 rfl 34 (by decide) kf_Mo_218 rfl d_Mo_merge_236 ?_
            refine gy_iast hf hx hb hK Y 0 (fun _ => gF_58) ht0 d_Mo_merge_239 (fun X72 H locs hf Y => ?_)
            refine lv_iinc (v := i5_65 + 1) (lv' := [(5, Value.int (i5_65 + 1)), (0, Value.ref (b 46)), (2, Value.int i2_56), (3, Value.int x59), (4, Value.int i4_62)]) hx hb d_Mo_merge_240 hl (k := 0) rfl (rfl) (by decide) rfl (fun ls hl => ?_)
            refine lv_goto (tgt := 215) hx hb d_Mo_merge_243 (by decide) ?_
            exact hk65 _ _ _ _ hf (lv_sub hl [0, 1, 2, 3, 4] rfl) Y
        · replace hf := gp_f c162_64 hf
          refine lv_aload_n hx hb d_Mo_merge_165 rfl (lv_at hl 2 rfl) ?_
          refine gy_get (ci := 8) (v := Value.ref (b 54)) (C := "CommitLedgerModel") (T := F_Mo) (N := 35) hx hb hts i_Mo hown hK Y gF_46 rfl 15 (by decide) kf_Mo_40 rfl d_Mo_merge_166 ?_
          refine gy_get (ci := 9) (v := Value.ref (b 60)) (C := "CommitLedgerModel$Version") (T := F_Ve) (N := 11) hx hb hts i_Ve hown hK Y gF_54 rfl 5 (by decide) kf_Mo_188 rfl d_Mo_merge_169 ?_
          refine lv_iload hx hb d_Mo_merge_172 (lv_at hl 1 rfl) ?_
          refine gy_zald hf hx hb hK Y 1 (fun _ => gF_60) ht1 d_Mo_merge_174 (fun _ hf => ?_)
          refine lv_if_ne (tgt := 181) hx hb d_Mo_merge_175 (by decide) (fun c175_73 => ?_) (fun c175_73 => ?_)
          · replace hf := gp_f c175_73 hf
            refine lv_aload_n hx hb d_Mo_merge_181 rfl (lv_at hl 2 rfl) ?_
            refine gy_get (ci := 8) (v := Value.ref (b 121)) (C := "CommitLedgerModel") (T := F_Mo) (N := 35) hx hb hts i_Mo hown hK Y gF_46 rfl 26 (by decide) kf_Mo_64 rfl d_Mo_merge_182 ?_
            refine lv_aload_n hx hb d_Mo_merge_185 rfl (lv_at hl 2 rfl) ?_
            refine gy_get (ci := 8) (v := Value.int (X62.I 46 30)) (C := "CommitLedgerModel") (T := F_Mo) (N := 35) hx hb hts i_Mo hown hK Y gF_46 rfl 30 (by decide) kf_Mo_106 rfl d_Mo_merge_186 ?_
            refine gy_aaldA hf hx hb hK Y 8 gF_121 ht8 d_Mo_merge_189 (fun hf => ?_)
            refine lv_iload hx hb d_Mo_merge_190 (lv_at hl 0 rfl) ?_
            refine lv_aload_n hx hb d_Mo_merge_192 rfl (lv_at hl 2 rfl) ?_
            refine gy_get (ci := 8) (v := Value.ref (b 54)) (C := "CommitLedgerModel") (T := F_Mo) (N := 35) hx hb hts i_Mo hown hK Y gF_46 rfl 15 (by decide) kf_Mo_40 rfl d_Mo_merge_193 ?_
            refine gy_get (ci := 9) (v := Value.ref (b 59)) (C := "CommitLedgerModel$Version") (T := F_Ve) (N := 11) hx hb hts i_Ve hown hK Y gF_54 rfl 4 (by decide) kf_Mo_185 rfl d_Mo_merge_196 ?_
            refine lv_iload hx hb d_Mo_merge_199 (lv_at hl 1 rfl) ?_
            refine gy_iald hf hx hb hK Y 0 (fun _ => gF_59) ht0 d_Mo_merge_201 (fun _ hf => ?_)
            obtain ⟨n74, e74, hf⟩ := gM_el hf
            refine W.eq (g2 := F0 m 202 ls [Value.int (X62.I 59 (gn i5_62)), Value.int i4_62, Value.ref (b n74)]) (by rw [e74] <;> rfl) ?_
            obtain ⟨hv75, hf⟩ := gp_g hf
            refine gy_iast hf hx hb hK Y 0 (fun _ => (gF_Ro hv75)) ht0 d_Mo_merge_202 (fun X76 H locs hf Y => ?_)
            refine lv_iinc (v := i4_62 + 1) (lv' := [(4, Value.int (i4_62 + 1)), (5, Value.int i5_62), (0, Value.ref (b 46)), (2, Value.int i2_56), (3, Value.int x59)]) hx hb d_Mo_merge_203 hl (k := 0) rfl (rfl) (by decide) rfl (fun ls hl => ?_)
            exact J206 (X76, i4_62 + 1, i5_62) _ _ _ hf (lv_sub hl [0, 1, 2, 3, 4] rfl) Y
          · replace hf := gp_t c175_73 hf
            refine lv_goto (tgt := 206) hx hb d_Mo_merge_178 (by decide) ?_
            exact J206 (X62, i4_62, i5_62) _ _ _ hf (lv_sub hl [0, 1, 2, 3, 4] rfl) Y
      · replace hf := gp_f c110_60 hf
        refine lv_aload_n hx hb d_Mo_merge_113 rfl (lv_at hl 2 rfl) ?_
        refine lv_iconst (v := 0) hx hb d_Mo_merge_114 (by decide) ?_
        refine lv_sipush (v := 12356) hx hb d_Mo_merge_115 (by decide) ?_
        obtain ⟨x77, X77, hF77, hf⟩ := gCi_el hf
        refine gy_callI (rm := { frames := 4, cells := 0, slots := 0, locals := 83 }) (ig := .invokevirtual 175) (av := [Value.ref (b 46), Value.int 0, Value.int 12356]) Y (fun ws h hS hw => K_Mo_finished l htr D tys z _ ws h hS t ht b X59 hw 0 12356 (gR.i x77, X77) hF77) (gx_invV (As := [Value.int 0, Value.int 12356]) (rest := []) hx hb hown hts km_Mo_175 kI_Mo_finished kV_Mo_finished kc_Mo_finished (by decide) (show (parseMethodDescriptor y_Mo_finished.desc).map (fun d => d.parameters.length) = some 2 by decide +kernel) (gy_recv (ci := 8) hK Y rfl gF_46) rfl rfl d_Mo_merge_118) (gx_cw (z := 0) hts kc_Mo_finished kN_Mo rfl rfl ⟨Nat.le_of_ble_eq_true rfl, Nat.le_of_ble_eq_true rfl⟩) hb hml hz hK hY hAz hA hl.1 (lv_room (Nat.le_of_ble_eq_true rfl)) d_Mo_merge_118 ⟨Nat.zero_le _, Nat.zero_le _⟩ (fun H locs Y => ?_)
        exact gy_iret hf hx hb hr hlocks hK Y (Nat.zero_le _) (Nat.zero_le _) d_Mo_merge_121
    · replace hf := gp_f c92_58 hf
      refine lv_aload_n hx hb d_Mo_merge_95 rfl (lv_at hl 1 rfl) ?_
      refine lv_iconst (v := 0) hx hb d_Mo_merge_96 (by decide) ?_
      refine lv_sipush (v := 12356) hx hb d_Mo_merge_97 (by decide) ?_
      obtain ⟨x78, X78, hF78, hf⟩ := gCi_el hf
      refine gy_callI (rm := { frames := 1, cells := 0, slots := 0, locals := 12 }) (ig := .invokevirtual 148) (av := [Value.ref (b 46), Value.int 0, Value.int 12356]) Y (fun ws h hS hw => K_Mo_done l htr D tys z _ ws h hS t ht b X57 hw 0 12356 (gR.i x78, X78) hF78) (gx_invV (As := [Value.int 0, Value.int 12356]) (rest := []) hx hb hown hts km_Mo_148 kI_Mo_done kV_Mo_done kc_Mo_done (by decide) (show (parseMethodDescriptor y_Mo_done.desc).map (fun d => d.parameters.length) = some 2 by decide +kernel) (gy_recv (ci := 8) hK Y rfl gF_46) rfl rfl d_Mo_merge_100) (gx_cw (z := 0) hts kc_Mo_done kN_Mo rfl rfl ⟨Nat.le_of_ble_eq_true rfl, Nat.le_of_ble_eq_true rfl⟩) hb hml hz hK hY hAz hA hl.1 (lv_room (Nat.le_of_ble_eq_true rfl)) d_Mo_merge_100 ⟨Nat.zero_le _, Nat.zero_le _⟩ (fun H locs Y => ?_)
      exact gy_iret hf hx hb hr hlocks hK Y (Nat.zero_le _) (Nat.zero_le _) d_Mo_merge_103
  refine gy_cut (pcJ := 63) Y (fun s : gX => f_Mo_merge_63 s) o (fun s => s) (fun s ls => lv_has ls 6 [(0, Value.ref (b 46))]) (fun s => []) ?_ (fun J63 => ?_)
  · rintro X79 H locs ls hf hl Y
    have hl : lv_has ls 6 [(0, Value.ref (b 46))] := hl
    have Y : gy D t b A s.heap X0 X79 H locs := Y
    have hf : f_Mo_merge_63 X79 = some o := hf
    unfold f_Mo_merge_63 at hf
    refine lv_aload_n hx hb d_Mo_merge_63 rfl (lv_at hl 0 rfl) ?_
    refine lv_iconst (v := 0) hx hb d_Mo_merge_64 (by decide) ?_
    refine lv_sipush (v := 12356) hx hb d_Mo_merge_65 (by decide) ?_
    obtain ⟨x80, X80, hF80, hf⟩ := gCi_el hf
    refine gy_callI (rm := { frames := 1, cells := 0, slots := 0, locals := 12 }) (ig := .invokevirtual 148) (av := [Value.ref (b 46), Value.int 0, Value.int 12356]) Y (fun ws h hS hw => K_Mo_done l htr D tys z _ ws h hS t ht b X79 hw 0 12356 (gR.i x80, X80) hF80) (gx_invV (As := [Value.int 0, Value.int 12356]) (rest := []) hx hb hown hts km_Mo_148 kI_Mo_done kV_Mo_done kc_Mo_done (by decide) (show (parseMethodDescriptor y_Mo_done.desc).map (fun d => d.parameters.length) = some 2 by decide +kernel) (gy_recv (ci := 8) hK Y rfl gF_46) rfl rfl d_Mo_merge_68) (gx_cw (z := 0) hts kc_Mo_done kN_Mo rfl rfl ⟨Nat.le_of_ble_eq_true rfl, Nat.le_of_ble_eq_true rfl⟩) hb hml hz hK hY hAz hA hl.1 (lv_room (Nat.le_of_ble_eq_true rfl)) d_Mo_merge_68 ⟨Nat.zero_le _, Nat.zero_le _⟩ (fun H locs Y => ?_)
    exact gy_iret hf hx hb hr hlocks hK Y (Nat.zero_le _) (Nat.zero_le _) d_Mo_merge_71
  refine gy_cut (pcJ := 56) Y (fun s : gX × Int32 => f_Mo_merge_56 s.1 a1 s.2) o (fun s => s.1) (fun s ls => lv_has ls 6 [(0, Value.ref (b 46)), (1, Value.int a1)]) (fun s => [Value.int s.2, Value.ref (b 46)]) ?_ (fun J56 => ?_)
  · rintro ⟨X81, i1000_81⟩ H locs ls hf hl Y
    have hl : lv_has ls 6 [(0, Value.ref (b 46)), (1, Value.int a1)] := hl
    have Y : gy D t b A s.heap X0 X81 H locs := Y
    have hf : f_Mo_merge_56 X81 a1 i1000_81 = some o := hf
    unfold f_Mo_merge_56 at hf
    refine W.eq (g2 := F0 m 56 ls [Value.int i1000_81, Value.ref (b 46)]) rfl ?_
    refine lv_iconst (v := 5) hx hb d_Mo_merge_56 (by decide) ?_
    obtain ⟨x82, X82, hF82, hf⟩ := gCi_el hf
    refine gy_callI (rm := { frames := 1, cells := 0, slots := 0, locals := 12 }) (ig := .invokevirtual 152) (av := [Value.ref (b 46), Value.int i1000_81, Value.int 5]) Y (fun ws h hS hw => K_Mo_wrong l htr D tys z _ ws h hS t ht b X81 hw i1000_81 5 (gR.i x82, X82) hF82) (gx_invV (As := [Value.int i1000_81, Value.int 5]) (rest := []) hx hb hown hts km_Mo_152 kI_Mo_wrong kV_Mo_wrong kc_Mo_wrong (by decide) (show (parseMethodDescriptor y_Mo_wrong.desc).map (fun d => d.parameters.length) = some 2 by decide +kernel) (gy_recv (ci := 8) hK Y rfl gF_46) rfl rfl d_Mo_merge_57) (gx_cw (z := 0) hts kc_Mo_wrong kN_Mo rfl rfl ⟨Nat.le_of_ble_eq_true rfl, Nat.le_of_ble_eq_true rfl⟩) hb hml hz hK hY hAz hA hl.1 (lv_room (Nat.le_of_ble_eq_true rfl)) d_Mo_merge_57 ⟨Nat.zero_le _, Nat.zero_le _⟩ (fun H locs Y => ?_)
    refine lv_if_eq (tgt := 72) hx hb d_Mo_merge_60 (by decide) (fun c60_83 => ?_) (fun c60_83 => ?_)
    · replace hf := gp_t c60_83 hf
      refine lv_aload_n hx hb d_Mo_merge_72 rfl (lv_at hl 0 rfl) ?_
      refine lv_iload_n hx hb d_Mo_merge_73 rfl (lv_at hl 1 rfl) ?_
      obtain ⟨x84, X84, hF84, hf⟩ := gCi_el hf
      refine gy_callI (rm := { frames := 4, cells := 0, slots := 0, locals := 84 }) (ig := .invokevirtual 215) (av := [Value.ref (b 46), Value.int a1]) Y (fun ws h hS hw => K_Mo_chosen l htr D tys z _ ws h hS t ht b X82 hw a1 (gR.i x84, X84) hF84) (gx_invV (As := [Value.int a1]) (rest := []) hx hb hown hts km_Mo_215 kI_Mo_chosen kV_Mo_chosen kc_Mo_chosen (by decide) (show (parseMethodDescriptor y_Mo_chosen.desc).map (fun d => d.parameters.length) = some 1 by decide +kernel) (gy_recv (ci := 8) hK Y rfl gF_46) rfl rfl d_Mo_merge_74) (gx_cw (z := 0) hts kc_Mo_chosen kN_Mo rfl rfl ⟨Nat.le_of_ble_eq_true rfl, Nat.le_of_ble_eq_true rfl⟩) hb hml hz hK hY hAz hA hl.1 (lv_room (Nat.le_of_ble_eq_true rfl)) d_Mo_merge_74 ⟨Nat.zero_le _, Nat.zero_le _⟩ (fun H locs Y => ?_)
      refine lv_istore_n (lv' := [(2, Value.int x84), (0, Value.ref (b 46)), (1, Value.int a1)]) hx hb d_Mo_merge_77 rfl hl (by decide) rfl (fun ls hl => ?_)
      refine lv_aload_n hx hb d_Mo_merge_78 rfl (lv_at hl 1 rfl) ?_
      refine lv_iload_n hx hb d_Mo_merge_79 rfl (lv_at hl 0 rfl) ?_
      refine lv_if_ge (tgt := 87) hx hb d_Mo_merge_80 (by decide) (fun c80_85 => ?_) (fun c80_85 => ?_)
      · replace hf := gp_t c80_85 hf
        refine lv_iconst (v := 0) hx hb d_Mo_merge_87 (by decide) ?_
        exact J88 (X84, x84, 0) _ _ _ hf (lv_sub hl [0, 1] rfl) Y
      · replace hf := gp_f c80_85 hf
        refine lv_iconst (v := 1) hx hb d_Mo_merge_83 (by decide) ?_
        refine lv_goto (tgt := 88) hx hb d_Mo_merge_84 (by decide) ?_
        exact J88 (X84, x84, 1) _ _ _ hf (lv_sub hl [0, 1] rfl) Y
    · replace hf := gp_f c60_83 hf
      exact J63 X82 _ _ _ hf (lv_sub hl [0] rfl) Y
  refine gy_cut (pcJ := 35) Y (fun s : gX × Int32 => f_Mo_merge_35 s.1 a1 s.2) o (fun s => s.1) (fun s ls => lv_has ls 6 [(0, Value.ref (b 46)), (1, Value.int a1)]) (fun s => [Value.int s.2, Value.ref (b 46)]) ?_ (fun J35 => ?_)
  · rintro ⟨X86, i1000_86⟩ H locs ls hf hl Y
    have hl : lv_has ls 6 [(0, Value.ref (b 46)), (1, Value.int a1)] := hl
    have Y : gy D t b A s.heap X0 X86 H locs := Y
    have hf : f_Mo_merge_35 X86 a1 i1000_86 = some o := hf
    unfold f_Mo_merge_35 at hf
    refine W.eq (g2 := F0 m 35 ls [Value.int i1000_86, Value.ref (b 46)]) rfl ?_
    refine lv_iconst (v := 2) hx hb d_Mo_merge_35 (by decide) ?_
    obtain ⟨x87, X87, hF87, hf⟩ := gCi_el hf
    refine gy_callI (rm := { frames := 1, cells := 0, slots := 0, locals := 12 }) (ig := .invokevirtual 152) (av := [Value.ref (b 46), Value.int i1000_86, Value.int 2]) Y (fun ws h hS hw => K_Mo_wrong l htr D tys z _ ws h hS t ht b X86 hw i1000_86 2 (gR.i x87, X87) hF87) (gx_invV (As := [Value.int i1000_86, Value.int 2]) (rest := []) hx hb hown hts km_Mo_152 kI_Mo_wrong kV_Mo_wrong kc_Mo_wrong (by decide) (show (parseMethodDescriptor y_Mo_wrong.desc).map (fun d => d.parameters.length) = some 2 by decide +kernel) (gy_recv (ci := 8) hK Y rfl gF_46) rfl rfl d_Mo_merge_36) (gx_cw (z := 0) hts kc_Mo_wrong kN_Mo rfl rfl ⟨Nat.le_of_ble_eq_true rfl, Nat.le_of_ble_eq_true rfl⟩) hb hml hz hK hY hAz hA hl.1 (lv_room (Nat.le_of_ble_eq_true rfl)) d_Mo_merge_36 ⟨Nat.zero_le _, Nat.zero_le _⟩ (fun H locs Y => ?_)
    refine lv_if_ne (tgt := 63) hx hb d_Mo_merge_39 (by decide) (fun c39_88 => ?_) (fun c39_88 => ?_)
    · replace hf := gp_f c39_88 hf
      exact J63 X87 _ _ _ hf (lv_sub hl [0] rfl) Y
    · replace hf := gp_t c39_88 hf
      refine lv_aload_n hx hb d_Mo_merge_42 rfl (lv_at hl 0 rfl) ?_
      refine lv_aload_n hx hb d_Mo_merge_43 rfl (lv_at hl 0 rfl) ?_
      refine gy_get (ci := 8) (v := Value.int (X87.I 46 30)) (C := "CommitLedgerModel") (T := F_Mo) (N := 35) hx hb hts i_Mo hown hK Y gF_46 rfl 30 (by decide) kf_Mo_106 rfl d_Mo_merge_44 ?_
      refine lv_iconst (v := 4) hx hb d_Mo_merge_47 (by decide) ?_
      refine lv_icmp_ne (tgt := 55) hx hb d_Mo_merge_48 (by decide) (fun c48_89 => ?_) (fun c48_89 => ?_)
      · replace hf := gp_f c48_89 hf
        refine lv_iconst (v := 0) hx hb d_Mo_merge_55 (by decide) ?_
        exact J56 (X87, 0) _ _ _ hf (lv_sub hl [0, 1] rfl) Y
      · replace hf := gp_t c48_89 hf
        refine lv_iconst (v := 1) hx hb d_Mo_merge_51 (by decide) ?_
        refine lv_goto (tgt := 56) hx hb d_Mo_merge_52 (by decide) ?_
        exact J56 (X87, 1) _ _ _ hf (lv_sub hl [0, 1] rfl) Y
  refine gy_cut (pcJ := 15) Y (fun s : gX × Int32 => f_Mo_merge_15 s.1 a1 s.2) o (fun s => s.1) (fun s ls => lv_has ls 6 [(0, Value.ref (b 46)), (1, Value.int a1)]) (fun s => [Value.int s.2, Value.ref (b 46)]) ?_ (fun J15 => ?_)
  · rintro ⟨X90, i1000_90⟩ H locs ls hf hl Y
    have hl : lv_has ls 6 [(0, Value.ref (b 46)), (1, Value.int a1)] := hl
    have Y : gy D t b A s.heap X0 X90 H locs := Y
    have hf : f_Mo_merge_15 X90 a1 i1000_90 = some o := hf
    unfold f_Mo_merge_15 at hf
    refine W.eq (g2 := F0 m 15 ls [Value.int i1000_90, Value.ref (b 46)]) rfl ?_
    refine lv_iconst (v := 1) hx hb d_Mo_merge_15 (by decide) ?_
    obtain ⟨x91, X91, hF91, hf⟩ := gCi_el hf
    refine gy_callI (rm := { frames := 1, cells := 0, slots := 0, locals := 12 }) (ig := .invokevirtual 152) (av := [Value.ref (b 46), Value.int i1000_90, Value.int 1]) Y (fun ws h hS hw => K_Mo_wrong l htr D tys z _ ws h hS t ht b X90 hw i1000_90 1 (gR.i x91, X91) hF91) (gx_invV (As := [Value.int i1000_90, Value.int 1]) (rest := []) hx hb hown hts km_Mo_152 kI_Mo_wrong kV_Mo_wrong kc_Mo_wrong (by decide) (show (parseMethodDescriptor y_Mo_wrong.desc).map (fun d => d.parameters.length) = some 2 by decide +kernel) (gy_recv (ci := 8) hK Y rfl gF_46) rfl rfl d_Mo_merge_16) (gx_cw (z := 0) hts kc_Mo_wrong kN_Mo rfl rfl ⟨Nat.le_of_ble_eq_true rfl, Nat.le_of_ble_eq_true rfl⟩) hb hml hz hK hY hAz hA hl.1 (lv_room (Nat.le_of_ble_eq_true rfl)) d_Mo_merge_16 ⟨Nat.zero_le _, Nat.zero_le _⟩ (fun H locs Y => ?_)
    refine lv_if_ne (tgt := 63) hx hb d_Mo_merge_19 (by decide) (fun c19_92 => ?_) (fun c19_92 => ?_)
    · replace hf := gp_f c19_92 hf
      exact J63 X91 _ _ _ hf (lv_sub hl [0] rfl) Y
    · replace hf := gp_t c19_92 hf
      refine lv_aload_n hx hb d_Mo_merge_22 rfl (lv_at hl 0 rfl) ?_
      refine lv_aload_n hx hb d_Mo_merge_23 rfl (lv_at hl 0 rfl) ?_
      refine gy_get (ci := 8) (v := Value.int (X91.I 46 18)) (C := "CommitLedgerModel") (T := F_Mo) (N := 35) hx hb hts i_Mo hown hK Y gF_46 rfl 18 (by decide) kf_Mo_99 rfl d_Mo_merge_24 ?_
      refine lv_if_ne (tgt := 34) hx hb d_Mo_merge_27 (by decide) (fun c27_93 => ?_) (fun c27_93 => ?_)
      · replace hf := gp_f c27_93 hf
        refine lv_iconst (v := 0) hx hb d_Mo_merge_34 (by decide) ?_
        exact J35 (X91, 0) _ _ _ hf (lv_sub hl [0, 1] rfl) Y
      · replace hf := gp_t c27_93 hf
        refine lv_iconst (v := 1) hx hb d_Mo_merge_30 (by decide) ?_
        refine lv_goto (tgt := 35) hx hb d_Mo_merge_31 (by decide) ?_
        exact J35 (X91, 1) _ _ _ hf (lv_sub hl [0, 1] rfl) Y
  refine gy_cut (pcJ := 10) Y (fun s : gX => f_Mo_merge_10 s a1) o (fun s => s) (fun s ls => lv_has ls 6 [(0, Value.ref (b 46)), (1, Value.int a1)]) (fun s => [Value.ref (b 46)]) ?_ (fun J10 => ?_)
  · rintro X94 H locs ls hf hl Y
    have hl : lv_has ls 6 [(0, Value.ref (b 46)), (1, Value.int a1)] := hl
    have Y : gy D t b A s.heap X0 X94 H locs := Y
    have hf : f_Mo_merge_10 X94 a1 = some o := hf
    unfold f_Mo_merge_10 at hf
    refine W.eq (g2 := F0 m 10 ls [Value.ref (b 46)]) rfl ?_
    refine lv_iconst (v := 1) hx hb d_Mo_merge_10 (by decide) ?_
    refine lv_goto (tgt := 15) hx hb d_Mo_merge_11 (by decide) ?_
    exact J15 (X94, 1) _ _ _ hf (lv_sub hl [0, 1] rfl) Y
  unfold f_Mo_merge at hf
  refine lv_aload_n hx hb d_Mo_merge_0 rfl (lv_at hl 0 rfl) ?_
  refine lv_iload_n hx hb d_Mo_merge_1 rfl (lv_at hl 1 rfl) ?_
  refine lv_if_lt (tgt := 10) hx hb d_Mo_merge_2 (by decide) (fun c2_95 => ?_) (fun c2_95 => ?_)
  · replace hf := gp_t c2_95 hf
    exact J10 X0 _ _ _ hf (lv_sub hl [0, 1] rfl) Y
  · replace hf := gp_f c2_95 hf
    refine lv_iload_n hx hb d_Mo_merge_5 rfl (lv_at hl 1 rfl) ?_
    refine lv_iconst (v := 1) hx hb d_Mo_merge_6 (by decide) ?_
    refine lv_icmp_le (tgt := 14) hx hb d_Mo_merge_7 (by decide) (fun c7_96 => ?_) (fun c7_96 => ?_)
    · replace hf := gp_t c7_96 hf
      refine lv_iconst (v := 0) hx hb d_Mo_merge_14 (by decide) ?_
      exact J15 (X0, 0) _ _ _ hf (lv_sub hl [0, 1] rfl) Y
    · replace hf := gp_f c7_96 hf
      exact J10 X0 _ _ _ hf (lv_sub hl [0, 1] rfl) Y

def f_Mo_finish_67 (X : gX) : Option (gR × gX) := gCi (f_Mo_done X 0 23) (fun x6 X6 => some (gR.i x6, X6))
def f_Mo_finish_60 (X : gX) (i2 : Int32) (i3 : Int32) (i1000 : Int32) : Option (gR × gX) := gCi (f_Mo_wrong X i1000 3) (fun x8 X8 => (if x8 = (0 : Int32) then gCv (f_Mo_ending X8 i3 i2) (fun X10 => gCi (f_Mo_finished X10 (X10.I 54 7) 23) (fun x11 X11 => some (gR.i x11, X11))) else f_Mo_finish_67 X8))
def f_Mo_finish_39 (X : gX) (i2 : Int32) (i3 : Int32) (i1000 : Int32) : Option (gR × gX) := gCi (f_Mo_wrong X i1000 2) (fun x4 X4 => (if x4 = (0 : Int32) then (if i3 = (X4.I 46 30) then f_Mo_finish_60 X4 i2 i3 1 else f_Mo_finish_60 X4 i2 i3 0) else f_Mo_finish_67 X4))
def f_Mo_finish_26 (X : gX) (i2 : Int32) (i3 : Int32) : Option (gR × gX) := (if (X.I 46 18) = (0 : Int32) then f_Mo_finish_39 X i2 i3 1 else f_Mo_finish_39 X i2 i3 0)
def f_Mo_finish_2 (X : gX) (i1 : Int32) (i2 : Int32) (i3 : Int32) : Option ((Int32) ⊕ (gR × gX)) := (if (X.I 46 30) ≤ i3 then gLf (f_Mo_finish_26 X i2 i3) else (if gIn i3 4 then (if (X.I 81 (gn i3)) = i1 then gLf (f_Mo_finish_26 X i2 i3) else some (Sum.inl (i3 + 1))) else none))
def f_Mo_finish (X0 : gX) (a1 : Int32) (a2 : Int32) : Option (gR × gX) := gI (fun s : Int32 => f_Mo_finish_2 X0 a1 a2 s) gK 0
set_option maxHeartbeats 4000000 in
set_option maxRecDepth 100000 in
theorem K_Mo_finish (l : Launch) (htr : l.stackTraces = false) (D : va_G) (tys : List (ClassId × FieldType)) (z sz : Nat) (ws : va_W) (h : gm_M) (hM : gm_S h ws) (t : Nat → ClassId) (ht : gTy t tys) (b : Nat → Nat) (X0 : gX) (hw : gw D t b X0 h) (a1 : Int32) (a2 : Int32) (o : gR × gX) (hf : f_Mo_finish X0 a1 a2 = some o) : gx_Met l y_Mo_finish [Cond.code y_Mo_finish b_Mo_finish 4 (some .int)] { frames := 5, cells := 0, slots := 0, locals := 105 } (gx_P z sz D classes tys ws [Value.ref (b 46), Value.int a1, Value.int a2]) (gx_Q D classes tys (va_A ws sz) (gPo D t b X0 o)) (0) (0) (va_A ws sz) := by
  refine gx_ofW (cc := b_Mo_finish) (maxL := 4) (ret := (some .int)) (by decide) rfl ?_
  intro p e s m args below meth c s₁ B hml hv
  obtain ⟨rfl, hsz, hz, hP, hK, hD0, hY⟩ := hv
  have hx := B.exec
  have hb := B.bytes
  have hr := B.returns
  have hts := hY.hts (#[Value.ref (b 46), Value.int a1, Value.int a2] : Array Value)
  have hown : s.vm.findClass "CommitLedgerModel" = some m.cls := findClass_of_methodNamed B.named
  have hlocks := B.notSynchronized
  subst hsz
  have hAz := gx_az hD0 hz
  have hD := hD0.self (sz := s.heap.size)
  have hA : ∀ q : Nat, s.heap.size ≤ q → va_A ws s.heap.size q := fun q h => Or.inr h
  generalize va_A ws s.heap.size = A at hD hA hAz ⊢
  have Y : gy D t b A s.heap X0 X0 s.heap [] := ⟨h, ⟨ws, hM, hP, hD, va_S.rf⟩, hw, gEq.rf⟩
  clear hP hD hM hD0 hw
  obtain ⟨ht0, ht1, ht2, ht3, ht4, ht5, ht6, ht7, ht8⟩ := id ht
  have hl := lv_entry ([Value.ref (b 46), Value.int a1, Value.int a2]) (n := 4) (Nat.le_of_ble_eq_true rfl)
  rw [lg_entry_eq]
  generalize (lg_sl ([Value.ref (b 46), Value.int a1, Value.int a2]) ++ List.replicate (4 - (lg_sl ([Value.ref (b 46), Value.int a1, Value.int a2])).length) Slot.unset).toArray = ls at hl ⊢
  have hl : lv_has ls 4 [(0, Value.ref (b 46)), (1, Value.int a1), (2, Value.int a2)] := hl
  refine gy_cut (pcJ := 67) Y (fun s : gX => f_Mo_finish_67 s) o (fun s => s) (fun s ls => lv_has ls 4 [(0, Value.ref (b 46))]) (fun s => []) ?_ (fun J67 => ?_)
  · rintro X15 H locs ls hf hl Y
    have hl : lv_has ls 4 [(0, Value.ref (b 46))] := hl
    have Y : gy D t b A s.heap X0 X15 H locs := Y
    have hf : f_Mo_finish_67 X15 = some o := hf
    unfold f_Mo_finish_67 at hf
    refine lv_aload_n hx hb d_Mo_finish_67 rfl (lv_at hl 0 rfl) ?_
    refine lv_iconst (v := 0) hx hb d_Mo_finish_68 (by decide) ?_
    refine lv_bipush (v := 23) hx hb d_Mo_finish_69 (by decide) ?_
    obtain ⟨x16, X16, hF16, hf⟩ := gCi_el hf
    refine gy_callI (rm := { frames := 1, cells := 0, slots := 0, locals := 12 }) (ig := .invokevirtual 148) (av := [Value.ref (b 46), Value.int 0, Value.int 23]) Y (fun ws h hS hw => K_Mo_done l htr D tys z _ ws h hS t ht b X15 hw 0 23 (gR.i x16, X16) hF16) (gx_invV (As := [Value.int 0, Value.int 23]) (rest := []) hx hb hown hts km_Mo_148 kI_Mo_done kV_Mo_done kc_Mo_done (by decide) (show (parseMethodDescriptor y_Mo_done.desc).map (fun d => d.parameters.length) = some 2 by decide +kernel) (gy_recv (ci := 8) hK Y rfl gF_46) rfl rfl d_Mo_finish_71) (gx_cw (z := 0) hts kc_Mo_done kN_Mo rfl rfl ⟨Nat.le_of_ble_eq_true rfl, Nat.le_of_ble_eq_true rfl⟩) hb hml hz hK hY hAz hA hl.1 (lv_room (Nat.le_of_ble_eq_true rfl)) d_Mo_finish_71 ⟨Nat.zero_le _, Nat.zero_le _⟩ (fun H locs Y => ?_)
    exact gy_iret hf hx hb hr hlocks hK Y (Nat.zero_le _) (Nat.zero_le _) d_Mo_finish_74
  refine gy_cut (pcJ := 60) Y (fun s : gX × Int32 × Int32 => f_Mo_finish_60 s.1 a2 s.2.1 s.2.2) o (fun s => s.1) (fun s ls => lv_has ls 4 [(3, Value.int s.2.1), (0, Value.ref (b 46)), (2, Value.int a2)]) (fun s => [Value.int s.2.2, Value.ref (b 46)]) ?_ (fun J60 => ?_)
  · rintro ⟨X17, i3_17, i1000_17⟩ H locs ls hf hl Y
    have hl : lv_has ls 4 [(3, Value.int i3_17), (0, Value.ref (b 46)), (2, Value.int a2)] := hl
    have Y : gy D t b A s.heap X0 X17 H locs := Y
    have hf : f_Mo_finish_60 X17 a2 i3_17 i1000_17 = some o := hf
    unfold f_Mo_finish_60 at hf
    refine W.eq (g2 := F0 m 60 ls [Value.int i1000_17, Value.ref (b 46)]) rfl ?_
    refine lv_iconst (v := 3) hx hb d_Mo_finish_60 (by decide) ?_
    obtain ⟨x18, X18, hF18, hf⟩ := gCi_el hf
    refine gy_callI (rm := { frames := 1, cells := 0, slots := 0, locals := 12 }) (ig := .invokevirtual 152) (av := [Value.ref (b 46), Value.int i1000_17, Value.int 3]) Y (fun ws h hS hw => K_Mo_wrong l htr D tys z _ ws h hS t ht b X17 hw i1000_17 3 (gR.i x18, X18) hF18) (gx_invV (As := [Value.int i1000_17, Value.int 3]) (rest := []) hx hb hown hts km_Mo_152 kI_Mo_wrong kV_Mo_wrong kc_Mo_wrong (by decide) (show (parseMethodDescriptor y_Mo_wrong.desc).map (fun d => d.parameters.length) = some 2 by decide +kernel) (gy_recv (ci := 8) hK Y rfl gF_46) rfl rfl d_Mo_finish_61) (gx_cw (z := 0) hts kc_Mo_wrong kN_Mo rfl rfl ⟨Nat.le_of_ble_eq_true rfl, Nat.le_of_ble_eq_true rfl⟩) hb hml hz hK hY hAz hA hl.1 (lv_room (Nat.le_of_ble_eq_true rfl)) d_Mo_finish_61 ⟨Nat.zero_le _, Nat.zero_le _⟩ (fun H locs Y => ?_)
    refine lv_if_eq (tgt := 75) hx hb d_Mo_finish_64 (by decide) (fun c64_19 => ?_) (fun c64_19 => ?_)
    · replace hf := gp_t c64_19 hf
      refine lv_aload_n hx hb d_Mo_finish_75 rfl (lv_at hl 1 rfl) ?_
      refine lv_iload_n hx hb d_Mo_finish_76 rfl (lv_at hl 0 rfl) ?_
      refine lv_iload_n hx hb d_Mo_finish_77 rfl (lv_at hl 2 rfl) ?_
      obtain ⟨X20, hF20, hf⟩ := gCv_el hf
      refine gy_callV (rm := { frames := 4, cells := 0, slots := 0, locals := 76 }) (ig := .invokevirtual 225) (av := [Value.ref (b 46), Value.int i3_17, Value.int a2]) Y (fun ws h hS hw => K_Mo_ending l htr D tys z _ ws h hS t ht b X18 hw i3_17 a2 (gR.v, X20) hF20) (gx_invV (As := [Value.int i3_17, Value.int a2]) (rest := []) hx hb hown hts km_Mo_225 kI_Mo_ending kV_Mo_ending kc_Mo_ending (by decide) (show (parseMethodDescriptor y_Mo_ending.desc).map (fun d => d.parameters.length) = some 2 by decide +kernel) (gy_recv (ci := 8) hK Y rfl gF_46) rfl rfl d_Mo_finish_78) (gx_cw (z := 0) hts kc_Mo_ending kN_Mo rfl rfl ⟨Nat.le_of_ble_eq_true rfl, Nat.le_of_ble_eq_true rfl⟩) hb hml hz hK hY hAz hA hl.1 (lv_room (Nat.le_of_ble_eq_true rfl)) d_Mo_finish_78 ⟨Nat.zero_le _, Nat.zero_le _⟩ (fun H locs Y => ?_)
      refine lv_aload_n hx hb d_Mo_finish_81 rfl (lv_at hl 1 rfl) ?_
      refine lv_aload_n hx hb d_Mo_finish_82 rfl (lv_at hl 1 rfl) ?_
      refine gy_get (ci := 8) (v := Value.ref (b 54)) (C := "CommitLedgerModel") (T := F_Mo) (N := 35) hx hb hts i_Mo hown hK Y gF_46 rfl 15 (by decide) kf_Mo_40 rfl d_Mo_finish_83 ?_
      refine gy_get (ci := 9) (v := Value.int (X20.I 54 7)) (C := "CommitLedgerModel$Version") (T := F_Ve) (N := 11) hx hb hts i_Ve hown hK Y gF_54 rfl 7 (by decide) kf_Mo_122 rfl d_Mo_finish_86 ?_
      refine lv_bipush (v := 23) hx hb d_Mo_finish_89 (by decide) ?_
      obtain ⟨x21, X21, hF21, hf⟩ := gCi_el hf
      refine gy_callI (rm := { frames := 4, cells := 0, slots := 0, locals := 83 }) (ig := .invokevirtual 175) (av := [Value.ref (b 46), Value.int (X20.I 54 7), Value.int 23]) Y (fun ws h hS hw => K_Mo_finished l htr D tys z _ ws h hS t ht b X20 hw (X20.I 54 7) 23 (gR.i x21, X21) hF21) (gx_invV (As := [Value.int (X20.I 54 7), Value.int 23]) (rest := []) hx hb hown hts km_Mo_175 kI_Mo_finished kV_Mo_finished kc_Mo_finished (by decide) (show (parseMethodDescriptor y_Mo_finished.desc).map (fun d => d.parameters.length) = some 2 by decide +kernel) (gy_recv (ci := 8) hK Y rfl gF_46) rfl rfl d_Mo_finish_91) (gx_cw (z := 0) hts kc_Mo_finished kN_Mo rfl rfl ⟨Nat.le_of_ble_eq_true rfl, Nat.le_of_ble_eq_true rfl⟩) hb hml hz hK hY hAz hA hl.1 (lv_room (Nat.le_of_ble_eq_true rfl)) d_Mo_finish_91 ⟨Nat.zero_le _, Nat.zero_le _⟩ (fun H locs Y => ?_)
      exact gy_iret hf hx hb hr hlocks hK Y (Nat.zero_le _) (Nat.zero_le _) d_Mo_finish_94
    · replace hf := gp_f c64_19 hf
      exact J67 X18 _ _ _ hf (lv_sub hl [1] rfl) Y
  refine gy_cut (pcJ := 39) Y (fun s : gX × Int32 × Int32 => f_Mo_finish_39 s.1 a2 s.2.1 s.2.2) o (fun s => s.1) (fun s ls => lv_has ls 4 [(3, Value.int s.2.1), (0, Value.ref (b 46)), (2, Value.int a2)]) (fun s => [Value.int s.2.2, Value.ref (b 46)]) ?_ (fun J39 => ?_)
  · rintro ⟨X22, i3_22, i1000_22⟩ H locs ls hf hl Y
    have hl : lv_has ls 4 [(3, Value.int i3_22), (0, Value.ref (b 46)), (2, Value.int a2)] := hl
    have Y : gy D t b A s.heap X0 X22 H locs := Y
    have hf : f_Mo_finish_39 X22 a2 i3_22 i1000_22 = some o := hf
    unfold f_Mo_finish_39 at hf
    refine W.eq (g2 := F0 m 39 ls [Value.int i1000_22, Value.ref (b 46)]) rfl ?_
    refine lv_iconst (v := 2) hx hb d_Mo_finish_39 (by decide) ?_
    obtain ⟨x23, X23, hF23, hf⟩ := gCi_el hf
    refine gy_callI (rm := { frames := 1, cells := 0, slots := 0, locals := 12 }) (ig := .invokevirtual 152) (av := [Value.ref (b 46), Value.int i1000_22, Value.int 2]) Y (fun ws h hS hw => K_Mo_wrong l htr D tys z _ ws h hS t ht b X22 hw i1000_22 2 (gR.i x23, X23) hF23) (gx_invV (As := [Value.int i1000_22, Value.int 2]) (rest := []) hx hb hown hts km_Mo_152 kI_Mo_wrong kV_Mo_wrong kc_Mo_wrong (by decide) (show (parseMethodDescriptor y_Mo_wrong.desc).map (fun d => d.parameters.length) = some 2 by decide +kernel) (gy_recv (ci := 8) hK Y rfl gF_46) rfl rfl d_Mo_finish_40) (gx_cw (z := 0) hts kc_Mo_wrong kN_Mo rfl rfl ⟨Nat.le_of_ble_eq_true rfl, Nat.le_of_ble_eq_true rfl⟩) hb hml hz hK hY hAz hA hl.1 (lv_room (Nat.le_of_ble_eq_true rfl)) d_Mo_finish_40 ⟨Nat.zero_le _, Nat.zero_le _⟩ (fun H locs Y => ?_)
    refine lv_if_ne (tgt := 67) hx hb d_Mo_finish_43 (by decide) (fun c43_24 => ?_) (fun c43_24 => ?_)
    · replace hf := gp_f c43_24 hf
      exact J67 X23 _ _ _ hf (lv_sub hl [1] rfl) Y
    · replace hf := gp_t c43_24 hf
      refine lv_aload_n hx hb d_Mo_finish_46 rfl (lv_at hl 1 rfl) ?_
      refine lv_iload_n hx hb d_Mo_finish_47 rfl (lv_at hl 0 rfl) ?_
      refine lv_aload_n hx hb d_Mo_finish_48 rfl (lv_at hl 1 rfl) ?_
      refine gy_get (ci := 8) (v := Value.int (X23.I 46 30)) (C := "CommitLedgerModel") (T := F_Mo) (N := 35) hx hb hts i_Mo hown hK Y gF_46 rfl 30 (by decide) kf_Mo_106 rfl d_Mo_finish_49 ?_
      refine lv_icmp_ne (tgt := 59) hx hb d_Mo_finish_52 (by decide) (fun c52_25 => ?_) (fun c52_25 => ?_)
      · replace hf := gp_f c52_25 hf
        refine lv_iconst (v := 0) hx hb d_Mo_finish_59 (by decide) ?_
        exact J60 (X23, i3_22, 0) _ _ _ hf (lv_sub hl [0, 1, 2] rfl) Y
      · replace hf := gp_t c52_25 hf
        refine lv_iconst (v := 1) hx hb d_Mo_finish_55 (by decide) ?_
        refine lv_goto (tgt := 60) hx hb d_Mo_finish_56 (by decide) ?_
        exact J60 (X23, i3_22, 1) _ _ _ hf (lv_sub hl [0, 1, 2] rfl) Y
  refine gy_cut (pcJ := 26) Y (fun s : gX × Int32 => f_Mo_finish_26 s.1 a2 s.2) o (fun s => s.1) (fun s ls => lv_has ls 4 [(3, Value.int s.2), (0, Value.ref (b 46)), (2, Value.int a2)]) (fun s => []) ?_ (fun J26 => ?_)
  · rintro ⟨X26, i3_26⟩ H locs ls hf hl Y
    have hl : lv_has ls 4 [(3, Value.int i3_26), (0, Value.ref (b 46)), (2, Value.int a2)] := hl
    have Y : gy D t b A s.heap X0 X26 H locs := Y
    have hf : f_Mo_finish_26 X26 a2 i3_26 = some o := hf
    unfold f_Mo_finish_26 at hf
    refine lv_aload_n hx hb d_Mo_finish_26 rfl (lv_at hl 1 rfl) ?_
    refine lv_aload_n hx hb d_Mo_finish_27 rfl (lv_at hl 1 rfl) ?_
    refine gy_get (ci := 8) (v := Value.int (X26.I 46 18)) (C := "CommitLedgerModel") (T := F_Mo) (N := 35) hx hb hts i_Mo hown hK Y gF_46 rfl 18 (by decide) kf_Mo_99 rfl d_Mo_finish_28 ?_
    refine lv_if_ne (tgt := 38) hx hb d_Mo_finish_31 (by decide) (fun c31_27 => ?_) (fun c31_27 => ?_)
    · replace hf := gp_f c31_27 hf
      refine lv_iconst (v := 0) hx hb d_Mo_finish_38 (by decide) ?_
      exact J39 (X26, i3_26, 0) _ _ _ hf (lv_sub hl [0, 1, 2] rfl) Y
    · replace hf := gp_t c31_27 hf
      refine lv_iconst (v := 1) hx hb d_Mo_finish_34 (by decide) ?_
      refine lv_goto (tgt := 39) hx hb d_Mo_finish_35 (by decide) ?_
      exact J39 (X26, i3_26, 1) _ _ _ hf (lv_sub hl [0, 1, 2] rfl) Y
  unfold f_Mo_finish at hf
  refine lv_iconst (v := 0) hx hb d_Mo_finish_0 (by decide) ?_
  refine lv_istore_n (lv' := [(3, Value.int 0), (0, Value.ref (b 46)), (1, Value.int a1), (2, Value.int a2)]) hx hb d_Mo_finish_1 rfl hl (by decide) rfl (fun ls hl => ?_)
  refine gy_iter (fun s : Int32 => X0) (fun (s : Int32) ls => lv_has ls 4 [(3, Value.int s), (0, Value.ref (b 46)), (1, Value.int a1), (2, Value.int a2)]) ?_ gK 0 _ _ _ hf (lv_sub hl [0, 1, 2, 3] rfl) Y
  rintro i3_28 u28 H locs ls hf hl Y hk28 ho28
  have hl : lv_has ls 4 [(3, Value.int i3_28), (0, Value.ref (b 46)), (1, Value.int a1), (2, Value.int a2)] := hl
  have Y : gy D t b A s.heap X0 X0 H locs := Y
  have hf : f_Mo_finish_2 X0 a1 a2 i3_28 = some u28 := hf
  unfold f_Mo_finish_2 at hf
  refine lv_iload_n hx hb d_Mo_finish_2 rfl (lv_at hl 0 rfl) ?_
  refine lv_aload_n hx hb d_Mo_finish_3 rfl (lv_at hl 1 rfl) ?_
  refine gy_get (ci := 8) (v := Value.int (X0.I 46 30)) (C := "CommitLedgerModel") (T := F_Mo) (N := 35) hx hb hts i_Mo hown hK Y gF_46 rfl 30 (by decide) kf_Mo_106 rfl d_Mo_finish_4 ?_
  refine lv_icmp_ge (tgt := 26) hx hb d_Mo_finish_7 (by decide) (fun c7_29 => ?_) (fun c7_29 => ?_)
  · replace hf := gp_t c7_29 hf
    replace hf := gU hf ho28
    exact J26 (X0, i3_28) _ _ _ hf (lv_sub hl [0, 1, 3] rfl) Y
  · replace hf := gp_f c7_29 hf
    refine lv_aload_n hx hb d_Mo_finish_10 rfl (lv_at hl 1 rfl) ?_
    refine gy_get (ci := 8) (v := Value.ref (b 81)) (C := "CommitLedgerModel") (T := F_Mo) (N := 35) hx hb hts i_Mo hown hK Y gF_46 rfl 28 (by decide) kf_Mo_70 rfl d_Mo_finish_11 ?_
    refine lv_iload_n hx hb d_Mo_finish_14 rfl (lv_at hl 0 rfl) ?_
    refine gy_iald hf hx hb hK Y 0 (fun _ => gF_81) ht0 d_Mo_finish_15 (fun _ hf => ?_)
    refine lv_iload_n hx hb d_Mo_finish_16 rfl (lv_at hl 2 rfl) ?_
    refine lv_icmp_eq (tgt := 26) hx hb d_Mo_finish_17 (by decide) (fun c17_30 => ?_) (fun c17_30 => ?_)
    · replace hf := gp_t c17_30 hf
      replace hf := gU hf ho28
      exact J26 (X0, i3_28) _ _ _ hf (lv_sub hl [0, 1, 3] rfl) Y
    · replace hf := gp_f c17_30 hf
      refine lv_iinc (v := i3_28 + 1) (lv' := [(3, Value.int (i3_28 + 1)), (0, Value.ref (b 46)), (1, Value.int a1), (2, Value.int a2)]) hx hb d_Mo_finish_20 hl (k := 0) rfl (rfl) (by decide) rfl (fun ls hl => ?_)
      refine lv_goto (tgt := 2) hx hb d_Mo_finish_23 (by decide) ?_
      exact hk28 _ _ _ _ hf (lv_sub hl [0, 1, 2, 3] rfl) Y

def f_Mo_close0_68 (X : gX) (i1 : Int32) : Option (gR × gX) := gCi (f_Mo_finished X i1 26) (fun x8 X8 => some (gR.i x8, X8))
def f_Mo_close0_35 (X : gX) : Option ((gX) ⊕ (gR × gX)) := (if (X.I 46 30) ≤ (0 : Int32) then gCi (f_Mo_committing X) (fun x6 X6 => (if (X6.I 46 0) = (0 : Int32) then gCv (f_Mo_close1 X6 0) (fun X9 => gLf (f_Mo_close0_68 X9 x6)) else gLf (f_Mo_close0_68 X6 x6))) else gCv (f_Mo_ending X 0 1) (fun X10 => some (Sum.inl X10)))
def f_Mo_close0_20 (X : gX) (i1000 : Int32) : Option (gR × gX) := gCi (f_Mo_wrong X i1000 2) (fun x2 X2 => (if x2 = (0 : Int32) then gI (fun s : gX => f_Mo_close0_35 s) gK X2 else gCi (f_Mo_done X2 0 26) (fun x16 X16 => some (gR.i x16, X16))))
def f_Mo_close0_15 (X : gX) : Option (gR × gX) := f_Mo_close0_20 X 1
def f_Mo_close0 (X0 : gX) : Option (gR × gX) := (if (X0.I 46 18) = (0 : Int32) then f_Mo_close0_15 X0 else (if (X0.I 46 19) = (0 : Int32) then f_Mo_close0_20 X0 0 else f_Mo_close0_15 X0))
set_option maxHeartbeats 4000000 in
set_option maxRecDepth 100000 in
theorem K_Mo_close0 (l : Launch) (htr : l.stackTraces = false) (D : va_G) (tys : List (ClassId × FieldType)) (z sz : Nat) (ws : va_W) (h : gm_M) (hM : gm_S h ws) (t : Nat → ClassId) (ht : gTy t tys) (b : Nat → Nat) (X0 : gX) (hw : gw D t b X0 h) (o : gR × gX) (hf : f_Mo_close0 X0 = some o) : gx_Met l y_Mo_close0 [Cond.code y_Mo_close0 b_Mo_close0 2 (some .int)] { frames := 8, cells := 0, slots := 0, locals := 165 } (gx_P z sz D classes tys ws [Value.ref (b 46)]) (gx_Q D classes tys (va_A ws sz) (gPo D t b X0 o)) (0) (0) (va_A ws sz) := by
  refine gx_ofW (cc := b_Mo_close0) (maxL := 2) (ret := (some .int)) (by decide) rfl ?_
  intro p e s m args below meth c s₁ B hml hv
  obtain ⟨rfl, hsz, hz, hP, hK, hD0, hY⟩ := hv
  have hx := B.exec
  have hb := B.bytes
  have hr := B.returns
  have hts := hY.hts (#[Value.ref (b 46)] : Array Value)
  have hown : s.vm.findClass "CommitLedgerModel" = some m.cls := findClass_of_methodNamed B.named
  have hlocks := B.notSynchronized
  subst hsz
  have hAz := gx_az hD0 hz
  have hD := hD0.self (sz := s.heap.size)
  have hA : ∀ q : Nat, s.heap.size ≤ q → va_A ws s.heap.size q := fun q h => Or.inr h
  generalize va_A ws s.heap.size = A at hD hA hAz ⊢
  have Y : gy D t b A s.heap X0 X0 s.heap [] := ⟨h, ⟨ws, hM, hP, hD, va_S.rf⟩, hw, gEq.rf⟩
  clear hP hD hM hD0 hw
  obtain ⟨ht0, ht1, ht2, ht3, ht4, ht5, ht6, ht7, ht8⟩ := id ht
  have hl := lv_entry ([Value.ref (b 46)]) (n := 2) (Nat.le_of_ble_eq_true rfl)
  rw [lg_entry_eq]
  generalize (lg_sl ([Value.ref (b 46)]) ++ List.replicate (2 - (lg_sl ([Value.ref (b 46)])).length) Slot.unset).toArray = ls at hl ⊢
  have hl : lv_has ls 2 [(0, Value.ref (b 46))] := hl
  refine gy_cut (pcJ := 68) Y (fun s : gX × Int32 => f_Mo_close0_68 s.1 s.2) o (fun s => s.1) (fun s ls => lv_has ls 2 [(1, Value.int s.2), (0, Value.ref (b 46))]) (fun s => []) ?_ (fun J68 => ?_)
  · rintro ⟨X18, i1_18⟩ H locs ls hf hl Y
    have hl : lv_has ls 2 [(1, Value.int i1_18), (0, Value.ref (b 46))] := hl
    have Y : gy D t b A s.heap X0 X18 H locs := Y
    have hf : f_Mo_close0_68 X18 i1_18 = some o := hf
    unfold f_Mo_close0_68 at hf
    refine lv_aload_n hx hb d_Mo_close0_68 rfl (lv_at hl 1 rfl) ?_
    refine lv_iload_n hx hb d_Mo_close0_69 rfl (lv_at hl 0 rfl) ?_
    refine lv_bipush (v := 26) hx hb d_Mo_close0_70 (by decide) ?_
    obtain ⟨x19, X19, hF19, hf⟩ := gCi_el hf
    refine gy_callI (rm := { frames := 4, cells := 0, slots := 0, locals := 83 }) (ig := .invokevirtual 175) (av := [Value.ref (b 46), Value.int i1_18, Value.int 26]) Y (fun ws h hS hw => K_Mo_finished l htr D tys z _ ws h hS t ht b X18 hw i1_18 26 (gR.i x19, X19) hF19) (gx_invV (As := [Value.int i1_18, Value.int 26]) (rest := []) hx hb hown hts km_Mo_175 kI_Mo_finished kV_Mo_finished kc_Mo_finished (by decide) (show (parseMethodDescriptor y_Mo_finished.desc).map (fun d => d.parameters.length) = some 2 by decide +kernel) (gy_recv (ci := 8) hK Y rfl gF_46) rfl rfl d_Mo_close0_72) (gx_cw (z := 0) hts kc_Mo_finished kN_Mo rfl rfl ⟨Nat.le_of_ble_eq_true rfl, Nat.le_of_ble_eq_true rfl⟩) hb hml hz hK hY hAz hA hl.1 (lv_room (Nat.le_of_ble_eq_true rfl)) d_Mo_close0_72 ⟨Nat.zero_le _, Nat.zero_le _⟩ (fun H locs Y => ?_)
    exact gy_iret hf hx hb hr hlocks hK Y (Nat.zero_le _) (Nat.zero_le _) d_Mo_close0_75
  refine gy_cut (pcJ := 20) Y (fun s : gX × Int32 => f_Mo_close0_20 s.1 s.2) o (fun s => s.1) (fun s ls => lv_has ls 2 [(0, Value.ref (b 46))]) (fun s => [Value.int s.2, Value.ref (b 46)]) ?_ (fun J20 => ?_)
  · rintro ⟨X20, i1000_20⟩ H locs ls hf hl Y
    have hl : lv_has ls 2 [(0, Value.ref (b 46))] := hl
    have Y : gy D t b A s.heap X0 X20 H locs := Y
    have hf : f_Mo_close0_20 X20 i1000_20 = some o := hf
    unfold f_Mo_close0_20 at hf
    refine W.eq (g2 := F0 m 20 ls [Value.int i1000_20, Value.ref (b 46)]) rfl ?_
    refine lv_iconst (v := 2) hx hb d_Mo_close0_20 (by decide) ?_
    obtain ⟨x21, X21, hF21, hf⟩ := gCi_el hf
    refine gy_callI (rm := { frames := 1, cells := 0, slots := 0, locals := 12 }) (ig := .invokevirtual 152) (av := [Value.ref (b 46), Value.int i1000_20, Value.int 2]) Y (fun ws h hS hw => K_Mo_wrong l htr D tys z _ ws h hS t ht b X20 hw i1000_20 2 (gR.i x21, X21) hF21) (gx_invV (As := [Value.int i1000_20, Value.int 2]) (rest := []) hx hb hown hts km_Mo_152 kI_Mo_wrong kV_Mo_wrong kc_Mo_wrong (by decide) (show (parseMethodDescriptor y_Mo_wrong.desc).map (fun d => d.parameters.length) = some 2 by decide +kernel) (gy_recv (ci := 8) hK Y rfl gF_46) rfl rfl d_Mo_close0_21) (gx_cw (z := 0) hts kc_Mo_wrong kN_Mo rfl rfl ⟨Nat.le_of_ble_eq_true rfl, Nat.le_of_ble_eq_true rfl⟩) hb hml hz hK hY hAz hA hl.1 (lv_room (Nat.le_of_ble_eq_true rfl)) d_Mo_close0_21 ⟨Nat.zero_le _, Nat.zero_le _⟩ (fun H locs Y => ?_)
    refine lv_if_eq (tgt := 35) hx hb d_Mo_close0_24 (by decide) (fun c24_22 => ?_) (fun c24_22 => ?_)
    · replace hf := gp_t c24_22 hf
      refine gy_iter (fun s : gX => s) (fun (s : gX) ls => lv_has ls 2 [(0, Value.ref (b 46))]) ?_ gK X21 _ _ _ hf (lv_sub hl [0] rfl) Y
      rintro X23 u23 H locs ls hf hl Y hk23 ho23
      have hl : lv_has ls 2 [(0, Value.ref (b 46))] := hl
      have Y : gy D t b A s.heap X0 X23 H locs := Y
      have hf : f_Mo_close0_35 X23 = some u23 := hf
      unfold f_Mo_close0_35 at hf
      refine lv_aload_n hx hb d_Mo_close0_35 rfl (lv_at hl 0 rfl) ?_
      refine gy_get (ci := 8) (v := Value.int (X23.I 46 30)) (C := "CommitLedgerModel") (T := F_Mo) (N := 35) hx hb hts i_Mo hown hK Y gF_46 rfl 30 (by decide) kf_Mo_106 rfl d_Mo_close0_36 ?_
      refine lv_if_le (tgt := 51) hx hb d_Mo_close0_39 (by decide) (fun c39_24 => ?_) (fun c39_24 => ?_)
      · replace hf := gp_t c39_24 hf
        refine lv_aload_n hx hb d_Mo_close0_51 rfl (lv_at hl 0 rfl) ?_
        obtain ⟨x25, X25, hF25, hf⟩ := gCi_el hf
        refine gy_callI (rm := { frames := 7, cells := 0, slots := 0, locals := 144 }) (ig := .invokevirtual 242) (av := [Value.ref (b 46)]) Y (fun ws h hS hw => K_Mo_committing l htr D tys z _ ws h hS t ht b X23 hw (gR.i x25, X25) hF25) (gx_invV (As := []) (rest := []) hx hb hown hts km_Mo_242 kI_Mo_committing kV_Mo_committing kc_Mo_committing (by decide) (show (parseMethodDescriptor y_Mo_committing.desc).map (fun d => d.parameters.length) = some 0 by decide +kernel) (gy_recv (ci := 8) hK Y rfl gF_46) rfl rfl d_Mo_close0_52) (gx_cw (z := 0) hts kc_Mo_committing kN_Mo rfl rfl ⟨Nat.le_of_ble_eq_true rfl, Nat.le_of_ble_eq_true rfl⟩) hb hml hz hK hY hAz hA hl.1 (lv_room (Nat.le_of_ble_eq_true rfl)) d_Mo_close0_52 ⟨Nat.zero_le _, Nat.zero_le _⟩ (fun H locs Y => ?_)
        refine lv_istore_n (lv' := [(1, Value.int x25), (0, Value.ref (b 46))]) hx hb d_Mo_close0_55 rfl hl (by decide) rfl (fun ls hl => ?_)
        refine lv_aload_n hx hb d_Mo_close0_56 rfl (lv_at hl 1 rfl) ?_
        refine gy_get (ci := 8) (v := Value.int (X25.I 46 0)) (C := "CommitLedgerModel") (T := F_Mo) (N := 35) hx hb hts i_Mo hown hK Y gF_46 rfl 0 (by decide) kf_Mo_84 rfl d_Mo_close0_57 ?_
        refine lv_if_ne (tgt := 68) hx hb d_Mo_close0_60 (by decide) (fun c60_26 => ?_) (fun c60_26 => ?_)
        · replace hf := gp_f c60_26 hf
          replace hf := gU hf ho23
          exact J68 (X25, x25) _ _ _ hf (lv_sub hl [0, 1] rfl) Y
        · replace hf := gp_t c60_26 hf
          refine lv_aload_n hx hb d_Mo_close0_63 rfl (lv_at hl 1 rfl) ?_
          refine lv_iconst (v := 0) hx hb d_Mo_close0_64 (by decide) ?_
          obtain ⟨X27, hF27, hf⟩ := gCv_el hf
          refine gy_callV (rm := { frames := 1, cells := 0, slots := 0, locals := 12 }) (ig := .invokevirtual 245) (av := [Value.ref (b 46), Value.int 0]) Y (fun ws h hS hw => K_Mo_close1 l htr D tys z _ ws h hS t ht b X25 hw 0 (gR.v, X27) hF27) (gx_invV (As := [Value.int 0]) (rest := []) hx hb hown hts km_Mo_245 kI_Mo_close1 kV_Mo_close1 kc_Mo_close1 (by decide) (show (parseMethodDescriptor y_Mo_close1.desc).map (fun d => d.parameters.length) = some 1 by decide +kernel) (gy_recv (ci := 8) hK Y rfl gF_46) rfl rfl d_Mo_close0_65) (gx_cw (z := 0) hts kc_Mo_close1 kN_Mo rfl rfl ⟨Nat.le_of_ble_eq_true rfl, Nat.le_of_ble_eq_true rfl⟩) hb hml hz hK hY hAz hA hl.1 (lv_room (Nat.le_of_ble_eq_true rfl)) d_Mo_close0_65 ⟨Nat.zero_le _, Nat.zero_le _⟩ (fun H locs Y => ?_)
          replace hf := gU hf ho23
          exact J68 (X27, x25) _ _ _ hf (lv_sub hl [0, 1] rfl) Y
      · replace hf := gp_f c39_24 hf
        refine lv_aload_n hx hb d_Mo_close0_42 rfl (lv_at hl 0 rfl) ?_
        refine lv_iconst (v := 0) hx hb d_Mo_close0_43 (by decide) ?_
        refine lv_iconst (v := 1) hx hb d_Mo_close0_44 (by decide) ?_
        obtain ⟨X28, hF28, hf⟩ := gCv_el hf
        refine gy_callV (rm := { frames := 4, cells := 0, slots := 0, locals := 76 }) (ig := .invokevirtual 225) (av := [Value.ref (b 46), Value.int 0, Value.int 1]) Y (fun ws h hS hw => K_Mo_ending l htr D tys z _ ws h hS t ht b X23 hw 0 1 (gR.v, X28) hF28) (gx_invV (As := [Value.int 0, Value.int 1]) (rest := []) hx hb hown hts km_Mo_225 kI_Mo_ending kV_Mo_ending kc_Mo_ending (by decide) (show (parseMethodDescriptor y_Mo_ending.desc).map (fun d => d.parameters.length) = some 2 by decide +kernel) (gy_recv (ci := 8) hK Y rfl gF_46) rfl rfl d_Mo_close0_45) (gx_cw (z := 0) hts kc_Mo_ending kN_Mo rfl rfl ⟨Nat.le_of_ble_eq_true rfl, Nat.le_of_ble_eq_true rfl⟩) hb hml hz hK hY hAz hA hl.1 (lv_room (Nat.le_of_ble_eq_true rfl)) d_Mo_close0_45 ⟨Nat.zero_le _, Nat.zero_le _⟩ (fun H locs Y => ?_)
        refine lv_goto (tgt := 35) hx hb d_Mo_close0_48 (by decide) ?_
        exact hk23 _ _ _ _ hf (lv_sub hl [0] rfl) Y
    · replace hf := gp_f c24_22 hf
      refine lv_aload_n hx hb d_Mo_close0_27 rfl (lv_at hl 0 rfl) ?_
      refine lv_iconst (v := 0) hx hb d_Mo_close0_28 (by decide) ?_
      refine lv_bipush (v := 26) hx hb d_Mo_close0_29 (by decide) ?_
      obtain ⟨x29, X29, hF29, hf⟩ := gCi_el hf
      refine gy_callI (rm := { frames := 1, cells := 0, slots := 0, locals := 12 }) (ig := .invokevirtual 148) (av := [Value.ref (b 46), Value.int 0, Value.int 26]) Y (fun ws h hS hw => K_Mo_done l htr D tys z _ ws h hS t ht b X21 hw 0 26 (gR.i x29, X29) hF29) (gx_invV (As := [Value.int 0, Value.int 26]) (rest := []) hx hb hown hts km_Mo_148 kI_Mo_done kV_Mo_done kc_Mo_done (by decide) (show (parseMethodDescriptor y_Mo_done.desc).map (fun d => d.parameters.length) = some 2 by decide +kernel) (gy_recv (ci := 8) hK Y rfl gF_46) rfl rfl d_Mo_close0_31) (gx_cw (z := 0) hts kc_Mo_done kN_Mo rfl rfl ⟨Nat.le_of_ble_eq_true rfl, Nat.le_of_ble_eq_true rfl⟩) hb hml hz hK hY hAz hA hl.1 (lv_room (Nat.le_of_ble_eq_true rfl)) d_Mo_close0_31 ⟨Nat.zero_le _, Nat.zero_le _⟩ (fun H locs Y => ?_)
      exact gy_iret hf hx hb hr hlocks hK Y (Nat.zero_le _) (Nat.zero_le _) d_Mo_close0_34
  refine gy_cut (pcJ := 15) Y (fun s : gX => f_Mo_close0_15 s) o (fun s => s) (fun s ls => lv_has ls 2 [(0, Value.ref (b 46))]) (fun s => [Value.ref (b 46)]) ?_ (fun J15 => ?_)
  · rintro X30 H locs ls hf hl Y
    have hl : lv_has ls 2 [(0, Value.ref (b 46))] := hl
    have Y : gy D t b A s.heap X0 X30 H locs := Y
    have hf : f_Mo_close0_15 X30 = some o := hf
    unfold f_Mo_close0_15 at hf
    refine W.eq (g2 := F0 m 15 ls [Value.ref (b 46)]) rfl ?_
    refine lv_iconst (v := 1) hx hb d_Mo_close0_15 (by decide) ?_
    refine lv_goto (tgt := 20) hx hb d_Mo_close0_16 (by decide) ?_
    exact J20 (X30, 1) _ _ _ hf (lv_sub hl [0] rfl) Y
  unfold f_Mo_close0 at hf
  refine lv_aload_n hx hb d_Mo_close0_0 rfl (lv_at hl 0 rfl) ?_
  refine lv_aload_n hx hb d_Mo_close0_1 rfl (lv_at hl 0 rfl) ?_
  refine gy_get (ci := 8) (v := Value.int (X0.I 46 18)) (C := "CommitLedgerModel") (T := F_Mo) (N := 35) hx hb hts i_Mo hown hK Y gF_46 rfl 18 (by decide) kf_Mo_99 rfl d_Mo_close0_2 ?_
  refine lv_if_eq (tgt := 15) hx hb d_Mo_close0_5 (by decide) (fun c5_31 => ?_) (fun c5_31 => ?_)
  · replace hf := gp_t c5_31 hf
    exact J15 X0 _ _ _ hf (lv_sub hl [0] rfl) Y
  · replace hf := gp_f c5_31 hf
    refine lv_aload_n hx hb d_Mo_close0_8 rfl (lv_at hl 0 rfl) ?_
    refine gy_get (ci := 8) (v := Value.int (X0.I 46 19)) (C := "CommitLedgerModel") (T := F_Mo) (N := 35) hx hb hts i_Mo hown hK Y gF_46 rfl 19 (by decide) kf_Mo_109 rfl d_Mo_close0_9 ?_
    refine lv_if_eq (tgt := 19) hx hb d_Mo_close0_12 (by decide) (fun c12_32 => ?_) (fun c12_32 => ?_)
    · replace hf := gp_t c12_32 hf
      refine lv_iconst (v := 0) hx hb d_Mo_close0_19 (by decide) ?_
      exact J20 (X0, 0) _ _ _ hf (lv_sub hl [0] rfl) Y
    · replace hf := gp_f c12_32 hf
      exact J15 X0 _ _ _ hf (lv_sub hl [0] rfl) Y
