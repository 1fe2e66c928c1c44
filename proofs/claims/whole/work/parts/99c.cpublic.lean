/-! THE THIRD LAYER, the ledger: its calls: programs of numbers and the proof that the machine does what they say; printed by an own text program -/
def f_Le_open_76 (X : gX) : Option (gR × gX) := gB (X.w 0 7 1) (fun X6 => gB (X6.w 0 9 (X6.I 1 3)) (fun X7 => gB (X7.w 5 3 0) (fun X8 => gCv (f_Le_dropDeadSegments X8) (fun X9 => gCv (f_Le_dropUnneededFiles X9) (fun X10 => some (gR.i (X10.I 8 4), X10))))))
def f_Le_open_69 (X : gX) : Option (gR × gX) := gCv (f_Vi_becomeEmpty X 8) (fun X5 => f_Le_open_76 X5)
def f_Le_open_44 (X : gX) (i1 : Int32) : Option (gR × gX) := (if i1 = (0 : Int32) then (if (X.I 0 15) ≤ (0 : Int32) then f_Le_open_69 X else gM (X.G 0 5) (fun n12 => (if gVie n12 then gCv (f_Vi_copyFrom X 8 n12) (fun X14 => f_Le_open_76 X14) else none))) else f_Le_open_69 X)
def f_Le_open (X0 : gX) (a1 : Int32) : Option (gR × gX) := gCvt (f_Le_requireRange X0 a1 0 1) (fun E X => some (gR.t E, X)) (fun X1 => (if (X1.I 0 7) = (0 : Int32) then (if a1 = (0 : Int32) then gCi (f_Le_commitIsCorrupt X1) (fun x15 X15 => (if x15 = (0 : Int32) then f_Le_open_44 X15 a1 else some (gR.t "java/lang/UnsupportedOperationException", X15))) else f_Le_open_44 X1 a1) else some (gR.t "java/lang/IllegalStateException", X1)))
set_option maxHeartbeats 4000000 in
set_option maxRecDepth 100000 in
theorem K_Le_open (l : Launch) (htr : l.stackTraces = false) (D : va_G) (tys : List (ClassId × FieldType)) (z sz : Nat) (ws : va_W) (h : gm_M) (hM : gm_S h ws) (t : Nat → ClassId) (ht : gTy t tys) (b : Nat → Nat) (X0 : gX) (hw : gw D t b X0 h) (a1 : Int32) (hc0 : X0.cc ≤ gCL) (hs0 : X0.ss ≤ gSL) (o : gR × gX) (hf : f_Le_open X0 a1 = some o) : gx_Met l y_Le_open [Cond.code y_Le_open b_Le_open 2 (some .int)] { frames := 10, cells := gCL + 1 - X0.cc, slots := gSL + 6 - X0.ss, locals := 241 } (gx_P z sz D classes tys ws [Value.ref (b 0), Value.int a1]) (gx_Q D classes tys (va_A ws sz) (gPoA D t b X0 o)) (o.2.cc + gT o.1 - X0.cc) (o.2.ss + 6 * gT o.1 - X0.ss) (va_A ws sz) := by
  refine gx_ofW (cc := b_Le_open) (maxL := 2) (ret := (some .int)) (by decide) rfl ?_
  intro p e s m args below meth c s₁ B hml hv
  obtain ⟨rfl, hsz, hz, hP, hK, hD0, hY⟩ := hv
  have hx := B.exec
  have hb := B.bytes
  have hr := B.returns
  have hts := hY.hts (#[Value.ref (b 0), Value.int a1] : Array Value)
  have hown : s.vm.findClass "CommitLedger" = some m.cls := findClass_of_methodNamed B.named
  have hlocks := B.notSynchronized
  have hne : c.exceptionTable.isEmpty = true := B.noHandlers (atoms_spec (ws := [Cond.code y_Le_open b_Le_open 2 (some .int)]) B.pre _ List.mem_cons_self)
  have hN := gx_ns hP
  subst hsz
  have hAz := gx_az hD0 hz
  have hD := hD0.self (sz := s.heap.size)
  have hA : ∀ q : Nat, s.heap.size ≤ q → va_A ws s.heap.size q := fun q h => Or.inr h
  generalize va_A ws s.heap.size = A at hD hA hAz hN ⊢
  have Y : gy D t b A s.heap X0 X0 s.heap [] := ⟨h, ⟨ws, hM, hP, hD, va_S.rf⟩, hw, gEq.rf⟩
  clear hP hD hM hD0 hw
  have hC : gC X0 b X0 b 0 0 := gC.rf hc0 hs0
  obtain ⟨ht0, ht1, ht2, ht3, ht4, ht5, ht6, ht7, ht8⟩ := id ht
  have hl := lv_entry ([Value.ref (b 0), Value.int a1]) (n := 2) (Nat.le_of_ble_eq_true rfl)
  rw [lg_entry_eq]
  generalize (lg_sl ([Value.ref (b 0), Value.int a1]) ++ List.replicate (2 - (lg_sl ([Value.ref (b 0), Value.int a1])).length) Slot.unset).toArray = ls at hl ⊢
  have hl : lv_has ls 2 [(0, Value.ref (b 0)), (1, Value.int a1)] := hl
  refine gA_cut (pcJ := 76) hC Y (fun s : gX => f_Le_open_76 s) o (fun s => s) (fun s b ls => lv_has ls 2 [(0, Value.ref (b 0))]) (fun s b => []) ?_ (fun J76 => ?_)
  · rintro X17 b H locs ls cells slots hf hl hC Y
    have hl : lv_has ls 2 [(0, Value.ref (b 0))] := hl
    have hC : gC X0 _ X17 b cells slots := hC
    have Y : gy D t b A s.heap X17 X17 H locs := Y
    have hf : f_Le_open_76 X17 = some o := hf
    unfold f_Le_open_76 at hf
    refine lv_aload_n hx hb d_Le_open_76 rfl (lv_at hl 0 rfl) ?_
    refine lv_iconst (v := 1) hx hb d_Le_open_77 (by decide) ?_
    refine gy_put hf (ci := 0) (ty := .boolean) (C := "CommitLedger") (T := F_Le) (N := 18) hx hb hts i_Le t_Le_ok n_Le hown hK Y gF_0 rfl (by decide) kf_Le_64 rfl (by decide +kernel) rfl rfl (Nat.le_of_ble_eq_true rfl) gF_0 d_Le_open_78 (fun X18 H locs hf Y => ?_)
    refine lv_aload_n hx hb d_Le_open_81 rfl (lv_at hl 0 rfl) ?_
    refine lv_aload_n hx hb d_Le_open_82 rfl (lv_at hl 0 rfl) ?_
    refine gy_get (ci := 0) (v := Value.ref (b 1)) (C := "CommitLedger") (T := F_Le) (N := 18) hx hb hts i_Le hown hK Y gF_0 rfl 0 (by decide) kf_Le_10 rfl d_Le_open_83 ?_
    refine gy_get (ci := 1) (v := Value.int (X18.I 1 3)) (C := "CommitLedger$Entries") (T := F_En) (N := 4) hx hb hts i_En hown hK Y gF_1 rfl 3 (by decide) kf_Le_94 rfl d_Le_open_86 ?_
    refine gy_put hf (ci := 0) (ty := .int) (C := "CommitLedger") (T := F_Le) (N := 18) hx hb hts i_Le t_Le_ok n_Le hown hK Y gF_0 rfl (by decide) kf_Le_97 rfl (by decide +kernel) rfl rfl (Nat.le_of_ble_eq_true rfl) gF_0 d_Le_open_89 (fun X19 H locs hf Y => ?_)
    refine lv_aload_n hx hb d_Le_open_92 rfl (lv_at hl 0 rfl) ?_
    refine gy_get (ci := 0) (v := Value.ref (b 5)) (C := "CommitLedger") (T := F_Le) (N := 18) hx hb hts i_Le hown hK Y gF_0 rfl 1 (by decide) kf_Le_19 rfl d_Le_open_93 ?_
    refine lv_iconst (v := 0) hx hb d_Le_open_96 (by decide) ?_
    refine gy_put hf (ci := 2) (ty := .boolean) (C := "CommitLedger$Directory") (T := F_Di) (N := 4) hx hb hts i_Di t_Di_ok n_Di hown hK Y gF_5 rfl (by decide) kf_Le_100 rfl (by decide +kernel) rfl rfl (Nat.le_of_ble_eq_true rfl) gF_5 d_Le_open_97 (fun X20 H locs hf Y => ?_)
    refine lv_aload_n hx hb d_Le_open_100 rfl (lv_at hl 0 rfl) ?_
    obtain ⟨X21, hF21, hf⟩ := gCv_el hf
    refine gy_callV (rm := { frames := 3, cells := 0, slots := 0, locals := 57 }) (ig := .invokevirtual 103) (av := [Value.ref (b 0)]) Y (fun ws h hS hw => K_Le_dropDeadSegments l htr D tys z _ ws h hS t ht b X20 hw (gR.v, X21) hF21) (gx_invV (As := []) (rest := []) hx hb hown hts km_Le_103 kI_Le_dropDeadSegments kV_Le_dropDeadSegments kc_Le_dropDeadSegments (by decide) (show (parseMethodDescriptor y_Le_dropDeadSegments.desc).map (fun d => d.parameters.length) = some 0 by decide +kernel) (gy_recv (ci := 0) hK Y rfl gF_0) rfl rfl d_Le_open_101) (gx_cw (z := 0) hts kc_Le_dropDeadSegments kN_Le rfl rfl ⟨Nat.le_of_ble_eq_true rfl, Nat.le_of_ble_eq_true rfl⟩) hb hml hz hK hY hAz hA hl.1 (lv_room (Nat.le_of_ble_eq_true rfl)) d_Le_open_101 ⟨hC.rc0 (Nat.le_refl _), hC.rs0 (Nat.le_refl _)⟩ (fun H locs Y => ?_)
    refine lv_aload_n hx hb d_Le_open_104 rfl (lv_at hl 0 rfl) ?_
    have hl : lv_has ls 2 [(0, Value.ref (b 0))] := lv_sub hl [0] rfl
    obtain ⟨X22, hF22, hf⟩ := gCv_el hf
    refine gA_call (fr := 9) (lo := 220) (o1 := (gR.v, X22)) (ig := .invokevirtual 106) (av := [Value.ref (b 0)]) hC Y ⟨Nat.le_refl _, Nat.le_refl _⟩ (fun hc9 hs9 ws h hS hw => K_Le_dropUnneededFiles l htr D tys z _ ws h hS t ht b X21 hw hc9 hs9 (gR.v, X22) hF22) (gx_invV (As := []) (rest := []) hx hb hown hts km_Le_106 kI_Le_dropUnneededFiles kV_Le_dropUnneededFiles kc_Le_dropUnneededFiles (by decide) (show (parseMethodDescriptor y_Le_dropUnneededFiles.desc).map (fun d => d.parameters.length) = some 0 by decide +kernel) (gy_recv (ci := 0) hK Y rfl gF_0) rfl rfl d_Le_open_105) (gx_cwA hts kc_Le_dropUnneededFiles kN_Le ⟨Nat.le_of_ble_eq_true rfl, Nat.le_of_ble_eq_true rfl⟩) hb hml hz hK hY hAz hA hl.1 (lv_room (Nat.le_of_ble_eq_true rfl)) d_Le_open_105 (fun vz9 b H locs cells slots e9 hb9 hC Y => ?_) (fun xz9 Ez9 ce b H locs cells slots e9 hce hC Y => ?_)
    rotate_left
    · have e9 : (Sum.inr Ez9 : Option Value ⊕ String) = Sum.inl none := e9
      cases e9
    have e9 : (Sum.inl vz9 : Option Value ⊕ String) = Sum.inl none := e9
    cases e9
    replace hl : lv_has ls 2 [(0, Value.ref (b 0))] := by rw [hb9 0 (gNm_s (by decide))]; exact hl
    refine W.eq (g2 := F0 m 108 ls []) (by rfl) ?_
    refine lv_aload_n hx hb d_Le_open_108 rfl (lv_at hl 0 rfl) ?_
    refine gy_get (ci := 0) (v := Value.ref (b 8)) (C := "CommitLedger") (T := F_Le) (N := 18) hx hb hts i_Le hown hK Y gF_0 rfl 2 (by decide) kf_Le_26 rfl d_Le_open_109 ?_
    refine gy_get (ci := 4) (v := Value.int (X22.I 8 4)) (C := "CommitLedger$View") (T := F_Vi) (N := 6) hx hb hts i_Vi hown hK Y gF_8 rfl 4 (by decide) kf_Le_109 rfl d_Le_open_112 ?_
    exact gA_iret hf hx hb hr hlocks hK hC Y d_Le_open_115
  refine gA_cut (pcJ := 69) hC Y (fun s : gX => f_Le_open_69 s) o (fun s => s) (fun s b ls => lv_has ls 2 [(0, Value.ref (b 0))]) (fun s b => []) ?_ (fun J69 => ?_)
  · rintro X23 b H locs ls cells slots hf hl hC Y
    have hl : lv_has ls 2 [(0, Value.ref (b 0))] := hl
    have hC : gC X0 _ X23 b cells slots := hC
    have Y : gy D t b A s.heap X23 X23 H locs := Y
    have hf : f_Le_open_69 X23 = some o := hf
    unfold f_Le_open_69 at hf
    refine lv_aload_n hx hb d_Le_open_69 rfl (lv_at hl 0 rfl) ?_
    refine gy_get (ci := 0) (v := Value.ref (b 8)) (C := "CommitLedger") (T := F_Le) (N := 18) hx hb hts i_Le hown hK Y gF_0 rfl 2 (by decide) kf_Le_26 rfl d_Le_open_70 ?_
    obtain ⟨X24, hF24, hf⟩ := gCv_el hf
    refine gy_callV (rm := { frames := 1, cells := 0, slots := 0, locals := 12 }) (ig := .invokevirtual 91) (av := [Value.ref (b 8)]) Y (fun ws h hS hw => K_Vi_becomeEmpty l htr D tys z _ ws h hS t ht b X23 hw 8 (by decide) (gR.v, X24) hF24) (gx_invV (As := []) (rest := []) hx hb hown hts km_Le_91 kI_Vi_becomeEmpty kV_Vi_becomeEmpty kc_Vi_becomeEmpty (by decide) (show (parseMethodDescriptor y_Vi_becomeEmpty.desc).map (fun d => d.parameters.length) = some 0 by decide +kernel) (gy_recv (ci := 4) hK Y rfl gF_8) rfl rfl d_Le_open_73) (gx_cw (z := 0) hts kc_Vi_becomeEmpty kN_Vi rfl rfl ⟨Nat.le_of_ble_eq_true rfl, Nat.le_of_ble_eq_true rfl⟩) hb hml hz hK hY hAz hA hl.1 (lv_room (Nat.le_of_ble_eq_true rfl)) d_Le_open_73 ⟨hC.rc0 (Nat.le_refl _), hC.rs0 (Nat.le_refl _)⟩ (fun H locs Y => ?_)
    exact J76 X24 _ _ _ _ _ _ hf (lv_sub hl [0] rfl) (hC.mv Y) Y.rb
  refine gA_cut (pcJ := 44) hC Y (fun s : gX => f_Le_open_44 s a1) o (fun s => s) (fun s b ls => lv_has ls 2 [(0, Value.ref (b 0)), (1, Value.int a1)]) (fun s b => []) ?_ (fun J44 => ?_)
  · rintro X25 b H locs ls cells slots hf hl hC Y
    have hl : lv_has ls 2 [(0, Value.ref (b 0)), (1, Value.int a1)] := hl
    have hC : gC X0 _ X25 b cells slots := hC
    have Y : gy D t b A s.heap X25 X25 H locs := Y
    have hf : f_Le_open_44 X25 a1 = some o := hf
    unfold f_Le_open_44 at hf
    refine lv_iload_n hx hb d_Le_open_44 rfl (lv_at hl 1 rfl) ?_
    refine lv_if_ne (tgt := 69) hx hb d_Le_open_45 (by decide) (fun c45_26 => ?_) (fun c45_26 => ?_)
    · replace hf := gp_f c45_26 hf
      exact J69 X25 _ _ _ _ _ _ hf (lv_sub hl [0] rfl) (hC.mv Y) Y.rb
    · replace hf := gp_t c45_26 hf
      refine lv_aload_n hx hb d_Le_open_48 rfl (lv_at hl 0 rfl) ?_
      refine gy_get (ci := 0) (v := Value.int (X25.I 0 15)) (C := "CommitLedger") (T := F_Le) (N := 18) hx hb hts i_Le hown hK Y gF_0 rfl 15 (by decide) kf_Le_84 rfl d_Le_open_49 ?_
      refine lv_if_le (tgt := 69) hx hb d_Le_open_52 (by decide) (fun c52_27 => ?_) (fun c52_27 => ?_)
      · replace hf := gp_t c52_27 hf
        exact J69 X25 _ _ _ _ _ _ hf (lv_sub hl [0] rfl) (hC.mv Y) Y.rb
      · replace hf := gp_f c52_27 hf
        refine lv_aload_n hx hb d_Le_open_55 rfl (lv_at hl 0 rfl) ?_
        refine gy_get (ci := 0) (v := Value.ref (b 8)) (C := "CommitLedger") (T := F_Le) (N := 18) hx hb hts i_Le hown hK Y gF_0 rfl 2 (by decide) kf_Le_26 rfl d_Le_open_56 ?_
        refine lv_aload_n hx hb d_Le_open_59 rfl (lv_at hl 0 rfl) ?_
        refine gy_get (ci := 0) (v := va_rf (Option.map b (X25.G 0 5))) (C := "CommitLedger") (T := F_Le) (N := 18) hx hb hts i_Le hown hK Y gF_0 rfl 5 (by decide) kf_Le_30 rfl d_Le_open_60 ?_
        obtain ⟨n28, e28, hf⟩ := gM_el hf
        refine W.eq (g2 := F0 m 63 ls [Value.ref (b n28), Value.ref (b 8)]) (by rw [e28] <;> rfl) ?_
        obtain ⟨hv29, hf⟩ := gp_g hf
        obtain ⟨X30, hF30, hf⟩ := gCv_el hf
        refine gy_callV (rm := { frames := 1, cells := 0, slots := 0, locals := 12 }) (ig := .invokevirtual 87) (av := [Value.ref (b 8), Value.ref (b n28)]) Y (fun ws h hS hw => K_Vi_copyFrom l htr D tys z _ ws h hS t ht b X25 hw 8 (by decide) n28 hv29 (gR.v, X30) hF30) (gx_invV (As := [Value.ref (b n28)]) (rest := []) hx hb hown hts km_Le_87 kI_Vi_copyFrom kV_Vi_copyFrom kc_Vi_copyFrom (by decide) (show (parseMethodDescriptor y_Vi_copyFrom.desc).map (fun d => d.parameters.length) = some 1 by decide +kernel) (gy_recv (ci := 4) hK Y rfl gF_8) rfl rfl d_Le_open_63) (gx_cw (z := 0) hts kc_Vi_copyFrom kN_Vi rfl rfl ⟨Nat.le_of_ble_eq_true rfl, Nat.le_of_ble_eq_true rfl⟩) hb hml hz hK hY hAz hA hl.1 (lv_room (Nat.le_of_ble_eq_true rfl)) d_Le_open_63 ⟨hC.rc0 (Nat.le_refl _), hC.rs0 (Nat.le_refl _)⟩ (fun H locs Y => ?_)
        refine lv_goto (tgt := 76) hx hb d_Le_open_66 (by decide) ?_
        exact J76 X30 _ _ _ _ _ _ hf (lv_sub hl [0] rfl) (hC.mv Y) Y.rb
  unfold f_Le_open at hf
  refine lv_iload_n hx hb d_Le_open_0 rfl (lv_at hl 1 rfl) ?_
  refine lv_iconst (v := 0) hx hb d_Le_open_1 (by decide) ?_
  refine lv_iconst (v := 1) hx hb d_Le_open_2 (by decide) ?_
  rcases gCvt_el hf with ⟨X31, hF31, hf⟩ | ⟨E31, X31, hF31, hf⟩
  rotate_left
  · cases hf
    refine gy_callT (rm := { frames := 6, cells := 1, slots := 6, locals := 82 }) (ig := .invokestatic 60) (av := [Value.int a1, Value.int 0, Value.int 1]) Y (fun ws h hS hw => K_Le_requireRange l htr D tys z _ ws h hS t ht b X0 hw a1 0 1 (gR.t E31, X31) hF31) (gx_invS (As := [Value.int a1, Value.int 0, Value.int 1]) (rest := []) hx hb hown hts km_Le_60 kS_Le_requireRange kN_Le kc_Le_requireRange (by decide) (show (parseMethodDescriptor y_Le_requireRange.desc).map (fun d => d.parameters.length) = some 3 by decide +kernel) rfl rfl d_Le_open_3) (gx_cw (z := 0) hts kc_Le_requireRange kN_Le rfl rfl ⟨Nat.le_of_ble_eq_true rfl, Nat.le_of_ble_eq_true rfl⟩) hb hml hz hK hY hAz hA hl.1 (lv_room (Nat.le_of_ble_eq_true rfl)) d_Le_open_3 ⟨hC.rc (Nat.le_refl _), hC.rs (Nat.le_refl _)⟩ (fun xz9 ce H1 L9 hce Y => gA_pass hne hlocks hce hK hC Y)
  refine gy_callV (rm := { frames := 6, cells := 0, slots := 0, locals := 82 }) (ig := .invokestatic 60) (av := [Value.int a1, Value.int 0, Value.int 1]) Y (fun ws h hS hw => K_Le_requireRange l htr D tys z _ ws h hS t ht b X0 hw a1 0 1 (gR.v, X31) hF31) (gx_invS (As := [Value.int a1, Value.int 0, Value.int 1]) (rest := []) hx hb hown hts km_Le_60 kS_Le_requireRange kN_Le kc_Le_requireRange (by decide) (show (parseMethodDescriptor y_Le_requireRange.desc).map (fun d => d.parameters.length) = some 3 by decide +kernel) rfl rfl d_Le_open_3) (gx_cw (z := 0) hts kc_Le_requireRange kN_Le rfl rfl ⟨Nat.le_of_ble_eq_true rfl, Nat.le_of_ble_eq_true rfl⟩) hb hml hz hK hY hAz hA hl.1 (lv_room (Nat.le_of_ble_eq_true rfl)) d_Le_open_3 ⟨hC.rc0 (Nat.le_refl _), hC.rs0 (Nat.le_refl _)⟩ (fun H locs Y => ?_)
  refine lv_aload_n hx hb d_Le_open_6 rfl (lv_at hl 0 rfl) ?_
  refine gy_get (ci := 0) (v := Value.int (X31.I 0 7)) (C := "CommitLedger") (T := F_Le) (N := 18) hx hb hts i_Le hown hK Y gF_0 rfl 7 (by decide) kf_Le_64 rfl d_Le_open_7 ?_
  refine lv_if_eq (tgt := 23) hx hb d_Le_open_10 (by decide) (fun c10_32 => ?_) (fun c10_32 => ?_)
  · replace hf := gp_t c10_32 hf
    refine lv_iload_n hx hb d_Le_open_23 rfl (lv_at hl 1 rfl) ?_
    refine lv_if_ne (tgt := 44) hx hb d_Le_open_24 (by decide) (fun c24_33 => ?_) (fun c24_33 => ?_)
    · replace hf := gp_f c24_33 hf
      exact J44 X31 _ _ _ _ _ _ hf (lv_sub hl [0, 1] rfl) (hC.mv Y) Y.rb
    · replace hf := gp_t c24_33 hf
      refine lv_aload_n hx hb d_Le_open_27 rfl (lv_at hl 0 rfl) ?_
      obtain ⟨x34, X34, hF34, hf⟩ := gCi_el hf
      refine gy_callI (rm := { frames := 2, cells := 0, slots := 0, locals := 33 }) (ig := .invokevirtual 75) (av := [Value.ref (b 0)]) Y (fun ws h hS hw => K_Le_commitIsCorrupt l htr D tys z _ ws h hS t ht b X31 hw (gR.i x34, X34) hF34) (gx_invV (As := []) (rest := []) hx hb hown hts km_Le_75 kI_Le_commitIsCorrupt kV_Le_commitIsCorrupt kc_Le_commitIsCorrupt (by decide) (show (parseMethodDescriptor y_Le_commitIsCorrupt.desc).map (fun d => d.parameters.length) = some 0 by decide +kernel) (gy_recv (ci := 0) hK Y rfl gF_0) rfl rfl d_Le_open_28) (gx_cw (z := 0) hts kc_Le_commitIsCorrupt kN_Le rfl rfl ⟨Nat.le_of_ble_eq_true rfl, Nat.le_of_ble_eq_true rfl⟩) hb hml hz hK hY hAz hA hl.1 (lv_room (Nat.le_of_ble_eq_true rfl)) d_Le_open_28 ⟨hC.rc0 (Nat.le_refl _), hC.rs0 (Nat.le_refl _)⟩ (fun H locs Y => ?_)
      refine lv_if_eq (tgt := 44) hx hb d_Le_open_31 (by decide) (fun c31_35 => ?_) (fun c31_35 => ?_)
      · replace hf := gp_t c31_35 hf
        exact J44 X34 _ _ _ _ _ _ hf (lv_sub hl [0, 1] rfl) (hC.mv Y) Y.rb
      · replace hf := gp_f c31_35 hf
        cases hf
        exact gA_thr (i1 := 7) (b1 := prog_24_method_2_code) hx hb htr (hml.trans hl.1.symm) hown hts hne hlocks hK hC Y ⟨Nat.le_refl _, Nat.le_refl _⟩ hA hN kk_Le_79 kX_UnsupportedOperationException kN_UnsupportedOperationException ks_Le_81 kT_Le_83 (by decide) (by decide +kernel) (by decide +kernel) (by decide +kernel) (by decide +kernel) d_Le_open_34 d_Le_open_37 d_Le_open_38 d_Le_open_40 d_Le_open_43 (Nat.le_of_ble_eq_true rfl) (Nat.le_of_ble_eq_true rfl)
  · replace hf := gp_f c10_32 hf
    cases hf
    exact gA_thr (i1 := 7) (b1 := prog_16_method_2_code) hx hb htr (hml.trans hl.1.symm) hown hts hne hlocks hK hC Y ⟨Nat.le_refl _, Nat.le_refl _⟩ hA hN kk_Le_68 kX_IllegalStateException kN_IllegalStateException ks_Le_70 kT_Le_72 (by decide) (by decide +kernel) (by decide +kernel) (by decide +kernel) (by decide +kernel) d_Le_open_13 d_Le_open_16 d_Le_open_17 d_Le_open_19 d_Le_open_22 (Nat.le_of_ble_eq_true rfl) (Nat.le_of_ble_eq_true rfl)

def f_Le_add_69 (X : gX) (i1 : Int32) (i2 : Int32) (i3 : Int32) (i4 : Int32) : Option ((gX × Int32) ⊕ (gR × gX)) := some (Sum.inl (X, i4 + 1))
def f_Le_add_39 (X : gX) (i1 : Int32) (i2 : Int32) (i3 : Int32) (i4 : Int32) : Option ((gX × Int32) ⊕ (gR × gX)) := (if i3 ≤ i4 then gLf (some (gR.i (X.I 8 5), X)) else gCv (f_Le_addEntry X (i1 + i4) i2) (fun X6 => gCi (f_Le_buffered X6) (fun x7 X7 => (if x7 < (X7.I 0 10) then f_Le_add_69 X7 i1 i2 i3 i4 else gCvt (f_Le_flushBuffer X7) (fun E X => gLf (some (gR.t E, X))) (fun X9 => f_Le_add_69 X9 i1 i2 i3 i4)))))
def f_Le_add (X0 : gX) (a1 : Int32) (a2 : Int32) (a3 : Int32) : Option (gR × gX) := gCvt (f_Le_requireRange X0 a3 1 100) (fun E X => some (gR.t E, X)) (fun X1 => gCvt (f_Le_requireWriter X1) (fun E X => some (gR.t E, X)) (fun X2 => (if ((X2.I 1 3) + a3) ≤ (4096 : Int32) then gI (fun s : gX × Int32 => f_Le_add_39 s.1 a1 a2 a3 s.2) gK (X2, 0) else some (gR.t "java/lang/IndexOutOfBoundsException", X2))))
set_option maxHeartbeats 4000000 in
set_option maxRecDepth 100000 in
theorem K_Le_add (l : Launch) (htr : l.stackTraces = false) (D : va_G) (tys : List (ClassId × FieldType)) (z sz : Nat) (ws : va_W) (h : gm_M) (hM : gm_S h ws) (t : Nat → ClassId) (ht : gTy t tys) (b : Nat → Nat) (X0 : gX) (hw : gw D t b X0 h) (a1 : Int32) (a2 : Int32) (a3 : Int32) (hc0 : X0.cc ≤ gCL) (hs0 : X0.ss ≤ gSL) (o : gR × gX) (hf : f_Le_add X0 a1 a2 a3 = some o) : gx_Met l y_Le_add [Cond.code y_Le_add b_Le_add 5 (some .int)] { frames := 12, cells := gCL + 1 - X0.cc, slots := gSL + 6 - X0.ss, locals := 282 } (gx_P z sz D classes tys ws [Value.ref (b 0), Value.int a1, Value.int a2, Value.int a3]) (gx_Q D classes tys (va_A ws sz) (gPoA D t b X0 o)) (o.2.cc + gT o.1 - X0.cc) (o.2.ss + 6 * gT o.1 - X0.ss) (va_A ws sz) := by
  refine gx_ofW (cc := b_Le_add) (maxL := 5) (ret := (some .int)) (by decide) rfl ?_
  intro p e s m args below meth c s₁ B hml hv
  obtain ⟨rfl, hsz, hz, hP, hK, hD0, hY⟩ := hv
  have hx := B.exec
  have hb := B.bytes
  have hr := B.returns
  have hts := hY.hts (#[Value.ref (b 0), Value.int a1, Value.int a2, Value.int a3] : Array Value)
  have hown : s.vm.findClass "CommitLedger" = some m.cls := findClass_of_methodNamed B.named
  have hlocks := B.notSynchronized
  have hne : c.exceptionTable.isEmpty = true := B.noHandlers (atoms_spec (ws := [Cond.code y_Le_add b_Le_add 5 (some .int)]) B.pre _ List.mem_cons_self)
  have hN := gx_ns hP
  subst hsz
  have hAz := gx_az hD0 hz
  have hD := hD0.self (sz := s.heap.size)
  have hA : ∀ q : Nat, s.heap.size ≤ q → va_A ws s.heap.size q := fun q h => Or.inr h
  generalize va_A ws s.heap.size = A at hD hA hAz hN ⊢
  have Y : gy D t b A s.heap X0 X0 s.heap [] := ⟨h, ⟨ws, hM, hP, hD, va_S.rf⟩, hw, gEq.rf⟩
  clear hP hD hM hD0 hw
  have hC : gC X0 b X0 b 0 0 := gC.rf hc0 hs0
  obtain ⟨ht0, ht1, ht2, ht3, ht4, ht5, ht6, ht7, ht8⟩ := id ht
  have hl := lv_entry ([Value.ref (b 0), Value.int a1, Value.int a2, Value.int a3]) (n := 5) (Nat.le_of_ble_eq_true rfl)
  rw [lg_entry_eq]
  generalize (lg_sl ([Value.ref (b 0), Value.int a1, Value.int a2, Value.int a3]) ++ List.replicate (5 - (lg_sl ([Value.ref (b 0), Value.int a1, Value.int a2, Value.int a3])).length) Slot.unset).toArray = ls at hl ⊢
  have hl : lv_has ls 5 [(0, Value.ref (b 0)), (1, Value.int a1), (2, Value.int a2), (3, Value.int a3)] := hl
  unfold f_Le_add at hf
  refine lv_iload_n hx hb d_Le_add_0 rfl (lv_at hl 3 rfl) ?_
  refine lv_iconst (v := 1) hx hb d_Le_add_1 (by decide) ?_
  refine lv_bipush (v := 100) hx hb d_Le_add_2 (by decide) ?_
  rcases gCvt_el hf with ⟨X16, hF16, hf⟩ | ⟨E16, X16, hF16, hf⟩
  rotate_left
  · cases hf
    refine gy_callT (rm := { frames := 6, cells := 1, slots := 6, locals := 82 }) (ig := .invokestatic 60) (av := [Value.int a3, Value.int 1, Value.int 100]) Y (fun ws h hS hw => K_Le_requireRange l htr D tys z _ ws h hS t ht b X0 hw a3 1 100 (gR.t E16, X16) hF16) (gx_invS (As := [Value.int a3, Value.int 1, Value.int 100]) (rest := []) hx hb hown hts km_Le_60 kS_Le_requireRange kN_Le kc_Le_requireRange (by decide) (show (parseMethodDescriptor y_Le_requireRange.desc).map (fun d => d.parameters.length) = some 3 by decide +kernel) rfl rfl d_Le_add_4) (gx_cw (z := 0) hts kc_Le_requireRange kN_Le rfl rfl ⟨Nat.le_of_ble_eq_true rfl, Nat.le_of_ble_eq_true rfl⟩) hb hml hz hK hY hAz hA hl.1 (lv_room (Nat.le_of_ble_eq_true rfl)) d_Le_add_4 ⟨hC.rc (Nat.le_refl _), hC.rs (Nat.le_refl _)⟩ (fun xz9 ce H1 L9 hce Y => gA_pass hne hlocks hce hK hC Y)
  refine gy_callV (rm := { frames := 6, cells := 0, slots := 0, locals := 82 }) (ig := .invokestatic 60) (av := [Value.int a3, Value.int 1, Value.int 100]) Y (fun ws h hS hw => K_Le_requireRange l htr D tys z _ ws h hS t ht b X0 hw a3 1 100 (gR.v, X16) hF16) (gx_invS (As := [Value.int a3, Value.int 1, Value.int 100]) (rest := []) hx hb hown hts km_Le_60 kS_Le_requireRange kN_Le kc_Le_requireRange (by decide) (show (parseMethodDescriptor y_Le_requireRange.desc).map (fun d => d.parameters.length) = some 3 by decide +kernel) rfl rfl d_Le_add_4) (gx_cw (z := 0) hts kc_Le_requireRange kN_Le rfl rfl ⟨Nat.le_of_ble_eq_true rfl, Nat.le_of_ble_eq_true rfl⟩) hb hml hz hK hY hAz hA hl.1 (lv_room (Nat.le_of_ble_eq_true rfl)) d_Le_add_4 ⟨hC.rc0 (Nat.le_refl _), hC.rs0 (Nat.le_refl _)⟩ (fun H locs Y => ?_)
  refine lv_aload_n hx hb d_Le_add_7 rfl (lv_at hl 0 rfl) ?_
  rcases gCvt_el hf with ⟨X17, hF17, hf⟩ | ⟨E17, X17, hF17, hf⟩
  rotate_left
  · cases hf
    refine gy_callT (rm := { frames := 6, cells := 1, slots := 6, locals := 82 }) (ig := .invokevirtual 112) (av := [Value.ref (b 0)]) Y (fun ws h hS hw => K_Le_requireWriter l htr D tys z _ ws h hS t ht b X16 hw (gR.t E17, X17) hF17) (gx_invV (As := []) (rest := []) hx hb hown hts km_Le_112 kI_Le_requireWriter kV_Le_requireWriter kc_Le_requireWriter (by decide) (show (parseMethodDescriptor y_Le_requireWriter.desc).map (fun d => d.parameters.length) = some 0 by decide +kernel) (gy_recv (ci := 0) hK Y rfl gF_0) rfl rfl d_Le_add_8) (gx_cw (z := 0) hts kc_Le_requireWriter kN_Le rfl rfl ⟨Nat.le_of_ble_eq_true rfl, Nat.le_of_ble_eq_true rfl⟩) hb hml hz hK hY hAz hA hl.1 (lv_room (Nat.le_of_ble_eq_true rfl)) d_Le_add_8 ⟨hC.rc (Nat.le_refl _), hC.rs (Nat.le_refl _)⟩ (fun xz9 ce H1 L9 hce Y => gA_pass hne hlocks hce hK hC Y)
  refine gy_callV (rm := { frames := 6, cells := 0, slots := 0, locals := 82 }) (ig := .invokevirtual 112) (av := [Value.ref (b 0)]) Y (fun ws h hS hw => K_Le_requireWriter l htr D tys z _ ws h hS t ht b X16 hw (gR.v, X17) hF17) (gx_invV (As := []) (rest := []) hx hb hown hts km_Le_112 kI_Le_requireWriter kV_Le_requireWriter kc_Le_requireWriter (by decide) (show (parseMethodDescriptor y_Le_requireWriter.desc).map (fun d => d.parameters.length) = some 0 by decide +kernel) (gy_recv (ci := 0) hK Y rfl gF_0) rfl rfl d_Le_add_8) (gx_cw (z := 0) hts kc_Le_requireWriter kN_Le rfl rfl ⟨Nat.le_of_ble_eq_true rfl, Nat.le_of_ble_eq_true rfl⟩) hb hml hz hK hY hAz hA hl.1 (lv_room (Nat.le_of_ble_eq_true rfl)) d_Le_add_8 ⟨hC.rc0 (Nat.le_refl _), hC.rs0 (Nat.le_refl _)⟩ (fun H locs Y => ?_)
  refine lv_aload_n hx hb d_Le_add_11 rfl (lv_at hl 0 rfl) ?_
  refine gy_get (ci := 0) (v := Value.ref (b 1)) (C := "CommitLedger") (T := F_Le) (N := 18) hx hb hts i_Le hown hK Y gF_0 rfl 0 (by decide) kf_Le_10 rfl d_Le_add_12 ?_
  refine gy_get (ci := 1) (v := Value.int (X17.I 1 3)) (C := "CommitLedger$Entries") (T := F_En) (N := 4) hx hb hts i_En hown hK Y gF_1 rfl 3 (by decide) kf_Le_94 rfl d_Le_add_15 ?_
  refine lv_iload_n hx hb d_Le_add_18 rfl (lv_at hl 3 rfl) ?_
  refine lv_iadd hx hb d_Le_add_19 ?_
  refine lv_sipush (v := 4096) hx hb d_Le_add_20 (by decide) ?_
  refine lv_icmp_le (tgt := 36) hx hb d_Le_add_23 (by decide) (fun c23_18 => ?_) (fun c23_18 => ?_)
  · replace hf := gp_t c23_18 hf
    refine lv_iconst (v := 0) hx hb d_Le_add_36 (by decide) ?_
    refine lv_istore (lv' := [(4, Value.int 0), (0, Value.ref (b 0)), (1, Value.int a1), (2, Value.int a2), (3, Value.int a3)]) hx hb d_Le_add_37 hl (by decide) rfl (fun ls hl => ?_)
    refine gA_iter (fun s : gX × Int32 => s.1) (fun (s : gX × Int32) b ls => lv_has ls 5 [(4, Value.int s.2), (0, Value.ref (b 0)), (1, Value.int a1), (2, Value.int a2), (3, Value.int a3)]) ?_ gK (X17, 0) _ _ _ _ _ _ hf (lv_sub hl [0, 1, 2, 3, 4] rfl) (hC.mv Y) Y.rb
    rintro ⟨X19, i4_19⟩ u19 b H locs ls cells slots hf hl hC Y hk19 ho19
    have hl : lv_has ls 5 [(4, Value.int i4_19), (0, Value.ref (b 0)), (1, Value.int a1), (2, Value.int a2), (3, Value.int a3)] := hl
    have hC : gC X0 _ X19 b cells slots := hC
    have Y : gy D t b A s.heap X19 X19 H locs := Y
    have hf : f_Le_add_39 X19 a1 a2 a3 i4_19 = some u19 := hf
    refine gA_cut (pcJ := 69) hC Y (fun s : gX × Int32 => f_Le_add_69 s.1 a1 a2 a3 s.2) u19 (fun s => s.1) (fun s b ls => lv_has ls 5 [(4, Value.int s.2), (0, Value.ref (b 0)), (1, Value.int a1), (2, Value.int a2), (3, Value.int a3)]) (fun s b => []) ?_ (fun J69 => ?_)
    · rintro ⟨X20, i4_20⟩ b H locs ls cells slots hf hl hC Y
      have hl : lv_has ls 5 [(4, Value.int i4_20), (0, Value.ref (b 0)), (1, Value.int a1), (2, Value.int a2), (3, Value.int a3)] := hl
      have hC : gC X0 _ X20 b cells slots := hC
      have Y : gy D t b A s.heap X20 X20 H locs := Y
      have hf : f_Le_add_69 X20 a1 a2 a3 i4_20 = some u19 := hf
      unfold f_Le_add_69 at hf
      refine lv_iinc (v := i4_20 + 1) (lv' := [(4, Value.int (i4_20 + 1)), (0, Value.ref (b 0)), (1, Value.int a1), (2, Value.int a2), (3, Value.int a3)]) hx hb d_Le_add_69 hl (k := 0) rfl (rfl) (by decide) rfl (fun ls hl => ?_)
      refine lv_goto (tgt := 39) hx hb d_Le_add_72 (by decide) ?_
      exact hk19 _ _ _ _ _ _ _ hf (lv_sub hl [0, 1, 2, 3, 4] rfl) (hC.mv Y) Y.rb
    unfold f_Le_add_39 at hf
    refine lv_iload hx hb d_Le_add_39 (lv_at hl 0 rfl) ?_
    refine lv_iload_n hx hb d_Le_add_41 rfl (lv_at hl 4 rfl) ?_
    refine lv_icmp_ge (tgt := 75) hx hb d_Le_add_42 (by decide) (fun c42_21 => ?_) (fun c42_21 => ?_)
    · replace hf := gp_t c42_21 hf
      refine lv_aload_n hx hb d_Le_add_75 rfl (lv_at hl 1 rfl) ?_
      refine gy_get (ci := 0) (v := Value.ref (b 8)) (C := "CommitLedger") (T := F_Le) (N := 18) hx hb hts i_Le hown hK Y gF_0 rfl 2 (by decide) kf_Le_26 rfl d_Le_add_76 ?_
      refine gy_get (ci := 4) (v := Value.int (X19.I 8 5)) (C := "CommitLedger$View") (T := F_Vi) (N := 6) hx hb hts i_Vi hown hK Y gF_8 rfl 5 (by decide) kf_Le_131 rfl d_Le_add_79 ?_
      replace hf := gU hf ho19
      exact gA_iret hf hx hb hr hlocks hK hC Y d_Le_add_82
    · replace hf := gp_f c42_21 hf
      refine lv_aload_n hx hb d_Le_add_45 rfl (lv_at hl 1 rfl) ?_
      refine lv_iload_n hx hb d_Le_add_46 rfl (lv_at hl 2 rfl) ?_
      refine lv_iload hx hb d_Le_add_47 (lv_at hl 0 rfl) ?_
      refine lv_iadd hx hb d_Le_add_49 ?_
      refine lv_iload_n hx hb d_Le_add_50 rfl (lv_at hl 3 rfl) ?_
      obtain ⟨X22, hF22, hf⟩ := gCv_el hf
      refine gy_callV (rm := { frames := 2, cells := 0, slots := 0, locals := 35 }) (ig := .invokevirtual 120) (av := [Value.ref (b 0), Value.int (a1 + i4_19), Value.int a2]) Y (fun ws h hS hw => K_Le_addEntry l htr D tys z _ ws h hS t ht b X19 hw (a1 + i4_19) a2 (gR.v, X22) hF22) (gx_invV (As := [Value.int (a1 + i4_19), Value.int a2]) (rest := []) hx hb hown hts km_Le_120 kI_Le_addEntry kV_Le_addEntry kc_Le_addEntry (by decide) (show (parseMethodDescriptor y_Le_addEntry.desc).map (fun d => d.parameters.length) = some 2 by decide +kernel) (gy_recv (ci := 0) hK Y rfl gF_0) rfl rfl d_Le_add_51) (gx_cw (z := 0) hts kc_Le_addEntry kN_Le rfl rfl ⟨Nat.le_of_ble_eq_true rfl, Nat.le_of_ble_eq_true rfl⟩) hb hml hz hK hY hAz hA hl.1 (lv_room (Nat.le_of_ble_eq_true rfl)) d_Le_add_51 ⟨hC.rc0 (Nat.le_refl _), hC.rs0 (Nat.le_refl _)⟩ (fun H locs Y => ?_)
      refine lv_aload_n hx hb d_Le_add_54 rfl (lv_at hl 1 rfl) ?_
      obtain ⟨x23, X23, hF23, hf⟩ := gCi_el hf
      refine gy_callI (rm := { frames := 1, cells := 0, slots := 0, locals := 12 }) (ig := .invokevirtual 124) (av := [Value.ref (b 0)]) Y (fun ws h hS hw => K_Le_buffered l htr D tys z _ ws h hS t ht b X22 hw (gR.i x23, X23) hF23) (gx_invV (As := []) (rest := []) hx hb hown hts km_Le_124 kI_Le_buffered kV_Le_buffered kc_Le_buffered (by decide) (show (parseMethodDescriptor y_Le_buffered.desc).map (fun d => d.parameters.length) = some 0 by decide +kernel) (gy_recv (ci := 0) hK Y rfl gF_0) rfl rfl d_Le_add_55) (gx_cw (z := 0) hts kc_Le_buffered kN_Le rfl rfl ⟨Nat.le_of_ble_eq_true rfl, Nat.le_of_ble_eq_true rfl⟩) hb hml hz hK hY hAz hA hl.1 (lv_room (Nat.le_of_ble_eq_true rfl)) d_Le_add_55 ⟨hC.rc0 (Nat.le_refl _), hC.rs0 (Nat.le_refl _)⟩ (fun H locs Y => ?_)
      refine lv_aload_n hx hb d_Le_add_58 rfl (lv_at hl 1 rfl) ?_
      refine gy_get (ci := 0) (v := Value.int (X23.I 0 10)) (C := "CommitLedger") (T := F_Le) (N := 18) hx hb hts i_Le hown hK Y gF_0 rfl 10 (by decide) kf_Le_50 rfl d_Le_add_59 ?_
      refine lv_icmp_lt (tgt := 69) hx hb d_Le_add_62 (by decide) (fun c62_24 => ?_) (fun c62_24 => ?_)
      · replace hf := gp_t c62_24 hf
        exact J69 (X23, i4_19) _ _ _ _ _ _ hf (lv_sub hl [0, 1, 2, 3, 4] rfl) (hC.mv Y) Y.rb
      · replace hf := gp_f c62_24 hf
        refine lv_aload_n hx hb d_Le_add_65 rfl (lv_at hl 1 rfl) ?_
        have hl : lv_has ls 5 [(4, Value.int i4_19), (0, Value.ref (b 0)), (1, Value.int a1), (2, Value.int a2), (3, Value.int a3)] := lv_sub hl [0, 1, 2, 3, 4] rfl
        rcases gCvt_el hf with ⟨X25, hF25, hf⟩ | ⟨E25, X25, hF25, hf⟩
        rotate_left
        · replace hf := gU hf ho19
          cases hf
          refine gA_call (fr := 11) (lo := 261) (o1 := (gR.t E25, X25)) (ig := .invokevirtual 128) (av := [Value.ref (b 0)]) hC Y ⟨Nat.le_refl _, Nat.le_refl _⟩ (fun hc9 hs9 ws h hS hw => K_Le_flushBuffer l htr D tys z _ ws h hS t ht b X23 hw hc9 hs9 (gR.t E25, X25) hF25) (gx_invV (As := []) (rest := []) hx hb hown hts km_Le_128 kI_Le_flushBuffer kV_Le_flushBuffer kc_Le_flushBuffer (by decide) (show (parseMethodDescriptor y_Le_flushBuffer.desc).map (fun d => d.parameters.length) = some 0 by decide +kernel) (gy_recv (ci := 0) hK Y rfl gF_0) rfl rfl d_Le_add_66) (gx_cwA hts kc_Le_flushBuffer kN_Le ⟨Nat.le_of_ble_eq_true rfl, Nat.le_of_ble_eq_true rfl⟩) hb hml hz hK hY hAz hA hl.1 (lv_room (Nat.le_of_ble_eq_true rfl)) d_Le_add_66 (fun vz9 b H locs cells slots e9 hb9 hC Y => ?_) (fun xz9 Ez9 ce b H locs cells slots e9 hce hC Y => ?_)
          · have e9 : (Sum.inl vz9 : Option Value ⊕ String) = Sum.inr E25 := e9
            cases e9
          · have e9 : (Sum.inr Ez9 : Option Value ⊕ String) = Sum.inr E25 := e9
            cases e9
            exact gA_pass hne hlocks hce hK hC Y
        refine gA_call (fr := 11) (lo := 261) (o1 := (gR.v, X25)) (ig := .invokevirtual 128) (av := [Value.ref (b 0)]) hC Y ⟨Nat.le_refl _, Nat.le_refl _⟩ (fun hc9 hs9 ws h hS hw => K_Le_flushBuffer l htr D tys z _ ws h hS t ht b X23 hw hc9 hs9 (gR.v, X25) hF25) (gx_invV (As := []) (rest := []) hx hb hown hts km_Le_128 kI_Le_flushBuffer kV_Le_flushBuffer kc_Le_flushBuffer (by decide) (show (parseMethodDescriptor y_Le_flushBuffer.desc).map (fun d => d.parameters.length) = some 0 by decide +kernel) (gy_recv (ci := 0) hK Y rfl gF_0) rfl rfl d_Le_add_66) (gx_cwA hts kc_Le_flushBuffer kN_Le ⟨Nat.le_of_ble_eq_true rfl, Nat.le_of_ble_eq_true rfl⟩) hb hml hz hK hY hAz hA hl.1 (lv_room (Nat.le_of_ble_eq_true rfl)) d_Le_add_66 (fun vz9 b H locs cells slots e9 hb9 hC Y => ?_) (fun xz9 Ez9 ce b H locs cells slots e9 hce hC Y => ?_)
        rotate_left
        · have e9 : (Sum.inr Ez9 : Option Value ⊕ String) = Sum.inl none := e9
          cases e9
        have e9 : (Sum.inl vz9 : Option Value ⊕ String) = Sum.inl none := e9
        cases e9
        replace hl : lv_has ls 5 [(4, Value.int i4_19), (0, Value.ref (b 0)), (1, Value.int a1), (2, Value.int a2), (3, Value.int a3)] := by rw [hb9 0 (gNm_s (by decide))]; exact hl
        refine W.eq (g2 := F0 m 69 ls []) (by rfl) ?_
        exact J69 (X25, i4_19) _ _ _ _ _ _ hf (lv_sub hl [0, 1, 2, 3, 4] rfl) (hC.mv Y) Y.rb
  · replace hf := gp_f c23_18 hf
    cases hf
    exact gA_thr (i1 := 7) (b1 := prog_17_method_2_code) hx hb htr (hml.trans hl.1.symm) hown hts hne hlocks hK hC Y ⟨Nat.le_refl _, Nat.le_refl _⟩ hA hN kk_Le_115 kX_IndexOutOfBoundsException kN_IndexOutOfBoundsException ks_Le_117 kT_Le_119 (by decide) (by decide +kernel) (by decide +kernel) (by decide +kernel) (by decide +kernel) d_Le_add_26 d_Le_add_29 d_Le_add_30 d_Le_add_32 d_Le_add_35 (Nat.le_of_ble_eq_true rfl) (Nat.le_of_ble_eq_true rfl)

def f_Le_erase_75 (X : gX) (i2 : Int32) : Option (gR × gX) := some (gR.i i2, X)
def f_Le_erase_57 (X : gX) (i1 : Int32) (i2 : Int32) (i3 : Int32) : Option ((gX × Int32 × Int32) ⊕ (gR × gX)) := some (Sum.inl (X, i2, i3 + 1))
def f_Le_erase_8 (X : gX) (i1 : Int32) (i2 : Int32) (i3 : Int32) : Option ((gX × Int32 × Int32) ⊕ (gR × gX)) := (if (X.I 1 3) ≤ i3 then (if i2 ≤ (0 : Int32) then gLf (f_Le_erase_75 X i2) else gCv (f_Le_dropDeadSegments X) (fun X5 => gCv (f_Le_dropUnneededFiles X5) (fun X6 => gLf (f_Le_erase_75 X6 i2)))) else (if gIn i3 4096 then (if (X.I 11 (gn i3)) = (0 : Int32) then f_Le_erase_57 X i1 i2 i3 else (if gIn i3 4096 then (if (X.I 2 (gn i3)) = i1 then (if gIn i3 4096 then gB (X.w 11 (gn i3) (vp_nar .boolean 0)) (fun X9 => f_Le_erase_57 X9 i1 (i2 + 1) i3) else none) else f_Le_erase_57 X i1 i2 i3) else none)) else none))
def f_Le_erase (X0 : gX) (a1 : Int32) : Option (gR × gX) := gCvt (f_Le_requireWriter X0) (fun E X => some (gR.t E, X)) (fun X1 => gI (fun s : gX × Int32 × Int32 => f_Le_erase_8 s.1 a1 s.2.1 s.2.2) gK (X1, 0, 0))
set_option maxHeartbeats 4000000 in
set_option maxRecDepth 100000 in
theorem K_Le_erase (l : Launch) (htr : l.stackTraces = false) (D : va_G) (tys : List (ClassId × FieldType)) (z sz : Nat) (ws : va_W) (h : gm_M) (hM : gm_S h ws) (t : Nat → ClassId) (ht : gTy t tys) (b : Nat → Nat) (X0 : gX) (hw : gw D t b X0 h) (a1 : Int32) (hc0 : X0.cc ≤ gCL) (hs0 : X0.ss ≤ gSL) (o : gR × gX) (hf : f_Le_erase X0 a1 = some o) : gx_Met l y_Le_erase [Cond.code y_Le_erase b_Le_erase 4 (some .int)] { frames := 10, cells := gCL + 1 - X0.cc, slots := gSL + 6 - X0.ss, locals := 241 } (gx_P z sz D classes tys ws [Value.ref (b 0), Value.int a1]) (gx_Q D classes tys (va_A ws sz) (gPoA D t b X0 o)) (o.2.cc + gT o.1 - X0.cc) (o.2.ss + 6 * gT o.1 - X0.ss) (va_A ws sz) := by
  refine gx_ofW (cc := b_Le_erase) (maxL := 4) (ret := (some .int)) (by decide) rfl ?_
  intro p e s m args below meth c s₁ B hml hv
  obtain ⟨rfl, hsz, hz, hP, hK, hD0, hY⟩ := hv
  have hx := B.exec
  have hb := B.bytes
  have hr := B.returns
  have hts := hY.hts (#[Value.ref (b 0), Value.int a1] : Array Value)
  have hown : s.vm.findClass "CommitLedger" = some m.cls := findClass_of_methodNamed B.named
  have hlocks := B.notSynchronized
  have hne : c.exceptionTable.isEmpty = true := B.noHandlers (atoms_spec (ws := [Cond.code y_Le_erase b_Le_erase 4 (some .int)]) B.pre _ List.mem_cons_self)
  have hN := gx_ns hP
  subst hsz
  have hAz := gx_az hD0 hz
  have hD := hD0.self (sz := s.heap.size)
  have hA : ∀ q : Nat, s.heap.size ≤ q → va_A ws s.heap.size q := fun q h => Or.inr h
  generalize va_A ws s.heap.size = A at hD hA hAz hN ⊢
  have Y : gy D t b A s.heap X0 X0 s.heap [] := ⟨h, ⟨ws, hM, hP, hD, va_S.rf⟩, hw, gEq.rf⟩
  clear hP hD hM hD0 hw
  have hC : gC X0 b X0 b 0 0 := gC.rf hc0 hs0
  obtain ⟨ht0, ht1, ht2, ht3, ht4, ht5, ht6, ht7, ht8⟩ := id ht
  have hl := lv_entry ([Value.ref (b 0), Value.int a1]) (n := 4) (Nat.le_of_ble_eq_true rfl)
  rw [lg_entry_eq]
  generalize (lg_sl ([Value.ref (b 0), Value.int a1]) ++ List.replicate (4 - (lg_sl ([Value.ref (b 0), Value.int a1])).length) Slot.unset).toArray = ls at hl ⊢
  have hl : lv_has ls 4 [(0, Value.ref (b 0)), (1, Value.int a1)] := hl
  refine gA_cut (pcJ := 75) hC Y (fun s : gX × Int32 => f_Le_erase_75 s.1 s.2) o (fun s => s.1) (fun s b ls => lv_has ls 4 [(2, Value.int s.2)]) (fun s b => []) ?_ (fun J75 => ?_)
  · rintro ⟨X18, i2_18⟩ b H locs ls cells slots hf hl hC Y
    have hl : lv_has ls 4 [(2, Value.int i2_18)] := hl
    have hC : gC X0 _ X18 b cells slots := hC
    have Y : gy D t b A s.heap X18 X18 H locs := Y
    have hf : f_Le_erase_75 X18 i2_18 = some o := hf
    unfold f_Le_erase_75 at hf
    refine lv_iload_n hx hb d_Le_erase_75 rfl (lv_at hl 0 rfl) ?_
    exact gA_iret hf hx hb hr hlocks hK hC Y d_Le_erase_76
  unfold f_Le_erase at hf
  refine lv_aload_n hx hb d_Le_erase_0 rfl (lv_at hl 0 rfl) ?_
  rcases gCvt_el hf with ⟨X19, hF19, hf⟩ | ⟨E19, X19, hF19, hf⟩
  rotate_left
  · cases hf
    refine gy_callT (rm := { frames := 6, cells := 1, slots := 6, locals := 82 }) (ig := .invokevirtual 112) (av := [Value.ref (b 0)]) Y (fun ws h hS hw => K_Le_requireWriter l htr D tys z _ ws h hS t ht b X0 hw (gR.t E19, X19) hF19) (gx_invV (As := []) (rest := []) hx hb hown hts km_Le_112 kI_Le_requireWriter kV_Le_requireWriter kc_Le_requireWriter (by decide) (show (parseMethodDescriptor y_Le_requireWriter.desc).map (fun d => d.parameters.length) = some 0 by decide +kernel) (gy_recv (ci := 0) hK Y rfl gF_0) rfl rfl d_Le_erase_1) (gx_cw (z := 0) hts kc_Le_requireWriter kN_Le rfl rfl ⟨Nat.le_of_ble_eq_true rfl, Nat.le_of_ble_eq_true rfl⟩) hb hml hz hK hY hAz hA hl.1 (lv_room (Nat.le_of_ble_eq_true rfl)) d_Le_erase_1 ⟨hC.rc (Nat.le_refl _), hC.rs (Nat.le_refl _)⟩ (fun xz9 ce H1 L9 hce Y => gA_pass hne hlocks hce hK hC Y)
  refine gy_callV (rm := { frames := 6, cells := 0, slots := 0, locals := 82 }) (ig := .invokevirtual 112) (av := [Value.ref (b 0)]) Y (fun ws h hS hw => K_Le_requireWriter l htr D tys z _ ws h hS t ht b X0 hw (gR.v, X19) hF19) (gx_invV (As := []) (rest := []) hx hb hown hts km_Le_112 kI_Le_requireWriter kV_Le_requireWriter kc_Le_requireWriter (by decide) (show (parseMethodDescriptor y_Le_requireWriter.desc).map (fun d => d.parameters.length) = some 0 by decide +kernel) (gy_recv (ci := 0) hK Y rfl gF_0) rfl rfl d_Le_erase_1) (gx_cw (z := 0) hts kc_Le_requireWriter kN_Le rfl rfl ⟨Nat.le_of_ble_eq_true rfl, Nat.le_of_ble_eq_true rfl⟩) hb hml hz hK hY hAz hA hl.1 (lv_room (Nat.le_of_ble_eq_true rfl)) d_Le_erase_1 ⟨hC.rc0 (Nat.le_refl _), hC.rs0 (Nat.le_refl _)⟩ (fun H locs Y => ?_)
  refine lv_iconst (v := 0) hx hb d_Le_erase_4 (by decide) ?_
  refine lv_istore_n (lv' := [(2, Value.int 0), (0, Value.ref (b 0)), (1, Value.int a1)]) hx hb d_Le_erase_5 rfl hl (by decide) rfl (fun ls hl => ?_)
  refine lv_iconst (v := 0) hx hb d_Le_erase_6 (by decide) ?_
  refine lv_istore_n (lv' := [(3, Value.int 0), (2, Value.int 0), (0, Value.ref (b 0)), (1, Value.int a1)]) hx hb d_Le_erase_7 rfl hl (by decide) rfl (fun ls hl => ?_)
  refine gA_iter (fun s : gX × Int32 × Int32 => s.1) (fun (s : gX × Int32 × Int32) b ls => lv_has ls 4 [(2, Value.int s.2.1), (3, Value.int s.2.2), (0, Value.ref (b 0)), (1, Value.int a1)]) ?_ gK (X19, 0, 0) _ _ _ _ _ _ hf (lv_sub hl [1, 0, 2, 3] rfl) (hC.mv Y) Y.rb
  rintro ⟨X20, i2_20, i3_20⟩ u20 b H locs ls cells slots hf hl hC Y hk20 ho20
  have hl : lv_has ls 4 [(2, Value.int i2_20), (3, Value.int i3_20), (0, Value.ref (b 0)), (1, Value.int a1)] := hl
  have hC : gC X0 _ X20 b cells slots := hC
  have Y : gy D t b A s.heap X20 X20 H locs := Y
  have hf : f_Le_erase_8 X20 a1 i2_20 i3_20 = some u20 := hf
  refine gA_cut (pcJ := 57) hC Y (fun s : gX × Int32 × Int32 => f_Le_erase_57 s.1 a1 s.2.1 s.2.2) u20 (fun s => s.1) (fun s b ls => lv_has ls 4 [(2, Value.int s.2.1), (3, Value.int s.2.2), (0, Value.ref (b 0)), (1, Value.int a1)]) (fun s b => []) ?_ (fun J57 => ?_)
  · rintro ⟨X21, i2_21, i3_21⟩ b H locs ls cells slots hf hl hC Y
    have hl : lv_has ls 4 [(2, Value.int i2_21), (3, Value.int i3_21), (0, Value.ref (b 0)), (1, Value.int a1)] := hl
    have hC : gC X0 _ X21 b cells slots := hC
    have Y : gy D t b A s.heap X21 X21 H locs := Y
    have hf : f_Le_erase_57 X21 a1 i2_21 i3_21 = some u20 := hf
    unfold f_Le_erase_57 at hf
    refine lv_iinc (v := i3_21 + 1) (lv' := [(3, Value.int (i3_21 + 1)), (2, Value.int i2_21), (0, Value.ref (b 0)), (1, Value.int a1)]) hx hb d_Le_erase_57 hl (k := 1) rfl (rfl) (by decide) rfl (fun ls hl => ?_)
    refine lv_goto (tgt := 8) hx hb d_Le_erase_60 (by decide) ?_
    exact hk20 _ _ _ _ _ _ _ hf (lv_sub hl [1, 0, 2, 3] rfl) (hC.mv Y) Y.rb
  unfold f_Le_erase_8 at hf
  refine lv_iload_n hx hb d_Le_erase_8 rfl (lv_at hl 1 rfl) ?_
  refine lv_aload_n hx hb d_Le_erase_9 rfl (lv_at hl 2 rfl) ?_
  refine gy_get (ci := 0) (v := Value.ref (b 1)) (C := "CommitLedger") (T := F_Le) (N := 18) hx hb hts i_Le hown hK Y gF_0 rfl 0 (by decide) kf_Le_10 rfl d_Le_erase_10 ?_
  refine gy_get (ci := 1) (v := Value.int (X20.I 1 3)) (C := "CommitLedger$Entries") (T := F_En) (N := 4) hx hb hts i_En hown hK Y gF_1 rfl 3 (by decide) kf_Le_94 rfl d_Le_erase_13 ?_
  refine lv_icmp_ge (tgt := 63) hx hb d_Le_erase_16 (by decide) (fun c16_22 => ?_) (fun c16_22 => ?_)
  · replace hf := gp_t c16_22 hf
    refine lv_iload_n hx hb d_Le_erase_63 rfl (lv_at hl 0 rfl) ?_
    refine lv_if_le (tgt := 75) hx hb d_Le_erase_64 (by decide) (fun c64_23 => ?_) (fun c64_23 => ?_)
    · replace hf := gp_t c64_23 hf
      replace hf := gU hf ho20
      exact J75 (X20, i2_20) _ _ _ _ _ _ hf (lv_sub hl [0] rfl) (hC.mv Y) Y.rb
    · replace hf := gp_f c64_23 hf
      refine lv_aload_n hx hb d_Le_erase_67 rfl (lv_at hl 2 rfl) ?_
      obtain ⟨X24, hF24, hf⟩ := gCv_el hf
      refine gy_callV (rm := { frames := 3, cells := 0, slots := 0, locals := 57 }) (ig := .invokevirtual 103) (av := [Value.ref (b 0)]) Y (fun ws h hS hw => K_Le_dropDeadSegments l htr D tys z _ ws h hS t ht b X20 hw (gR.v, X24) hF24) (gx_invV (As := []) (rest := []) hx hb hown hts km_Le_103 kI_Le_dropDeadSegments kV_Le_dropDeadSegments kc_Le_dropDeadSegments (by decide) (show (parseMethodDescriptor y_Le_dropDeadSegments.desc).map (fun d => d.parameters.length) = some 0 by decide +kernel) (gy_recv (ci := 0) hK Y rfl gF_0) rfl rfl d_Le_erase_68) (gx_cw (z := 0) hts kc_Le_dropDeadSegments kN_Le rfl rfl ⟨Nat.le_of_ble_eq_true rfl, Nat.le_of_ble_eq_true rfl⟩) hb hml hz hK hY hAz hA hl.1 (lv_room (Nat.le_of_ble_eq_true rfl)) d_Le_erase_68 ⟨hC.rc0 (Nat.le_refl _), hC.rs0 (Nat.le_refl _)⟩ (fun H locs Y => ?_)
      refine lv_aload_n hx hb d_Le_erase_71 rfl (lv_at hl 2 rfl) ?_
      have hl : lv_has ls 4 [(2, Value.int i2_20)] := lv_sub hl [0] rfl
      obtain ⟨X25, hF25, hf⟩ := gCv_el hf
      refine gA_call (fr := 9) (lo := 220) (o1 := (gR.v, X25)) (ig := .invokevirtual 106) (av := [Value.ref (b 0)]) hC Y ⟨Nat.le_refl _, Nat.le_refl _⟩ (fun hc9 hs9 ws h hS hw => K_Le_dropUnneededFiles l htr D tys z _ ws h hS t ht b X24 hw hc9 hs9 (gR.v, X25) hF25) (gx_invV (As := []) (rest := []) hx hb hown hts km_Le_106 kI_Le_dropUnneededFiles kV_Le_dropUnneededFiles kc_Le_dropUnneededFiles (by decide) (show (parseMethodDescriptor y_Le_dropUnneededFiles.desc).map (fun d => d.parameters.length) = some 0 by decide +kernel) (gy_recv (ci := 0) hK Y rfl gF_0) rfl rfl d_Le_erase_72) (gx_cwA hts kc_Le_dropUnneededFiles kN_Le ⟨Nat.le_of_ble_eq_true rfl, Nat.le_of_ble_eq_true rfl⟩) hb hml hz hK hY hAz hA hl.1 (lv_room (Nat.le_of_ble_eq_true rfl)) d_Le_erase_72 (fun vz9 b H locs cells slots e9 hb9 hC Y => ?_) (fun xz9 Ez9 ce b H locs cells slots e9 hce hC Y => ?_)
      rotate_left
      · have e9 : (Sum.inr Ez9 : Option Value ⊕ String) = Sum.inl none := e9
        cases e9
      have e9 : (Sum.inl vz9 : Option Value ⊕ String) = Sum.inl none := e9
      cases e9
      replace hl : lv_has ls 4 [(2, Value.int i2_20)] := by exact hl
      refine W.eq (g2 := F0 m 75 ls []) (by rfl) ?_
      replace hf := gU hf ho20
      exact J75 (X25, i2_20) _ _ _ _ _ _ hf (lv_sub hl [0] rfl) (hC.mv Y) Y.rb
  · replace hf := gp_f c16_22 hf
    refine lv_aload_n hx hb d_Le_erase_19 rfl (lv_at hl 2 rfl) ?_
    refine gy_get (ci := 0) (v := Value.ref (b 8)) (C := "CommitLedger") (T := F_Le) (N := 18) hx hb hts i_Le hown hK Y gF_0 rfl 2 (by decide) kf_Le_26 rfl d_Le_erase_20 ?_
    refine gy_get (ci := 4) (v := Value.ref (b 11)) (C := "CommitLedger$View") (T := F_Vi) (N := 6) hx hb hts i_Vi hown hK Y gF_8 rfl 2 (by decide) kf_Le_134 rfl d_Le_erase_23 ?_
    refine lv_iload_n hx hb d_Le_erase_26 rfl (lv_at hl 1 rfl) ?_
    refine gy_zald hf hx hb hK Y 1 (fun _ => gF_11) ht1 d_Le_erase_27 (fun _ hf => ?_)
    refine lv_if_eq (tgt := 57) hx hb d_Le_erase_28 (by decide) (fun c28_26 => ?_) (fun c28_26 => ?_)
    · replace hf := gp_t c28_26 hf
      exact J57 (X20, i2_20, i3_20) _ _ _ _ _ _ hf (lv_sub hl [0, 1, 2, 3] rfl) (hC.mv Y) Y.rb
    · replace hf := gp_f c28_26 hf
      refine lv_aload_n hx hb d_Le_erase_31 rfl (lv_at hl 2 rfl) ?_
      refine gy_get (ci := 0) (v := Value.ref (b 1)) (C := "CommitLedger") (T := F_Le) (N := 18) hx hb hts i_Le hown hK Y gF_0 rfl 0 (by decide) kf_Le_10 rfl d_Le_erase_32 ?_
      refine gy_get (ci := 1) (v := Value.ref (b 2)) (C := "CommitLedger$Entries") (T := F_En) (N := 4) hx hb hts i_En hown hK Y gF_1 rfl 0 (by decide) kf_Le_138 rfl d_Le_erase_35 ?_
      refine lv_iload_n hx hb d_Le_erase_38 rfl (lv_at hl 1 rfl) ?_
      refine gy_iald hf hx hb hK Y 0 (fun _ => gF_2) ht0 d_Le_erase_39 (fun _ hf => ?_)
      refine lv_iload_n hx hb d_Le_erase_40 rfl (lv_at hl 3 rfl) ?_
      refine lv_icmp_ne (tgt := 57) hx hb d_Le_erase_41 (by decide) (fun c41_27 => ?_) (fun c41_27 => ?_)
      · replace hf := gp_f c41_27 hf
        exact J57 (X20, i2_20, i3_20) _ _ _ _ _ _ hf (lv_sub hl [0, 1, 2, 3] rfl) (hC.mv Y) Y.rb
      · replace hf := gp_t c41_27 hf
        refine lv_aload_n hx hb d_Le_erase_44 rfl (lv_at hl 2 rfl) ?_
        refine gy_get (ci := 0) (v := Value.ref (b 8)) (C := "CommitLedger") (T := F_Le) (N := 18) hx hb hts i_Le hown hK Y gF_0 rfl 2 (by decide) kf_Le_26 rfl d_Le_erase_45 ?_
        refine gy_get (ci := 4) (v := Value.ref (b 11)) (C := "CommitLedger$View") (T := F_Vi) (N := 6) hx hb hts i_Vi hown hK Y gF_8 rfl 2 (by decide) kf_Le_134 rfl d_Le_erase_48 ?_
        refine lv_iload_n hx hb d_Le_erase_51 rfl (lv_at hl 1 rfl) ?_
        refine lv_iconst (v := 0) hx hb d_Le_erase_52 (by decide) ?_
        refine gy_zast hf hx hb hK Y 1 (fun _ => gF_11) ht1 d_Le_erase_53 (fun X28 H locs hf Y => ?_)
        refine lv_iinc (v := i2_20 + 1) (lv' := [(2, Value.int (i2_20 + 1)), (3, Value.int i3_20), (0, Value.ref (b 0)), (1, Value.int a1)]) hx hb d_Le_erase_54 hl (k := 0) rfl (rfl) (by decide) rfl (fun ls hl => ?_)
        exact J57 (X28, i2_20 + 1, i3_20) _ _ _ _ _ _ hf (lv_sub hl [0, 1, 2, 3] rfl) (hC.mv Y) Y.rb

def f_Le_flush (X0 : gX) : Option (gR × gX) := gCvt (f_Le_requireWriter X0) (fun E X => some (gR.t E, X)) (fun X1 => gCvt (f_Le_flushBuffer X1) (fun E X => some (gR.t E, X)) (fun X2 => some (gR.i (X2.I 8 4), X2)))
set_option maxHeartbeats 4000000 in
set_option maxRecDepth 100000 in
theorem K_Le_flush (l : Launch) (htr : l.stackTraces = false) (D : va_G) (tys : List (ClassId × FieldType)) (z sz : Nat) (ws : va_W) (h : gm_M) (hM : gm_S h ws) (t : Nat → ClassId) (ht : gTy t tys) (b : Nat → Nat) (X0 : gX) (hw : gw D t b X0 h) (hc0 : X0.cc ≤ gCL) (hs0 : X0.ss ≤ gSL) (o : gR × gX) (hf : f_Le_flush X0 = some o) : gx_Met l y_Le_flush [Cond.code y_Le_flush b_Le_flush 1 (some .int)] { frames := 12, cells := gCL + 1 - X0.cc, slots := gSL + 6 - X0.ss, locals := 282 } (gx_P z sz D classes tys ws [Value.ref (b 0)]) (gx_Q D classes tys (va_A ws sz) (gPoA D t b X0 o)) (o.2.cc + gT o.1 - X0.cc) (o.2.ss + 6 * gT o.1 - X0.ss) (va_A ws sz) := by
  refine gx_ofW (cc := b_Le_flush) (maxL := 1) (ret := (some .int)) (by decide) rfl ?_
  intro p e s m args below meth c s₁ B hml hv
  obtain ⟨rfl, hsz, hz, hP, hK, hD0, hY⟩ := hv
  have hx := B.exec
  have hb := B.bytes
  have hr := B.returns
  have hts := hY.hts (#[Value.ref (b 0)] : Array Value)
  have hown : s.vm.findClass "CommitLedger" = some m.cls := findClass_of_methodNamed B.named
  have hlocks := B.notSynchronized
  have hne : c.exceptionTable.isEmpty = true := B.noHandlers (atoms_spec (ws := [Cond.code y_Le_flush b_Le_flush 1 (some .int)]) B.pre _ List.mem_cons_self)
  have hN := gx_ns hP
  subst hsz
  have hAz := gx_az hD0 hz
  have hD := hD0.self (sz := s.heap.size)
  have hA : ∀ q : Nat, s.heap.size ≤ q → va_A ws s.heap.size q := fun q h => Or.inr h
  generalize va_A ws s.heap.size = A at hD hA hAz hN ⊢
  have Y : gy D t b A s.heap X0 X0 s.heap [] := ⟨h, ⟨ws, hM, hP, hD, va_S.rf⟩, hw, gEq.rf⟩
  clear hP hD hM hD0 hw
  have hC : gC X0 b X0 b 0 0 := gC.rf hc0 hs0
  obtain ⟨ht0, ht1, ht2, ht3, ht4, ht5, ht6, ht7, ht8⟩ := id ht
  have hl := lv_entry ([Value.ref (b 0)]) (n := 1) (Nat.le_of_ble_eq_true rfl)
  rw [lg_entry_eq]
  generalize (lg_sl ([Value.ref (b 0)]) ++ List.replicate (1 - (lg_sl ([Value.ref (b 0)])).length) Slot.unset).toArray = ls at hl ⊢
  have hl : lv_has ls 1 [(0, Value.ref (b 0))] := hl
  unfold f_Le_flush at hf
  refine lv_aload_n hx hb d_Le_flush_0 rfl (lv_at hl 0 rfl) ?_
  rcases gCvt_el hf with ⟨X3, hF3, hf⟩ | ⟨E3, X3, hF3, hf⟩
  rotate_left
  · cases hf
    refine gy_callT (rm := { frames := 6, cells := 1, slots := 6, locals := 82 }) (ig := .invokevirtual 112) (av := [Value.ref (b 0)]) Y (fun ws h hS hw => K_Le_requireWriter l htr D tys z _ ws h hS t ht b X0 hw (gR.t E3, X3) hF3) (gx_invV (As := []) (rest := []) hx hb hown hts km_Le_112 kI_Le_requireWriter kV_Le_requireWriter kc_Le_requireWriter (by decide) (show (parseMethodDescriptor y_Le_requireWriter.desc).map (fun d => d.parameters.length) = some 0 by decide +kernel) (gy_recv (ci := 0) hK Y rfl gF_0) rfl rfl d_Le_flush_1) (gx_cw (z := 0) hts kc_Le_requireWriter kN_Le rfl rfl ⟨Nat.le_of_ble_eq_true rfl, Nat.le_of_ble_eq_true rfl⟩) hb hml hz hK hY hAz hA hl.1 (lv_room (Nat.le_of_ble_eq_true rfl)) d_Le_flush_1 ⟨hC.rc (Nat.le_refl _), hC.rs (Nat.le_refl _)⟩ (fun xz9 ce H1 L9 hce Y => gA_pass hne hlocks hce hK hC Y)
  refine gy_callV (rm := { frames := 6, cells := 0, slots := 0, locals := 82 }) (ig := .invokevirtual 112) (av := [Value.ref (b 0)]) Y (fun ws h hS hw => K_Le_requireWriter l htr D tys z _ ws h hS t ht b X0 hw (gR.v, X3) hF3) (gx_invV (As := []) (rest := []) hx hb hown hts km_Le_112 kI_Le_requireWriter kV_Le_requireWriter kc_Le_requireWriter (by decide) (show (parseMethodDescriptor y_Le_requireWriter.desc).map (fun d => d.parameters.length) = some 0 by decide +kernel) (gy_recv (ci := 0) hK Y rfl gF_0) rfl rfl d_Le_flush_1) (gx_cw (z := 0) hts kc_Le_requireWriter kN_Le rfl rfl ⟨Nat.le_of_ble_eq_true rfl, Nat.le_of_ble_eq_true rfl⟩) hb hml hz hK hY hAz hA hl.1 (lv_room (Nat.le_of_ble_eq_true rfl)) d_Le_flush_1 ⟨hC.rc0 (Nat.le_refl _), hC.rs0 (Nat.le_refl _)⟩ (fun H locs Y => ?_)
  refine lv_aload_n hx hb d_Le_flush_4 rfl (lv_at hl 0 rfl) ?_
  have hl : lv_has ls 1 [(0, Value.ref (b 0))] := lv_sub hl [0] rfl
  rcases gCvt_el hf with ⟨X4, hF4, hf⟩ | ⟨E4, X4, hF4, hf⟩
  rotate_left
  · cases hf
    refine gA_call (fr := 11) (lo := 261) (o1 := (gR.t E4, X4)) (ig := .invokevirtual 128) (av := [Value.ref (b 0)]) hC Y ⟨Nat.le_refl _, Nat.le_refl _⟩ (fun hc9 hs9 ws h hS hw => K_Le_flushBuffer l htr D tys z _ ws h hS t ht b X3 hw hc9 hs9 (gR.t E4, X4) hF4) (gx_invV (As := []) (rest := []) hx hb hown hts km_Le_128 kI_Le_flushBuffer kV_Le_flushBuffer kc_Le_flushBuffer (by decide) (show (parseMethodDescriptor y_Le_flushBuffer.desc).map (fun d => d.parameters.length) = some 0 by decide +kernel) (gy_recv (ci := 0) hK Y rfl gF_0) rfl rfl d_Le_flush_5) (gx_cwA hts kc_Le_flushBuffer kN_Le ⟨Nat.le_of_ble_eq_true rfl, Nat.le_of_ble_eq_true rfl⟩) hb hml hz hK hY hAz hA hl.1 (lv_room (Nat.le_of_ble_eq_true rfl)) d_Le_flush_5 (fun vz9 b H locs cells slots e9 hb9 hC Y => ?_) (fun xz9 Ez9 ce b H locs cells slots e9 hce hC Y => ?_)
    · have e9 : (Sum.inl vz9 : Option Value ⊕ String) = Sum.inr E4 := e9
      cases e9
    · have e9 : (Sum.inr Ez9 : Option Value ⊕ String) = Sum.inr E4 := e9
      cases e9
      exact gA_pass hne hlocks hce hK hC Y
  refine gA_call (fr := 11) (lo := 261) (o1 := (gR.v, X4)) (ig := .invokevirtual 128) (av := [Value.ref (b 0)]) hC Y ⟨Nat.le_refl _, Nat.le_refl _⟩ (fun hc9 hs9 ws h hS hw => K_Le_flushBuffer l htr D tys z _ ws h hS t ht b X3 hw hc9 hs9 (gR.v, X4) hF4) (gx_invV (As := []) (rest := []) hx hb hown hts km_Le_128 kI_Le_flushBuffer kV_Le_flushBuffer kc_Le_flushBuffer (by decide) (show (parseMethodDescriptor y_Le_flushBuffer.desc).map (fun d => d.parameters.length) = some 0 by decide +kernel) (gy_recv (ci := 0) hK Y rfl gF_0) rfl rfl d_Le_flush_5) (gx_cwA hts kc_Le_flushBuffer kN_Le ⟨Nat.le_of_ble_eq_true rfl, Nat.le_of_ble_eq_true rfl⟩) hb hml hz hK hY hAz hA hl.1 (lv_room (Nat.le_of_ble_eq_true rfl)) d_Le_flush_5 (fun vz9 b H locs cells slots e9 hb9 hC Y => ?_) (fun xz9 Ez9 ce b H locs cells slots e9 hce hC Y => ?_)
  rotate_left
  · have e9 : (Sum.inr Ez9 : Option Value ⊕ String) = Sum.inl none := e9
    cases e9
  have e9 : (Sum.inl vz9 : Option Value ⊕ String) = Sum.inl none := e9
  cases e9
  replace hl : lv_has ls 1 [(0, Value.ref (b 0))] := by rw [hb9 0 (gNm_s (by decide))]; exact hl
  refine W.eq (g2 := F0 m 8 ls []) (by rfl) ?_
  refine lv_aload_n hx hb d_Le_flush_8 rfl (lv_at hl 0 rfl) ?_
  refine gy_get (ci := 0) (v := Value.ref (b 8)) (C := "CommitLedger") (T := F_Le) (N := 18) hx hb hts i_Le hown hK Y gF_0 rfl 2 (by decide) kf_Le_26 rfl d_Le_flush_9 ?_
  refine gy_get (ci := 4) (v := Value.int (X4.I 8 4)) (C := "CommitLedger$View") (T := F_Vi) (N := 6) hx hb hts i_Vi hown hK Y gF_8 rfl 4 (by decide) kf_Le_109 rfl d_Le_flush_12 ?_
  exact gA_iret hf hx hb hr hlocks hK hC Y d_Le_flush_15

def f_Le_merge (X0 : gX) (a1 : Int32) : Option (gR × gX) := gCvt (f_Le_requireRange X0 a1 0 1) (fun E X => some (gR.t E, X)) (fun X1 => gCvt (f_Le_requireWriter X1) (fun E X => some (gR.t E, X)) (fun X2 => (if (X2.I 0 12) < (4 : Int32) then (if a1 = (1 : Int32) then gCi (f_Le_allCanBeMerged X2) (fun x8 X8 => (if x8 = (0 : Int32) then some (gR.t "java/util/NoSuchElementException", X8) else gCit (f_Le_beginMerge X8 0 (X8.I 8 4)) (fun E X => some (gR.t E, X)) (fun x10 X10 => some (gR.i x10, X10)))) else gCi (f_Le_firstByPolicy X2) (fun x5 X5 => (if (0 : Int32) ≤ x5 then gCit (f_Le_beginMerge X5 x5 (X5.I 0 11)) (fun E X => some (gR.t E, X)) (fun x7 X7 => some (gR.i x7, X7)) else some (gR.t "java/util/NoSuchElementException", X5)))) else some (gR.t "java/lang/IndexOutOfBoundsException", X2))))
set_option maxHeartbeats 4000000 in
set_option maxRecDepth 100000 in
theorem K_Le_merge (l : Launch) (htr : l.stackTraces = false) (D : va_G) (tys : List (ClassId × FieldType)) (z sz : Nat) (ws : va_W) (h : gm_M) (hM : gm_S h ws) (t : Nat → ClassId) (ht : gTy t tys) (b : Nat → Nat) (X0 : gX) (hw : gw D t b X0 h) (a1 : Int32) (hc0 : X0.cc ≤ gCL) (hs0 : X0.ss ≤ gSL) (o : gR × gX) (hf : f_Le_merge X0 a1 = some o) : gx_Met l y_Le_merge [Cond.code y_Le_merge b_Le_merge 3 (some .int)] { frames := 12, cells := gCL + 1 - X0.cc, slots := gSL + 6 - X0.ss, locals := 286 } (gx_P z sz D classes tys ws [Value.ref (b 0), Value.int a1]) (gx_Q D classes tys (va_A ws sz) (gPoA D t b X0 o)) (o.2.cc + gT o.1 - X0.cc) (o.2.ss + 6 * gT o.1 - X0.ss) (va_A ws sz) := by
  refine gx_ofW (cc := b_Le_merge) (maxL := 3) (ret := (some .int)) (by decide) rfl ?_
  intro p e s m args below meth c s₁ B hml hv
  obtain ⟨rfl, hsz, hz, hP, hK, hD0, hY⟩ := hv
  have hx := B.exec
  have hb := B.bytes
  have hr := B.returns
  have hts := hY.hts (#[Value.ref (b 0), Value.int a1] : Array Value)
  have hown : s.vm.findClass "CommitLedger" = some m.cls := findClass_of_methodNamed B.named
  have hlocks := B.notSynchronized
  have hne : c.exceptionTable.isEmpty = true := B.noHandlers (atoms_spec (ws := [Cond.code y_Le_merge b_Le_merge 3 (some .int)]) B.pre _ List.mem_cons_self)
  have hN := gx_ns hP
  subst hsz
  have hAz := gx_az hD0 hz
  have hD := hD0.self (sz := s.heap.size)
  have hA : ∀ q : Nat, s.heap.size ≤ q → va_A ws s.heap.size q := fun q h => Or.inr h
  generalize va_A ws s.heap.size = A at hD hA hAz hN ⊢
  have Y : gy D t b A s.heap X0 X0 s.heap [] := ⟨h, ⟨ws, hM, hP, hD, va_S.rf⟩, hw, gEq.rf⟩
  clear hP hD hM hD0 hw
  have hC : gC X0 b X0 b 0 0 := gC.rf hc0 hs0
  obtain ⟨ht0, ht1, ht2, ht3, ht4, ht5, ht6, ht7, ht8⟩ := id ht
  have hl := lv_entry ([Value.ref (b 0), Value.int a1]) (n := 3) (Nat.le_of_ble_eq_true rfl)
  rw [lg_entry_eq]
  generalize (lg_sl ([Value.ref (b 0), Value.int a1]) ++ List.replicate (3 - (lg_sl ([Value.ref (b 0), Value.int a1])).length) Slot.unset).toArray = ls at hl ⊢
  have hl : lv_has ls 3 [(0, Value.ref (b 0)), (1, Value.int a1)] := hl
  unfold f_Le_merge at hf
  refine lv_iload_n hx hb d_Le_merge_0 rfl (lv_at hl 1 rfl) ?_
  refine lv_iconst (v := 0) hx hb d_Le_merge_1 (by decide) ?_
  refine lv_iconst (v := 1) hx hb d_Le_merge_2 (by decide) ?_
  rcases gCvt_el hf with ⟨X11, hF11, hf⟩ | ⟨E11, X11, hF11, hf⟩
  rotate_left
  · cases hf
    refine gy_callT (rm := { frames := 6, cells := 1, slots := 6, locals := 82 }) (ig := .invokestatic 60) (av := [Value.int a1, Value.int 0, Value.int 1]) Y (fun ws h hS hw => K_Le_requireRange l htr D tys z _ ws h hS t ht b X0 hw a1 0 1 (gR.t E11, X11) hF11) (gx_invS (As := [Value.int a1, Value.int 0, Value.int 1]) (rest := []) hx hb hown hts km_Le_60 kS_Le_requireRange kN_Le kc_Le_requireRange (by decide) (show (parseMethodDescriptor y_Le_requireRange.desc).map (fun d => d.parameters.length) = some 3 by decide +kernel) rfl rfl d_Le_merge_3) (gx_cw (z := 0) hts kc_Le_requireRange kN_Le rfl rfl ⟨Nat.le_of_ble_eq_true rfl, Nat.le_of_ble_eq_true rfl⟩) hb hml hz hK hY hAz hA hl.1 (lv_room (Nat.le_of_ble_eq_true rfl)) d_Le_merge_3 ⟨hC.rc (Nat.le_refl _), hC.rs (Nat.le_refl _)⟩ (fun xz9 ce H1 L9 hce Y => gA_pass hne hlocks hce hK hC Y)
  refine gy_callV (rm := { frames := 6, cells := 0, slots := 0, locals := 82 }) (ig := .invokestatic 60) (av := [Value.int a1, Value.int 0, Value.int 1]) Y (fun ws h hS hw => K_Le_requireRange l htr D tys z _ ws h hS t ht b X0 hw a1 0 1 (gR.v, X11) hF11) (gx_invS (As := [Value.int a1, Value.int 0, Value.int 1]) (rest := []) hx hb hown hts km_Le_60 kS_Le_requireRange kN_Le kc_Le_requireRange (by decide) (show (parseMethodDescriptor y_Le_requireRange.desc).map (fun d => d.parameters.length) = some 3 by decide +kernel) rfl rfl d_Le_merge_3) (gx_cw (z := 0) hts kc_Le_requireRange kN_Le rfl rfl ⟨Nat.le_of_ble_eq_true rfl, Nat.le_of_ble_eq_true rfl⟩) hb hml hz hK hY hAz hA hl.1 (lv_room (Nat.le_of_ble_eq_true rfl)) d_Le_merge_3 ⟨hC.rc0 (Nat.le_refl _), hC.rs0 (Nat.le_refl _)⟩ (fun H locs Y => ?_)
  refine lv_aload_n hx hb d_Le_merge_6 rfl (lv_at hl 0 rfl) ?_
  rcases gCvt_el hf with ⟨X12, hF12, hf⟩ | ⟨E12, X12, hF12, hf⟩
  rotate_left
  · cases hf
    refine gy_callT (rm := { frames := 6, cells := 1, slots := 6, locals := 82 }) (ig := .invokevirtual 112) (av := [Value.ref (b 0)]) Y (fun ws h hS hw => K_Le_requireWriter l htr D tys z _ ws h hS t ht b X11 hw (gR.t E12, X12) hF12) (gx_invV (As := []) (rest := []) hx hb hown hts km_Le_112 kI_Le_requireWriter kV_Le_requireWriter kc_Le_requireWriter (by decide) (show (parseMethodDescriptor y_Le_requireWriter.desc).map (fun d => d.parameters.length) = some 0 by decide +kernel) (gy_recv (ci := 0) hK Y rfl gF_0) rfl rfl d_Le_merge_7) (gx_cw (z := 0) hts kc_Le_requireWriter kN_Le rfl rfl ⟨Nat.le_of_ble_eq_true rfl, Nat.le_of_ble_eq_true rfl⟩) hb hml hz hK hY hAz hA hl.1 (lv_room (Nat.le_of_ble_eq_true rfl)) d_Le_merge_7 ⟨hC.rc (Nat.le_refl _), hC.rs (Nat.le_refl _)⟩ (fun xz9 ce H1 L9 hce Y => gA_pass hne hlocks hce hK hC Y)
  refine gy_callV (rm := { frames := 6, cells := 0, slots := 0, locals := 82 }) (ig := .invokevirtual 112) (av := [Value.ref (b 0)]) Y (fun ws h hS hw => K_Le_requireWriter l htr D tys z _ ws h hS t ht b X11 hw (gR.v, X12) hF12) (gx_invV (As := []) (rest := []) hx hb hown hts km_Le_112 kI_Le_requireWriter kV_Le_requireWriter kc_Le_requireWriter (by decide) (show (parseMethodDescriptor y_Le_requireWriter.desc).map (fun d => d.parameters.length) = some 0 by decide +kernel) (gy_recv (ci := 0) hK Y rfl gF_0) rfl rfl d_Le_merge_7) (gx_cw (z := 0) hts kc_Le_requireWriter kN_Le rfl rfl ⟨Nat.le_of_ble_eq_true rfl, Nat.le_of_ble_eq_true rfl⟩) hb hml hz hK hY hAz hA hl.1 (lv_room (Nat.le_of_ble_eq_true rfl)) d_Le_merge_7 ⟨hC.rc0 (Nat.le_refl _), hC.rs0 (Nat.le_refl _)⟩ (fun H locs Y => ?_)
  refine lv_aload_n hx hb d_Le_merge_10 rfl (lv_at hl 0 rfl) ?_
  refine gy_get (ci := 0) (v := Value.int (X12.I 0 12)) (C := "CommitLedger") (T := F_Le) (N := 18) hx hb hts i_Le hown hK Y gF_0 rfl 12 (by decide) kf_Le_142 rfl d_Le_merge_11 ?_
  refine lv_iconst (v := 4) hx hb d_Le_merge_14 (by decide) ?_
  refine lv_icmp_lt (tgt := 28) hx hb d_Le_merge_15 (by decide) (fun c15_13 => ?_) (fun c15_13 => ?_)
  · replace hf := gp_t c15_13 hf
    refine lv_iload_n hx hb d_Le_merge_28 rfl (lv_at hl 1 rfl) ?_
    refine lv_iconst (v := 1) hx hb d_Le_merge_29 (by decide) ?_
    refine lv_icmp_ne (tgt := 63) hx hb d_Le_merge_30 (by decide) (fun c30_14 => ?_) (fun c30_14 => ?_)
    · replace hf := gp_f c30_14 hf
      refine lv_aload_n hx hb d_Le_merge_63 rfl (lv_at hl 0 rfl) ?_
      obtain ⟨x15, X15, hF15, hf⟩ := gCi_el hf
      refine gy_callI (rm := { frames := 4, cells := 0, slots := 0, locals := 81 }) (ig := .invokevirtual 159) (av := [Value.ref (b 0)]) Y (fun ws h hS hw => K_Le_firstByPolicy l htr D tys z _ ws h hS t ht b X12 hw (gR.i x15, X15) hF15) (gx_invV (As := []) (rest := []) hx hb hown hts km_Le_159 kI_Le_firstByPolicy kV_Le_firstByPolicy kc_Le_firstByPolicy (by decide) (show (parseMethodDescriptor y_Le_firstByPolicy.desc).map (fun d => d.parameters.length) = some 0 by decide +kernel) (gy_recv (ci := 0) hK Y rfl gF_0) rfl rfl d_Le_merge_64) (gx_cw (z := 0) hts kc_Le_firstByPolicy kN_Le rfl rfl ⟨Nat.le_of_ble_eq_true rfl, Nat.le_of_ble_eq_true rfl⟩) hb hml hz hK hY hAz hA hl.1 (lv_room (Nat.le_of_ble_eq_true rfl)) d_Le_merge_64 ⟨hC.rc0 (Nat.le_refl _), hC.rs0 (Nat.le_refl _)⟩ (fun H locs Y => ?_)
      refine lv_istore_n (lv' := [(2, Value.int x15), (0, Value.ref (b 0)), (1, Value.int a1)]) hx hb d_Le_merge_67 rfl hl (by decide) rfl (fun ls hl => ?_)
      refine lv_iload_n hx hb d_Le_merge_68 rfl (lv_at hl 0 rfl) ?_
      refine lv_if_ge (tgt := 82) hx hb d_Le_merge_69 (by decide) (fun c69_16 => ?_) (fun c69_16 => ?_)
      · replace hf := gp_t c69_16 hf
        refine lv_aload_n hx hb d_Le_merge_82 rfl (lv_at hl 1 rfl) ?_
        refine lv_iload_n hx hb d_Le_merge_83 rfl (lv_at hl 0 rfl) ?_
        refine lv_aload_n hx hb d_Le_merge_84 rfl (lv_at hl 1 rfl) ?_
        refine gy_get (ci := 0) (v := Value.int (X15.I 0 11)) (C := "CommitLedger") (T := F_Le) (N := 18) hx hb hts i_Le hown hK Y gF_0 rfl 11 (by decide) kf_Le_54 rfl d_Le_merge_85 ?_
        have hl : lv_has ls 3 [] := lv_sub hl [] rfl
        rcases gCit_el hf with ⟨x17, X17, hF17, hf⟩ | ⟨E17, X17, hF17, hf⟩
        rotate_left
        · cases hf
          refine gA_call (fr := 11) (lo := 261) (o1 := (gR.t E17, X17)) (ig := .invokevirtual 155) (av := [Value.ref (b 0), Value.int x15, Value.int (X15.I 0 11)]) hC Y ⟨Nat.le_refl _, Nat.le_refl _⟩ (fun hc9 hs9 ws h hS hw => K_Le_beginMerge l htr D tys z _ ws h hS t ht b X15 hw x15 (X15.I 0 11) hc9 hs9 (gR.t E17, X17) hF17) (gx_invV (As := [Value.int x15, Value.int (X15.I 0 11)]) (rest := []) hx hb hown hts km_Le_155 kI_Le_beginMerge kV_Le_beginMerge kc_Le_beginMerge (by decide) (show (parseMethodDescriptor y_Le_beginMerge.desc).map (fun d => d.parameters.length) = some 2 by decide +kernel) (gy_recv (ci := 0) hK Y rfl gF_0) rfl rfl d_Le_merge_88) (gx_cwA hts kc_Le_beginMerge kN_Le ⟨Nat.le_of_ble_eq_true rfl, Nat.le_of_ble_eq_true rfl⟩) hb hml hz hK hY hAz hA hl.1 (lv_room (Nat.le_of_ble_eq_true rfl)) d_Le_merge_88 (fun vz9 b H locs cells slots e9 hb9 hC Y => ?_) (fun xz9 Ez9 ce b H locs cells slots e9 hce hC Y => ?_)
          · have e9 : (Sum.inl vz9 : Option Value ⊕ String) = Sum.inr E17 := e9
            cases e9
          · have e9 : (Sum.inr Ez9 : Option Value ⊕ String) = Sum.inr E17 := e9
            cases e9
            exact gA_pass hne hlocks hce hK hC Y
        refine gA_call (fr := 11) (lo := 261) (o1 := (gR.i x17, X17)) (ig := .invokevirtual 155) (av := [Value.ref (b 0), Value.int x15, Value.int (X15.I 0 11)]) hC Y ⟨Nat.le_refl _, Nat.le_refl _⟩ (fun hc9 hs9 ws h hS hw => K_Le_beginMerge l htr D tys z _ ws h hS t ht b X15 hw x15 (X15.I 0 11) hc9 hs9 (gR.i x17, X17) hF17) (gx_invV (As := [Value.int x15, Value.int (X15.I 0 11)]) (rest := []) hx hb hown hts km_Le_155 kI_Le_beginMerge kV_Le_beginMerge kc_Le_beginMerge (by decide) (show (parseMethodDescriptor y_Le_beginMerge.desc).map (fun d => d.parameters.length) = some 2 by decide +kernel) (gy_recv (ci := 0) hK Y rfl gF_0) rfl rfl d_Le_merge_88) (gx_cwA hts kc_Le_beginMerge kN_Le ⟨Nat.le_of_ble_eq_true rfl, Nat.le_of_ble_eq_true rfl⟩) hb hml hz hK hY hAz hA hl.1 (lv_room (Nat.le_of_ble_eq_true rfl)) d_Le_merge_88 (fun vz9 b H locs cells slots e9 hb9 hC Y => ?_) (fun xz9 Ez9 ce b H locs cells slots e9 hce hC Y => ?_)
        rotate_left
        · have e9 : (Sum.inr Ez9 : Option Value ⊕ String) = Sum.inl (some (Value.int x17)) := e9
          cases e9
        have e9 : (Sum.inl vz9 : Option Value ⊕ String) = Sum.inl (some (Value.int x17)) := e9
        cases e9
        replace hl : lv_has ls 3 [] := by exact hl
        refine W.eq (g2 := F0 m 91 ls [Value.int x17]) (by rfl) ?_
        exact gA_iret hf hx hb hr hlocks hK hC Y d_Le_merge_91
      · replace hf := gp_f c69_16 hf
        cases hf
        exact gA_thr (i1 := 13) (b1 := prog_31_method_4_code) hx hb htr (hml.trans hl.1.symm) hown hts hne hlocks hK hC Y ⟨Nat.le_refl _, Nat.le_refl _⟩ hA hN kk_Le_150 kX_NoSuchElementException kN_NoSuchElementException ks_Le_152 kT_Le_154 (by decide) (by decide +kernel) (by decide +kernel) (by decide +kernel) (by decide +kernel) d_Le_merge_72 d_Le_merge_75 d_Le_merge_76 d_Le_merge_78 d_Le_merge_81 (Nat.le_of_ble_eq_true rfl) (Nat.le_of_ble_eq_true rfl)
    · replace hf := gp_t c30_14 hf
      refine lv_aload_n hx hb d_Le_merge_33 rfl (lv_at hl 0 rfl) ?_
      obtain ⟨x18, X18, hF18, hf⟩ := gCi_el hf
      refine gy_callI (rm := { frames := 3, cells := 0, slots := 0, locals := 57 }) (ig := .invokevirtual 147) (av := [Value.ref (b 0)]) Y (fun ws h hS hw => K_Le_allCanBeMerged l htr D tys z _ ws h hS t ht b X12 hw (gR.i x18, X18) hF18) (gx_invV (As := []) (rest := []) hx hb hown hts km_Le_147 kI_Le_allCanBeMerged kV_Le_allCanBeMerged kc_Le_allCanBeMerged (by decide) (show (parseMethodDescriptor y_Le_allCanBeMerged.desc).map (fun d => d.parameters.length) = some 0 by decide +kernel) (gy_recv (ci := 0) hK Y rfl gF_0) rfl rfl d_Le_merge_34) (gx_cw (z := 0) hts kc_Le_allCanBeMerged kN_Le rfl rfl ⟨Nat.le_of_ble_eq_true rfl, Nat.le_of_ble_eq_true rfl⟩) hb hml hz hK hY hAz hA hl.1 (lv_room (Nat.le_of_ble_eq_true rfl)) d_Le_merge_34 ⟨hC.rc0 (Nat.le_refl _), hC.rs0 (Nat.le_refl _)⟩ (fun H locs Y => ?_)
      refine lv_if_ne (tgt := 50) hx hb d_Le_merge_37 (by decide) (fun c37_19 => ?_) (fun c37_19 => ?_)
      · replace hf := gp_f c37_19 hf
        refine lv_aload_n hx hb d_Le_merge_50 rfl (lv_at hl 0 rfl) ?_
        refine lv_iconst (v := 0) hx hb d_Le_merge_51 (by decide) ?_
        refine lv_aload_n hx hb d_Le_merge_52 rfl (lv_at hl 0 rfl) ?_
        refine gy_get (ci := 0) (v := Value.ref (b 8)) (C := "CommitLedger") (T := F_Le) (N := 18) hx hb hts i_Le hown hK Y gF_0 rfl 2 (by decide) kf_Le_26 rfl d_Le_merge_53 ?_
        refine gy_get (ci := 4) (v := Value.int (X18.I 8 4)) (C := "CommitLedger$View") (T := F_Vi) (N := 6) hx hb hts i_Vi hown hK Y gF_8 rfl 4 (by decide) kf_Le_109 rfl d_Le_merge_56 ?_
        have hl : lv_has ls 3 [] := lv_sub hl [] rfl
        rcases gCit_el hf with ⟨x20, X20, hF20, hf⟩ | ⟨E20, X20, hF20, hf⟩
        rotate_left
        · cases hf
          refine gA_call (fr := 11) (lo := 261) (o1 := (gR.t E20, X20)) (ig := .invokevirtual 155) (av := [Value.ref (b 0), Value.int 0, Value.int (X18.I 8 4)]) hC Y ⟨Nat.le_refl _, Nat.le_refl _⟩ (fun hc9 hs9 ws h hS hw => K_Le_beginMerge l htr D tys z _ ws h hS t ht b X18 hw 0 (X18.I 8 4) hc9 hs9 (gR.t E20, X20) hF20) (gx_invV (As := [Value.int 0, Value.int (X18.I 8 4)]) (rest := []) hx hb hown hts km_Le_155 kI_Le_beginMerge kV_Le_beginMerge kc_Le_beginMerge (by decide) (show (parseMethodDescriptor y_Le_beginMerge.desc).map (fun d => d.parameters.length) = some 2 by decide +kernel) (gy_recv (ci := 0) hK Y rfl gF_0) rfl rfl d_Le_merge_59) (gx_cwA hts kc_Le_beginMerge kN_Le ⟨Nat.le_of_ble_eq_true rfl, Nat.le_of_ble_eq_true rfl⟩) hb hml hz hK hY hAz hA hl.1 (lv_room (Nat.le_of_ble_eq_true rfl)) d_Le_merge_59 (fun vz9 b H locs cells slots e9 hb9 hC Y => ?_) (fun xz9 Ez9 ce b H locs cells slots e9 hce hC Y => ?_)
          · have e9 : (Sum.inl vz9 : Option Value ⊕ String) = Sum.inr E20 := e9
            cases e9
          · have e9 : (Sum.inr Ez9 : Option Value ⊕ String) = Sum.inr E20 := e9
            cases e9
            exact gA_pass hne hlocks hce hK hC Y
        refine gA_call (fr := 11) (lo := 261) (o1 := (gR.i x20, X20)) (ig := .invokevirtual 155) (av := [Value.ref (b 0), Value.int 0, Value.int (X18.I 8 4)]) hC Y ⟨Nat.le_refl _, Nat.le_refl _⟩ (fun hc9 hs9 ws h hS hw => K_Le_beginMerge l htr D tys z _ ws h hS t ht b X18 hw 0 (X18.I 8 4) hc9 hs9 (gR.i x20, X20) hF20) (gx_invV (As := [Value.int 0, Value.int (X18.I 8 4)]) (rest := []) hx hb hown hts km_Le_155 kI_Le_beginMerge kV_Le_beginMerge kc_Le_beginMerge (by decide) (show (parseMethodDescriptor y_Le_beginMerge.desc).map (fun d => d.parameters.length) = some 2 by decide +kernel) (gy_recv (ci := 0) hK Y rfl gF_0) rfl rfl d_Le_merge_59) (gx_cwA hts kc_Le_beginMerge kN_Le ⟨Nat.le_of_ble_eq_true rfl, Nat.le_of_ble_eq_true rfl⟩) hb hml hz hK hY hAz hA hl.1 (lv_room (Nat.le_of_ble_eq_true rfl)) d_Le_merge_59 (fun vz9 b H locs cells slots e9 hb9 hC Y => ?_) (fun xz9 Ez9 ce b H locs cells slots e9 hce hC Y => ?_)
        rotate_left
        · have e9 : (Sum.inr Ez9 : Option Value ⊕ String) = Sum.inl (some (Value.int x20)) := e9
          cases e9
        have e9 : (Sum.inl vz9 : Option Value ⊕ String) = Sum.inl (some (Value.int x20)) := e9
        cases e9
        replace hl : lv_has ls 3 [] := by exact hl
        refine W.eq (g2 := F0 m 62 ls [Value.int x20]) (by rfl) ?_
        exact gA_iret hf hx hb hr hlocks hK hC Y d_Le_merge_62
      · replace hf := gp_t c37_19 hf
        cases hf
        exact gA_thr (i1 := 13) (b1 := prog_31_method_4_code) hx hb htr (hml.trans hl.1.symm) hown hts hne hlocks hK hC Y ⟨Nat.le_refl _, Nat.le_refl _⟩ hA hN kk_Le_150 kX_NoSuchElementException kN_NoSuchElementException ks_Le_152 kT_Le_154 (by decide) (by decide +kernel) (by decide +kernel) (by decide +kernel) (by decide +kernel) d_Le_merge_40 d_Le_merge_43 d_Le_merge_44 d_Le_merge_46 d_Le_merge_49 (Nat.le_of_ble_eq_true rfl) (Nat.le_of_ble_eq_true rfl)
  · replace hf := gp_f c15_13 hf
    cases hf
    exact gA_thr (i1 := 7) (b1 := prog_17_method_2_code) hx hb htr (hml.trans hl.1.symm) hown hts hne hlocks hK hC Y ⟨Nat.le_refl _, Nat.le_refl _⟩ hA hN kk_Le_115 kX_IndexOutOfBoundsException kN_IndexOutOfBoundsException ks_Le_145 kT_Le_119 (by decide) (by decide +kernel) (by decide +kernel) (by decide +kernel) (by decide +kernel) d_Le_merge_18 d_Le_merge_21 d_Le_merge_22 d_Le_merge_24 d_Le_merge_27 (Nat.le_of_ble_eq_true rfl) (Nat.le_of_ble_eq_true rfl)

def f_Le_finish (X0 : gX) (a1 : Int32) (a2 : Int32) : Option (gR × gX) := gCvt (f_Le_requireWriter X0) (fun E X => some (gR.t E, X)) (fun X1 => gCi (f_Le_placeOfMerge X1 a1) (fun x2 X2 => (if (0 : Int32) ≤ x2 then gCv (f_Le_endMerge X2 x2 a2) (fun X4 => some (gR.i (X4.I 8 4), X4)) else some (gR.t "java/util/NoSuchElementException", X2))))
set_option maxHeartbeats 4000000 in
set_option maxRecDepth 100000 in
theorem K_Le_finish (l : Launch) (htr : l.stackTraces = false) (D : va_G) (tys : List (ClassId × FieldType)) (z sz : Nat) (ws : va_W) (h : gm_M) (hM : gm_S h ws) (t : Nat → ClassId) (ht : gTy t tys) (b : Nat → Nat) (X0 : gX) (hw : gw D t b X0 h) (a1 : Int32) (a2 : Int32) (hc0 : X0.cc ≤ gCL) (hs0 : X0.ss ≤ gSL) (o : gR × gX) (hf : f_Le_finish X0 a1 a2 = some o) : gx_Met l y_Le_finish [Cond.code y_Le_finish b_Le_finish 4 (some .int)] { frames := 11, cells := gCL + 1 - X0.cc, slots := gSL + 6 - X0.ss, locals := 265 } (gx_P z sz D classes tys ws [Value.ref (b 0), Value.int a1, Value.int a2]) (gx_Q D classes tys (va_A ws sz) (gPoA D t b X0 o)) (o.2.cc + gT o.1 - X0.cc) (o.2.ss + 6 * gT o.1 - X0.ss) (va_A ws sz) := by
  refine gx_ofW (cc := b_Le_finish) (maxL := 4) (ret := (some .int)) (by decide) rfl ?_
  intro p e s m args below meth c s₁ B hml hv
  obtain ⟨rfl, hsz, hz, hP, hK, hD0, hY⟩ := hv
  have hx := B.exec
  have hb := B.bytes
  have hr := B.returns
  have hts := hY.hts (#[Value.ref (b 0), Value.int a1, Value.int a2] : Array Value)
  have hown : s.vm.findClass "CommitLedger" = some m.cls := findClass_of_methodNamed B.named
  have hlocks := B.notSynchronized
  have hne : c.exceptionTable.isEmpty = true := B.noHandlers (atoms_spec (ws := [Cond.code y_Le_finish b_Le_finish 4 (some .int)]) B.pre _ List.mem_cons_self)
  have hN := gx_ns hP
  subst hsz
  have hAz := gx_az hD0 hz
  have hD := hD0.self (sz := s.heap.size)
  have hA : ∀ q : Nat, s.heap.size ≤ q → va_A ws s.heap.size q := fun q h => Or.inr h
  generalize va_A ws s.heap.size = A at hD hA hAz hN ⊢
  have Y : gy D t b A s.heap X0 X0 s.heap [] := ⟨h, ⟨ws, hM, hP, hD, va_S.rf⟩, hw, gEq.rf⟩
  clear hP hD hM hD0 hw
  have hC : gC X0 b X0 b 0 0 := gC.rf hc0 hs0
  obtain ⟨ht0, ht1, ht2, ht3, ht4, ht5, ht6, ht7, ht8⟩ := id ht
  have hl := lv_entry ([Value.ref (b 0), Value.int a1, Value.int a2]) (n := 4) (Nat.le_of_ble_eq_true rfl)
  rw [lg_entry_eq]
  generalize (lg_sl ([Value.ref (b 0), Value.int a1, Value.int a2]) ++ List.replicate (4 - (lg_sl ([Value.ref (b 0), Value.int a1, Value.int a2])).length) Slot.unset).toArray = ls at hl ⊢
  have hl : lv_has ls 4 [(0, Value.ref (b 0)), (1, Value.int a1), (2, Value.int a2)] := hl
  unfold f_Le_finish at hf
  refine lv_aload_n hx hb d_Le_finish_0 rfl (lv_at hl 0 rfl) ?_
  rcases gCvt_el hf with ⟨X5, hF5, hf⟩ | ⟨E5, X5, hF5, hf⟩
  rotate_left
  · cases hf
    refine gy_callT (rm := { frames := 6, cells := 1, slots := 6, locals := 82 }) (ig := .invokevirtual 112) (av := [Value.ref (b 0)]) Y (fun ws h hS hw => K_Le_requireWriter l htr D tys z _ ws h hS t ht b X0 hw (gR.t E5, X5) hF5) (gx_invV (As := []) (rest := []) hx hb hown hts km_Le_112 kI_Le_requireWriter kV_Le_requireWriter kc_Le_requireWriter (by decide) (show (parseMethodDescriptor y_Le_requireWriter.desc).map (fun d => d.parameters.length) = some 0 by decide +kernel) (gy_recv (ci := 0) hK Y rfl gF_0) rfl rfl d_Le_finish_1) (gx_cw (z := 0) hts kc_Le_requireWriter kN_Le rfl rfl ⟨Nat.le_of_ble_eq_true rfl, Nat.le_of_ble_eq_true rfl⟩) hb hml hz hK hY hAz hA hl.1 (lv_room (Nat.le_of_ble_eq_true rfl)) d_Le_finish_1 ⟨hC.rc (Nat.le_refl _), hC.rs (Nat.le_refl _)⟩ (fun xz9 ce H1 L9 hce Y => gA_pass hne hlocks hce hK hC Y)
  refine gy_callV (rm := { frames := 6, cells := 0, slots := 0, locals := 82 }) (ig := .invokevirtual 112) (av := [Value.ref (b 0)]) Y (fun ws h hS hw => K_Le_requireWriter l htr D tys z _ ws h hS t ht b X0 hw (gR.v, X5) hF5) (gx_invV (As := []) (rest := []) hx hb hown hts km_Le_112 kI_Le_requireWriter kV_Le_requireWriter kc_Le_requireWriter (by decide) (show (parseMethodDescriptor y_Le_requireWriter.desc).map (fun d => d.parameters.length) = some 0 by decide +kernel) (gy_recv (ci := 0) hK Y rfl gF_0) rfl rfl d_Le_finish_1) (gx_cw (z := 0) hts kc_Le_requireWriter kN_Le rfl rfl ⟨Nat.le_of_ble_eq_true rfl, Nat.le_of_ble_eq_true rfl⟩) hb hml hz hK hY hAz hA hl.1 (lv_room (Nat.le_of_ble_eq_true rfl)) d_Le_finish_1 ⟨hC.rc0 (Nat.le_refl _), hC.rs0 (Nat.le_refl _)⟩ (fun H locs Y => ?_)
  refine lv_aload_n hx hb d_Le_finish_4 rfl (lv_at hl 0 rfl) ?_
  refine lv_iload_n hx hb d_Le_finish_5 rfl (lv_at hl 1 rfl) ?_
  obtain ⟨x6, X6, hF6, hf⟩ := gCi_el hf
  refine gy_callI (rm := { frames := 1, cells := 0, slots := 0, locals := 12 }) (ig := .invokevirtual 162) (av := [Value.ref (b 0), Value.int a1]) Y (fun ws h hS hw => K_Le_placeOfMerge l htr D tys z _ ws h hS t ht b X5 hw a1 (gR.i x6, X6) hF6) (gx_invV (As := [Value.int a1]) (rest := []) hx hb hown hts km_Le_162 kI_Le_placeOfMerge kV_Le_placeOfMerge kc_Le_placeOfMerge (by decide) (show (parseMethodDescriptor y_Le_placeOfMerge.desc).map (fun d => d.parameters.length) = some 1 by decide +kernel) (gy_recv (ci := 0) hK Y rfl gF_0) rfl rfl d_Le_finish_6) (gx_cw (z := 0) hts kc_Le_placeOfMerge kN_Le rfl rfl ⟨Nat.le_of_ble_eq_true rfl, Nat.le_of_ble_eq_true rfl⟩) hb hml hz hK hY hAz hA hl.1 (lv_room (Nat.le_of_ble_eq_true rfl)) d_Le_finish_6 ⟨hC.rc0 (Nat.le_refl _), hC.rs0 (Nat.le_refl _)⟩ (fun H locs Y => ?_)
  refine lv_istore_n (lv' := [(3, Value.int x6), (0, Value.ref (b 0)), (1, Value.int a1), (2, Value.int a2)]) hx hb d_Le_finish_9 rfl hl (by decide) rfl (fun ls hl => ?_)
  refine lv_iload_n hx hb d_Le_finish_10 rfl (lv_at hl 0 rfl) ?_
  refine lv_if_ge (tgt := 24) hx hb d_Le_finish_11 (by decide) (fun c11_7 => ?_) (fun c11_7 => ?_)
  · replace hf := gp_t c11_7 hf
    refine lv_aload_n hx hb d_Le_finish_24 rfl (lv_at hl 1 rfl) ?_
    refine lv_iload_n hx hb d_Le_finish_25 rfl (lv_at hl 0 rfl) ?_
    refine lv_iload_n hx hb d_Le_finish_26 rfl (lv_at hl 3 rfl) ?_
    have hl : lv_has ls 4 [(0, Value.ref (b 0))] := lv_sub hl [1] rfl
    obtain ⟨X8, hF8, hf⟩ := gCv_el hf
    refine gA_call (fr := 10) (lo := 241) (o1 := (gR.v, X8)) (ig := .invokevirtual 168) (av := [Value.ref (b 0), Value.int x6, Value.int a2]) hC Y ⟨Nat.le_refl _, Nat.le_refl _⟩ (fun hc9 hs9 ws h hS hw => K_Le_endMerge l htr D tys z _ ws h hS t ht b X6 hw x6 a2 hc9 hs9 (gR.v, X8) hF8) (gx_invV (As := [Value.int x6, Value.int a2]) (rest := []) hx hb hown hts km_Le_168 kI_Le_endMerge kV_Le_endMerge kc_Le_endMerge (by decide) (show (parseMethodDescriptor y_Le_endMerge.desc).map (fun d => d.parameters.length) = some 2 by decide +kernel) (gy_recv (ci := 0) hK Y rfl gF_0) rfl rfl d_Le_finish_27) (gx_cwA hts kc_Le_endMerge kN_Le ⟨Nat.le_of_ble_eq_true rfl, Nat.le_of_ble_eq_true rfl⟩) hb hml hz hK hY hAz hA hl.1 (lv_room (Nat.le_of_ble_eq_true rfl)) d_Le_finish_27 (fun vz9 b H locs cells slots e9 hb9 hC Y => ?_) (fun xz9 Ez9 ce b H locs cells slots e9 hce hC Y => ?_)
    rotate_left
    · have e9 : (Sum.inr Ez9 : Option Value ⊕ String) = Sum.inl none := e9
      cases e9
    have e9 : (Sum.inl vz9 : Option Value ⊕ String) = Sum.inl none := e9
    cases e9
    replace hl : lv_has ls 4 [(0, Value.ref (b 0))] := by rw [hb9 0 (gNm_s (by decide))]; exact hl
    refine W.eq (g2 := F0 m 30 ls []) (by rfl) ?_
    refine lv_aload_n hx hb d_Le_finish_30 rfl (lv_at hl 0 rfl) ?_
    refine gy_get (ci := 0) (v := Value.ref (b 8)) (C := "CommitLedger") (T := F_Le) (N := 18) hx hb hts i_Le hown hK Y gF_0 rfl 2 (by decide) kf_Le_26 rfl d_Le_finish_31 ?_
    refine gy_get (ci := 4) (v := Value.int (X8.I 8 4)) (C := "CommitLedger$View") (T := F_Vi) (N := 6) hx hb hts i_Vi hown hK Y gF_8 rfl 4 (by decide) kf_Le_109 rfl d_Le_finish_34 ?_
    exact gA_iret hf hx hb hr hlocks hK hC Y d_Le_finish_37
  · replace hf := gp_f c11_7 hf
    cases hf
    exact gA_thr (i1 := 13) (b1 := prog_31_method_4_code) hx hb htr (hml.trans hl.1.symm) hown hts hne hlocks hK hC Y ⟨Nat.le_refl _, Nat.le_refl _⟩ hA hN kk_Le_150 kX_NoSuchElementException kN_NoSuchElementException ks_Le_166 kT_Le_154 (by decide) (by decide +kernel) (by decide +kernel) (by decide +kernel) (by decide +kernel) d_Le_finish_14 d_Le_finish_17 d_Le_finish_18 d_Le_finish_20 d_Le_finish_23 (Nat.le_of_ble_eq_true rfl) (Nat.le_of_ble_eq_true rfl)

def f_Le_prepare (X0 : gX) : Option (gR × gX) := gCvt (f_Le_requireWriter X0) (fun E X => some (gR.t E, X)) (fun X1 => gCvt (f_Le_requireNothingPrepared X1) (fun E X => some (gR.t E, X)) (fun X2 => gCit (f_Le_prepareAll X2) (fun E X => some (gR.t E, X)) (fun x3 X3 => (if x3 = (0 : Int32) then some (gR.i 0, X3) else some (gR.i ((X3.I 0 15) + 1), X3)))))
set_option maxHeartbeats 4000000 in
set_option maxRecDepth 100000 in
theorem K_Le_prepare (l : Launch) (htr : l.stackTraces = false) (D : va_G) (tys : List (ClassId × FieldType)) (z sz : Nat) (ws : va_W) (h : gm_M) (hM : gm_S h ws) (t : Nat → ClassId) (ht : gTy t tys) (b : Nat → Nat) (X0 : gX) (hw : gw D t b X0 h) (hc0 : X0.cc ≤ gCL) (hs0 : X0.ss ≤ gSL) (o : gR × gX) (hf : f_Le_prepare X0 = some o) : gx_Met l y_Le_prepare [Cond.code y_Le_prepare b_Le_prepare 1 (some .int)] { frames := 14, cells := gCL + 1 - X0.cc, slots := gSL + 6 - X0.ss, locals := 324 } (gx_P z sz D classes tys ws [Value.ref (b 0)]) (gx_Q D classes tys (va_A ws sz) (gPoA D t b X0 o)) (o.2.cc + gT o.1 - X0.cc) (o.2.ss + 6 * gT o.1 - X0.ss) (va_A ws sz) := by
  refine gx_ofW (cc := b_Le_prepare) (maxL := 1) (ret := (some .int)) (by decide) rfl ?_
  intro p e s m args below meth c s₁ B hml hv
  obtain ⟨rfl, hsz, hz, hP, hK, hD0, hY⟩ := hv
  have hx := B.exec
  have hb := B.bytes
  have hr := B.returns
  have hts := hY.hts (#[Value.ref (b 0)] : Array Value)
  have hown : s.vm.findClass "CommitLedger" = some m.cls := findClass_of_methodNamed B.named
  have hlocks := B.notSynchronized
  have hne : c.exceptionTable.isEmpty = true := B.noHandlers (atoms_spec (ws := [Cond.code y_Le_prepare b_Le_prepare 1 (some .int)]) B.pre _ List.mem_cons_self)
  have hN := gx_ns hP
  subst hsz
  have hAz := gx_az hD0 hz
  have hD := hD0.self (sz := s.heap.size)
  have hA : ∀ q : Nat, s.heap.size ≤ q → va_A ws s.heap.size q := fun q h => Or.inr h
  generalize va_A ws s.heap.size = A at hD hA hAz hN ⊢
  have Y : gy D t b A s.heap X0 X0 s.heap [] := ⟨h, ⟨ws, hM, hP, hD, va_S.rf⟩, hw, gEq.rf⟩
  clear hP hD hM hD0 hw
  have hC : gC X0 b X0 b 0 0 := gC.rf hc0 hs0
  obtain ⟨ht0, ht1, ht2, ht3, ht4, ht5, ht6, ht7, ht8⟩ := id ht
  have hl := lv_entry ([Value.ref (b 0)]) (n := 1) (Nat.le_of_ble_eq_true rfl)
  rw [lg_entry_eq]
  generalize (lg_sl ([Value.ref (b 0)]) ++ List.replicate (1 - (lg_sl ([Value.ref (b 0)])).length) Slot.unset).toArray = ls at hl ⊢
  have hl : lv_has ls 1 [(0, Value.ref (b 0))] := hl
  unfold f_Le_prepare at hf
  refine lv_aload_n hx hb d_Le_prepare_0 rfl (lv_at hl 0 rfl) ?_
  rcases gCvt_el hf with ⟨X5, hF5, hf⟩ | ⟨E5, X5, hF5, hf⟩
  rotate_left
  · cases hf
    refine gy_callT (rm := { frames := 6, cells := 1, slots := 6, locals := 82 }) (ig := .invokevirtual 112) (av := [Value.ref (b 0)]) Y (fun ws h hS hw => K_Le_requireWriter l htr D tys z _ ws h hS t ht b X0 hw (gR.t E5, X5) hF5) (gx_invV (As := []) (rest := []) hx hb hown hts km_Le_112 kI_Le_requireWriter kV_Le_requireWriter kc_Le_requireWriter (by decide) (show (parseMethodDescriptor y_Le_requireWriter.desc).map (fun d => d.parameters.length) = some 0 by decide +kernel) (gy_recv (ci := 0) hK Y rfl gF_0) rfl rfl d_Le_prepare_1) (gx_cw (z := 0) hts kc_Le_requireWriter kN_Le rfl rfl ⟨Nat.le_of_ble_eq_true rfl, Nat.le_of_ble_eq_true rfl⟩) hb hml hz hK hY hAz hA hl.1 (lv_room (Nat.le_of_ble_eq_true rfl)) d_Le_prepare_1 ⟨hC.rc (Nat.le_refl _), hC.rs (Nat.le_refl _)⟩ (fun xz9 ce H1 L9 hce Y => gA_pass hne hlocks hce hK hC Y)
  refine gy_callV (rm := { frames := 6, cells := 0, slots := 0, locals := 82 }) (ig := .invokevirtual 112) (av := [Value.ref (b 0)]) Y (fun ws h hS hw => K_Le_requireWriter l htr D tys z _ ws h hS t ht b X0 hw (gR.v, X5) hF5) (gx_invV (As := []) (rest := []) hx hb hown hts km_Le_112 kI_Le_requireWriter kV_Le_requireWriter kc_Le_requireWriter (by decide) (show (parseMethodDescriptor y_Le_requireWriter.desc).map (fun d => d.parameters.length) = some 0 by decide +kernel) (gy_recv (ci := 0) hK Y rfl gF_0) rfl rfl d_Le_prepare_1) (gx_cw (z := 0) hts kc_Le_requireWriter kN_Le rfl rfl ⟨Nat.le_of_ble_eq_true rfl, Nat.le_of_ble_eq_true rfl⟩) hb hml hz hK hY hAz hA hl.1 (lv_room (Nat.le_of_ble_eq_true rfl)) d_Le_prepare_1 ⟨hC.rc0 (Nat.le_refl _), hC.rs0 (Nat.le_refl _)⟩ (fun H locs Y => ?_)
  refine lv_aload_n hx hb d_Le_prepare_4 rfl (lv_at hl 0 rfl) ?_
  rcases gCvt_el hf with ⟨X6, hF6, hf⟩ | ⟨E6, X6, hF6, hf⟩
  rotate_left
  · cases hf
    refine gy_callT (rm := { frames := 6, cells := 1, slots := 6, locals := 82 }) (ig := .invokevirtual 172) (av := [Value.ref (b 0)]) Y (fun ws h hS hw => K_Le_requireNothingPrepared l htr D tys z _ ws h hS t ht b X5 hw (gR.t E6, X6) hF6) (gx_invV (As := []) (rest := []) hx hb hown hts km_Le_172 kI_Le_requireNothingPrepared kV_Le_requireNothingPrepared kc_Le_requireNothingPrepared (by decide) (show (parseMethodDescriptor y_Le_requireNothingPrepared.desc).map (fun d => d.parameters.length) = some 0 by decide +kernel) (gy_recv (ci := 0) hK Y rfl gF_0) rfl rfl d_Le_prepare_5) (gx_cw (z := 0) hts kc_Le_requireNothingPrepared kN_Le rfl rfl ⟨Nat.le_of_ble_eq_true rfl, Nat.le_of_ble_eq_true rfl⟩) hb hml hz hK hY hAz hA hl.1 (lv_room (Nat.le_of_ble_eq_true rfl)) d_Le_prepare_5 ⟨hC.rc (Nat.le_refl _), hC.rs (Nat.le_refl _)⟩ (fun xz9 ce H1 L9 hce Y => gA_pass hne hlocks hce hK hC Y)
  refine gy_callV (rm := { frames := 6, cells := 0, slots := 0, locals := 82 }) (ig := .invokevirtual 172) (av := [Value.ref (b 0)]) Y (fun ws h hS hw => K_Le_requireNothingPrepared l htr D tys z _ ws h hS t ht b X5 hw (gR.v, X6) hF6) (gx_invV (As := []) (rest := []) hx hb hown hts km_Le_172 kI_Le_requireNothingPrepared kV_Le_requireNothingPrepared kc_Le_requireNothingPrepared (by decide) (show (parseMethodDescriptor y_Le_requireNothingPrepared.desc).map (fun d => d.parameters.length) = some 0 by decide +kernel) (gy_recv (ci := 0) hK Y rfl gF_0) rfl rfl d_Le_prepare_5) (gx_cw (z := 0) hts kc_Le_requireNothingPrepared kN_Le rfl rfl ⟨Nat.le_of_ble_eq_true rfl, Nat.le_of_ble_eq_true rfl⟩) hb hml hz hK hY hAz hA hl.1 (lv_room (Nat.le_of_ble_eq_true rfl)) d_Le_prepare_5 ⟨hC.rc0 (Nat.le_refl _), hC.rs0 (Nat.le_refl _)⟩ (fun H locs Y => ?_)
  refine lv_aload_n hx hb d_Le_prepare_8 rfl (lv_at hl 0 rfl) ?_
  have hl : lv_has ls 1 [(0, Value.ref (b 0))] := lv_sub hl [0] rfl
  rcases gCit_el hf with ⟨x7, X7, hF7, hf⟩ | ⟨E7, X7, hF7, hf⟩
  rotate_left
  · cases hf
    refine gA_call (fr := 13) (lo := 303) (o1 := (gR.t E7, X7)) (ig := .invokevirtual 175) (av := [Value.ref (b 0)]) hC Y ⟨Nat.le_refl _, Nat.le_refl _⟩ (fun hc9 hs9 ws h hS hw => K_Le_prepareAll l htr D tys z _ ws h hS t ht b X6 hw hc9 hs9 (gR.t E7, X7) hF7) (gx_invV (As := []) (rest := []) hx hb hown hts km_Le_175 kI_Le_prepareAll kV_Le_prepareAll kc_Le_prepareAll (by decide) (show (parseMethodDescriptor y_Le_prepareAll.desc).map (fun d => d.parameters.length) = some 0 by decide +kernel) (gy_recv (ci := 0) hK Y rfl gF_0) rfl rfl d_Le_prepare_9) (gx_cwA hts kc_Le_prepareAll kN_Le ⟨Nat.le_of_ble_eq_true rfl, Nat.le_of_ble_eq_true rfl⟩) hb hml hz hK hY hAz hA hl.1 (lv_room (Nat.le_of_ble_eq_true rfl)) d_Le_prepare_9 (fun vz9 b H locs cells slots e9 hb9 hC Y => ?_) (fun xz9 Ez9 ce b H locs cells slots e9 hce hC Y => ?_)
    · have e9 : (Sum.inl vz9 : Option Value ⊕ String) = Sum.inr E7 := e9
      cases e9
    · have e9 : (Sum.inr Ez9 : Option Value ⊕ String) = Sum.inr E7 := e9
      cases e9
      exact gA_pass hne hlocks hce hK hC Y
  refine gA_call (fr := 13) (lo := 303) (o1 := (gR.i x7, X7)) (ig := .invokevirtual 175) (av := [Value.ref (b 0)]) hC Y ⟨Nat.le_refl _, Nat.le_refl _⟩ (fun hc9 hs9 ws h hS hw => K_Le_prepareAll l htr D tys z _ ws h hS t ht b X6 hw hc9 hs9 (gR.i x7, X7) hF7) (gx_invV (As := []) (rest := []) hx hb hown hts km_Le_175 kI_Le_prepareAll kV_Le_prepareAll kc_Le_prepareAll (by decide) (show (parseMethodDescriptor y_Le_prepareAll.desc).map (fun d => d.parameters.length) = some 0 by decide +kernel) (gy_recv (ci := 0) hK Y rfl gF_0) rfl rfl d_Le_prepare_9) (gx_cwA hts kc_Le_prepareAll kN_Le ⟨Nat.le_of_ble_eq_true rfl, Nat.le_of_ble_eq_true rfl⟩) hb hml hz hK hY hAz hA hl.1 (lv_room (Nat.le_of_ble_eq_true rfl)) d_Le_prepare_9 (fun vz9 b H locs cells slots e9 hb9 hC Y => ?_) (fun xz9 Ez9 ce b H locs cells slots e9 hce hC Y => ?_)
  rotate_left
  · have e9 : (Sum.inr Ez9 : Option Value ⊕ String) = Sum.inl (some (Value.int x7)) := e9
    cases e9
  have e9 : (Sum.inl vz9 : Option Value ⊕ String) = Sum.inl (some (Value.int x7)) := e9
  cases e9
  replace hl : lv_has ls 1 [(0, Value.ref (b 0))] := by rw [hb9 0 (gNm_s (by decide))]; exact hl
  refine W.eq (g2 := F0 m 12 ls [Value.int x7]) (by rfl) ?_
  refine lv_if_eq (tgt := 24) hx hb d_Le_prepare_12 (by decide) (fun c12_8 => ?_) (fun c12_8 => ?_)
  · replace hf := gp_t c12_8 hf
    refine lv_iconst (v := 0) hx hb d_Le_prepare_24 (by decide) ?_
    exact gA_iret hf hx hb hr hlocks hK hC Y d_Le_prepare_25
  · replace hf := gp_f c12_8 hf
    refine lv_aload_n hx hb d_Le_prepare_15 rfl (lv_at hl 0 rfl) ?_
    refine gy_get (ci := 0) (v := Value.int (X7.I 0 15)) (C := "CommitLedger") (T := F_Le) (N := 18) hx hb hts i_Le hown hK Y gF_0 rfl 15 (by decide) kf_Le_84 rfl d_Le_prepare_16 ?_
    refine lv_iconst (v := 1) hx hb d_Le_prepare_19 (by decide) ?_
    refine lv_iadd hx hb d_Le_prepare_20 ?_
    refine lv_goto (tgt := 25) hx hb d_Le_prepare_21 (by decide) ?_
    exact gA_iret hf hx hb hr hlocks hK hC Y d_Le_prepare_25

def f_Le_commit_22 (X : gX) : Option (gR × gX) := some (gR.i (X.I 0 15), X)
def f_Le_commit_18 (X : gX) : Option (gR × gX) := gCvt (f_Le_renamePrepared X) (fun E X => some (gR.t E, X)) (fun X3 => f_Le_commit_22 X3)
def f_Le_commit (X0 : gX) : Option (gR × gX) := gCvt (f_Le_requireWriter X0) (fun E X => some (gR.t E, X)) (fun X1 => (if (X1.I 0 8) = (0 : Int32) then gCit (f_Le_prepareAll X1) (fun E X => some (gR.t E, X)) (fun x4 X4 => (if x4 = (0 : Int32) then f_Le_commit_22 X4 else f_Le_commit_18 X4)) else f_Le_commit_18 X1))
set_option maxHeartbeats 4000000 in
set_option maxRecDepth 100000 in
theorem K_Le_commit (l : Launch) (htr : l.stackTraces = false) (D : va_G) (tys : List (ClassId × FieldType)) (z sz : Nat) (ws : va_W) (h : gm_M) (hM : gm_S h ws) (t : Nat → ClassId) (ht : gTy t tys) (b : Nat → Nat) (X0 : gX) (hw : gw D t b X0 h) (hc0 : X0.cc ≤ gCL) (hs0 : X0.ss ≤ gSL) (o : gR × gX) (hf : f_Le_commit X0 = some o) : gx_Met l y_Le_commit [Cond.code y_Le_commit b_Le_commit 1 (some .int)] { frames := 14, cells := gCL + 1 - X0.cc, slots := gSL + 6 - X0.ss, locals := 324 } (gx_P z sz D classes tys ws [Value.ref (b 0)]) (gx_Q D classes tys (va_A ws sz) (gPoA D t b X0 o)) (o.2.cc + gT o.1 - X0.cc) (o.2.ss + 6 * gT o.1 - X0.ss) (va_A ws sz) := by
  refine gx_ofW (cc := b_Le_commit) (maxL := 1) (ret := (some .int)) (by decide) rfl ?_
  intro p e s m args below meth c s₁ B hml hv
  obtain ⟨rfl, hsz, hz, hP, hK, hD0, hY⟩ := hv
  have hx := B.exec
  have hb := B.bytes
  have hr := B.returns
  have hts := hY.hts (#[Value.ref (b 0)] : Array Value)
  have hown : s.vm.findClass "CommitLedger" = some m.cls := findClass_of_methodNamed B.named
  have hlocks := B.notSynchronized
  have hne : c.exceptionTable.isEmpty = true := B.noHandlers (atoms_spec (ws := [Cond.code y_Le_commit b_Le_commit 1 (some .int)]) B.pre _ List.mem_cons_self)
  have hN := gx_ns hP
  subst hsz
  have hAz := gx_az hD0 hz
  have hD := hD0.self (sz := s.heap.size)
  have hA : ∀ q : Nat, s.heap.size ≤ q → va_A ws s.heap.size q := fun q h => Or.inr h
  generalize va_A ws s.heap.size = A at hD hA hAz hN ⊢
  have Y : gy D t b A s.heap X0 X0 s.heap [] := ⟨h, ⟨ws, hM, hP, hD, va_S.rf⟩, hw, gEq.rf⟩
  clear hP hD hM hD0 hw
  have hC : gC X0 b X0 b 0 0 := gC.rf hc0 hs0
  obtain ⟨ht0, ht1, ht2, ht3, ht4, ht5, ht6, ht7, ht8⟩ := id ht
  have hl := lv_entry ([Value.ref (b 0)]) (n := 1) (Nat.le_of_ble_eq_true rfl)
  rw [lg_entry_eq]
  generalize (lg_sl ([Value.ref (b 0)]) ++ List.replicate (1 - (lg_sl ([Value.ref (b 0)])).length) Slot.unset).toArray = ls at hl ⊢
  have hl : lv_has ls 1 [(0, Value.ref (b 0))] := hl
  refine gA_cut (pcJ := 22) hC Y (fun s : gX => f_Le_commit_22 s) o (fun s => s) (fun s b ls => lv_has ls 1 [(0, Value.ref (b 0))]) (fun s b => []) ?_ (fun J22 => ?_)
  · rintro X6 b H locs ls cells slots hf hl hC Y
    have hl : lv_has ls 1 [(0, Value.ref (b 0))] := hl
    have hC : gC X0 _ X6 b cells slots := hC
    have Y : gy D t b A s.heap X6 X6 H locs := Y
    have hf : f_Le_commit_22 X6 = some o := hf
    unfold f_Le_commit_22 at hf
    refine lv_aload_n hx hb d_Le_commit_22 rfl (lv_at hl 0 rfl) ?_
    refine gy_get (ci := 0) (v := Value.int (X6.I 0 15)) (C := "CommitLedger") (T := F_Le) (N := 18) hx hb hts i_Le hown hK Y gF_0 rfl 15 (by decide) kf_Le_84 rfl d_Le_commit_23 ?_
    exact gA_iret hf hx hb hr hlocks hK hC Y d_Le_commit_26
  refine gA_cut (pcJ := 18) hC Y (fun s : gX => f_Le_commit_18 s) o (fun s => s) (fun s b ls => lv_has ls 1 [(0, Value.ref (b 0))]) (fun s b => []) ?_ (fun J18 => ?_)
  · rintro X7 b H locs ls cells slots hf hl hC Y
    have hl : lv_has ls 1 [(0, Value.ref (b 0))] := hl
    have hC : gC X0 _ X7 b cells slots := hC
    have Y : gy D t b A s.heap X7 X7 H locs := Y
    have hf : f_Le_commit_18 X7 = some o := hf
    unfold f_Le_commit_18 at hf
    refine lv_aload_n hx hb d_Le_commit_18 rfl (lv_at hl 0 rfl) ?_
    have hl : lv_has ls 1 [(0, Value.ref (b 0))] := lv_sub hl [0] rfl
    rcases gCvt_el hf with ⟨X8, hF8, hf⟩ | ⟨E8, X8, hF8, hf⟩
    rotate_left
    · cases hf
      refine gA_call (fr := 11) (lo := 261) (o1 := (gR.t E8, X8)) (ig := .invokevirtual 181) (av := [Value.ref (b 0)]) hC Y ⟨Nat.le_refl _, Nat.le_refl _⟩ (fun hc9 hs9 ws h hS hw => K_Le_renamePrepared l htr D tys z _ ws h hS t ht b X7 hw hc9 hs9 (gR.t E8, X8) hF8) (gx_invV (As := []) (rest := []) hx hb hown hts km_Le_181 kI_Le_renamePrepared kV_Le_renamePrepared kc_Le_renamePrepared (by decide) (show (parseMethodDescriptor y_Le_renamePrepared.desc).map (fun d => d.parameters.length) = some 0 by decide +kernel) (gy_recv (ci := 0) hK Y rfl gF_0) rfl rfl d_Le_commit_19) (gx_cwA hts kc_Le_renamePrepared kN_Le ⟨Nat.le_of_ble_eq_true rfl, Nat.le_of_ble_eq_true rfl⟩) hb hml hz hK hY hAz hA hl.1 (lv_room (Nat.le_of_ble_eq_true rfl)) d_Le_commit_19 (fun vz9 b H locs cells slots e9 hb9 hC Y => ?_) (fun xz9 Ez9 ce b H locs cells slots e9 hce hC Y => ?_)
      · have e9 : (Sum.inl vz9 : Option Value ⊕ String) = Sum.inr E8 := e9
        cases e9
      · have e9 : (Sum.inr Ez9 : Option Value ⊕ String) = Sum.inr E8 := e9
        cases e9
        exact gA_pass hne hlocks hce hK hC Y
    refine gA_call (fr := 11) (lo := 261) (o1 := (gR.v, X8)) (ig := .invokevirtual 181) (av := [Value.ref (b 0)]) hC Y ⟨Nat.le_refl _, Nat.le_refl _⟩ (fun hc9 hs9 ws h hS hw => K_Le_renamePrepared l htr D tys z _ ws h hS t ht b X7 hw hc9 hs9 (gR.v, X8) hF8) (gx_invV (As := []) (rest := []) hx hb hown hts km_Le_181 kI_Le_renamePrepared kV_Le_renamePrepared kc_Le_renamePrepared (by decide) (show (parseMethodDescriptor y_Le_renamePrepared.desc).map (fun d => d.parameters.length) = some 0 by decide +kernel) (gy_recv (ci := 0) hK Y rfl gF_0) rfl rfl d_Le_commit_19) (gx_cwA hts kc_Le_renamePrepared kN_Le ⟨Nat.le_of_ble_eq_true rfl, Nat.le_of_ble_eq_true rfl⟩) hb hml hz hK hY hAz hA hl.1 (lv_room (Nat.le_of_ble_eq_true rfl)) d_Le_commit_19 (fun vz9 b H locs cells slots e9 hb9 hC Y => ?_) (fun xz9 Ez9 ce b H locs cells slots e9 hce hC Y => ?_)
    rotate_left
    · have e9 : (Sum.inr Ez9 : Option Value ⊕ String) = Sum.inl none := e9
      cases e9
    have e9 : (Sum.inl vz9 : Option Value ⊕ String) = Sum.inl none := e9
    cases e9
    replace hl : lv_has ls 1 [(0, Value.ref (b 0))] := by rw [hb9 0 (gNm_s (by decide))]; exact hl
    refine W.eq (g2 := F0 m 22 ls []) (by rfl) ?_
    exact J22 X8 _ _ _ _ _ _ hf (lv_sub hl [0] rfl) (hC.mv Y) Y.rb
  unfold f_Le_commit at hf
  refine lv_aload_n hx hb d_Le_commit_0 rfl (lv_at hl 0 rfl) ?_
  rcases gCvt_el hf with ⟨X9, hF9, hf⟩ | ⟨E9, X9, hF9, hf⟩
  rotate_left
  · cases hf
    refine gy_callT (rm := { frames := 6, cells := 1, slots := 6, locals := 82 }) (ig := .invokevirtual 112) (av := [Value.ref (b 0)]) Y (fun ws h hS hw => K_Le_requireWriter l htr D tys z _ ws h hS t ht b X0 hw (gR.t E9, X9) hF9) (gx_invV (As := []) (rest := []) hx hb hown hts km_Le_112 kI_Le_requireWriter kV_Le_requireWriter kc_Le_requireWriter (by decide) (show (parseMethodDescriptor y_Le_requireWriter.desc).map (fun d => d.parameters.length) = some 0 by decide +kernel) (gy_recv (ci := 0) hK Y rfl gF_0) rfl rfl d_Le_commit_1) (gx_cw (z := 0) hts kc_Le_requireWriter kN_Le rfl rfl ⟨Nat.le_of_ble_eq_true rfl, Nat.le_of_ble_eq_true rfl⟩) hb hml hz hK hY hAz hA hl.1 (lv_room (Nat.le_of_ble_eq_true rfl)) d_Le_commit_1 ⟨hC.rc (Nat.le_refl _), hC.rs (Nat.le_refl _)⟩ (fun xz9 ce H1 L9 hce Y => gA_pass hne hlocks hce hK hC Y)
  refine gy_callV (rm := { frames := 6, cells := 0, slots := 0, locals := 82 }) (ig := .invokevirtual 112) (av := [Value.ref (b 0)]) Y (fun ws h hS hw => K_Le_requireWriter l htr D tys z _ ws h hS t ht b X0 hw (gR.v, X9) hF9) (gx_invV (As := []) (rest := []) hx hb hown hts km_Le_112 kI_Le_requireWriter kV_Le_requireWriter kc_Le_requireWriter (by decide) (show (parseMethodDescriptor y_Le_requireWriter.desc).map (fun d => d.parameters.length) = some 0 by decide +kernel) (gy_recv (ci := 0) hK Y rfl gF_0) rfl rfl d_Le_commit_1) (gx_cw (z := 0) hts kc_Le_requireWriter kN_Le rfl rfl ⟨Nat.le_of_ble_eq_true rfl, Nat.le_of_ble_eq_true rfl⟩) hb hml hz hK hY hAz hA hl.1 (lv_room (Nat.le_of_ble_eq_true rfl)) d_Le_commit_1 ⟨hC.rc0 (Nat.le_refl _), hC.rs0 (Nat.le_refl _)⟩ (fun H locs Y => ?_)
  refine lv_aload_n hx hb d_Le_commit_4 rfl (lv_at hl 0 rfl) ?_
  refine gy_get (ci := 0) (v := Value.int (X9.I 0 8)) (C := "CommitLedger") (T := F_Le) (N := 18) hx hb hts i_Le hown hK Y gF_0 rfl 8 (by decide) kf_Le_178 rfl d_Le_commit_5 ?_
  refine lv_if_ne (tgt := 18) hx hb d_Le_commit_8 (by decide) (fun c8_10 => ?_) (fun c8_10 => ?_)
  · replace hf := gp_f c8_10 hf
    exact J18 X9 _ _ _ _ _ _ hf (lv_sub hl [0] rfl) (hC.mv Y) Y.rb
  · replace hf := gp_t c8_10 hf
    refine lv_aload_n hx hb d_Le_commit_11 rfl (lv_at hl 0 rfl) ?_
    have hl : lv_has ls 1 [(0, Value.ref (b 0))] := lv_sub hl [0] rfl
    rcases gCit_el hf with ⟨x11, X11, hF11, hf⟩ | ⟨E11, X11, hF11, hf⟩
    rotate_left
    · cases hf
      refine gA_call (fr := 13) (lo := 303) (o1 := (gR.t E11, X11)) (ig := .invokevirtual 175) (av := [Value.ref (b 0)]) hC Y ⟨Nat.le_refl _, Nat.le_refl _⟩ (fun hc9 hs9 ws h hS hw => K_Le_prepareAll l htr D tys z _ ws h hS t ht b X9 hw hc9 hs9 (gR.t E11, X11) hF11) (gx_invV (As := []) (rest := []) hx hb hown hts km_Le_175 kI_Le_prepareAll kV_Le_prepareAll kc_Le_prepareAll (by decide) (show (parseMethodDescriptor y_Le_prepareAll.desc).map (fun d => d.parameters.length) = some 0 by decide +kernel) (gy_recv (ci := 0) hK Y rfl gF_0) rfl rfl d_Le_commit_12) (gx_cwA hts kc_Le_prepareAll kN_Le ⟨Nat.le_of_ble_eq_true rfl, Nat.le_of_ble_eq_true rfl⟩) hb hml hz hK hY hAz hA hl.1 (lv_room (Nat.le_of_ble_eq_true rfl)) d_Le_commit_12 (fun vz9 b H locs cells slots e9 hb9 hC Y => ?_) (fun xz9 Ez9 ce b H locs cells slots e9 hce hC Y => ?_)
      · have e9 : (Sum.inl vz9 : Option Value ⊕ String) = Sum.inr E11 := e9
        cases e9
      · have e9 : (Sum.inr Ez9 : Option Value ⊕ String) = Sum.inr E11 := e9
        cases e9
        exact gA_pass hne hlocks hce hK hC Y
    refine gA_call (fr := 13) (lo := 303) (o1 := (gR.i x11, X11)) (ig := .invokevirtual 175) (av := [Value.ref (b 0)]) hC Y ⟨Nat.le_refl _, Nat.le_refl _⟩ (fun hc9 hs9 ws h hS hw => K_Le_prepareAll l htr D tys z _ ws h hS t ht b X9 hw hc9 hs9 (gR.i x11, X11) hF11) (gx_invV (As := []) (rest := []) hx hb hown hts km_Le_175 kI_Le_prepareAll kV_Le_prepareAll kc_Le_prepareAll (by decide) (show (parseMethodDescriptor y_Le_prepareAll.desc).map (fun d => d.parameters.length) = some 0 by decide +kernel) (gy_recv (ci := 0) hK Y rfl gF_0) rfl rfl d_Le_commit_12) (gx_cwA hts kc_Le_prepareAll kN_Le ⟨Nat.le_of_ble_eq_true rfl, Nat.le_of_ble_eq_true rfl⟩) hb hml hz hK hY hAz hA hl.1 (lv_room (Nat.le_of_ble_eq_true rfl)) d_Le_commit_12 (fun vz9 b H locs cells slots e9 hb9 hC Y => ?_) (fun xz9 Ez9 ce b H locs cells slots e9 hce hC Y => ?_)
    rotate_left
    · have e9 : (Sum.inr Ez9 : Option Value ⊕ String) = Sum.inl (some (Value.int x11)) := e9
      cases e9
    have e9 : (Sum.inl vz9 : Option Value ⊕ String) = Sum.inl (some (Value.int x11)) := e9
    cases e9
    replace hl : lv_has ls 1 [(0, Value.ref (b 0))] := by rw [hb9 0 (gNm_s (by decide))]; exact hl
    refine W.eq (g2 := F0 m 15 ls [Value.int x11]) (by rfl) ?_
    refine lv_if_eq (tgt := 22) hx hb d_Le_commit_15 (by decide) (fun c15_12 => ?_) (fun c15_12 => ?_)
    · replace hf := gp_t c15_12 hf
      exact J22 X11 _ _ _ _ _ _ hf (lv_sub hl [0] rfl) (hC.mv Y) Y.rb
    · replace hf := gp_f c15_12 hf
      exact J18 X11 _ _ _ _ _ _ hf (lv_sub hl [0] rfl) (hC.mv Y) Y.rb

def f_Le_rollback (X0 : gX) : Option (gR × gX) := gCvt (f_Le_requireWriter X0) (fun E X => some (gR.t E, X)) (fun X1 => gCv (f_Le_forgetWriter X1) (fun X2 => gCv (f_Le_dropUnneededFiles X2) (fun X3 => some (gR.v, X3))))
set_option maxHeartbeats 4000000 in
set_option maxRecDepth 100000 in
theorem K_Le_rollback (l : Launch) (htr : l.stackTraces = false) (D : va_G) (tys : List (ClassId × FieldType)) (z sz : Nat) (ws : va_W) (h : gm_M) (hM : gm_S h ws) (t : Nat → ClassId) (ht : gTy t tys) (b : Nat → Nat) (X0 : gX) (hw : gw D t b X0 h) (hc0 : X0.cc ≤ gCL) (hs0 : X0.ss ≤ gSL) (o : gR × gX) (hf : f_Le_rollback X0 = some o) : gx_Met l y_Le_rollback [Cond.code y_Le_rollback b_Le_rollback 1 none] { frames := 10, cells := gCL + 1 - X0.cc, slots := gSL + 6 - X0.ss, locals := 241 } (gx_P z sz D classes tys ws [Value.ref (b 0)]) (gx_Q D classes tys (va_A ws sz) (gPoA D t b X0 o)) (o.2.cc + gT o.1 - X0.cc) (o.2.ss + 6 * gT o.1 - X0.ss) (va_A ws sz) := by
  refine gx_ofW (cc := b_Le_rollback) (maxL := 1) (ret := none) (by decide) rfl ?_
  intro p e s m args below meth c s₁ B hml hv
  obtain ⟨rfl, hsz, hz, hP, hK, hD0, hY⟩ := hv
  have hx := B.exec
  have hb := B.bytes
  have hr := B.returns
  have hts := hY.hts (#[Value.ref (b 0)] : Array Value)
  have hown : s.vm.findClass "CommitLedger" = some m.cls := findClass_of_methodNamed B.named
  have hlocks := B.notSynchronized
  have hne : c.exceptionTable.isEmpty = true := B.noHandlers (atoms_spec (ws := [Cond.code y_Le_rollback b_Le_rollback 1 none]) B.pre _ List.mem_cons_self)
  have hN := gx_ns hP
  subst hsz
  have hAz := gx_az hD0 hz
  have hD := hD0.self (sz := s.heap.size)
  have hA : ∀ q : Nat, s.heap.size ≤ q → va_A ws s.heap.size q := fun q h => Or.inr h
  generalize va_A ws s.heap.size = A at hD hA hAz hN ⊢
  have Y : gy D t b A s.heap X0 X0 s.heap [] := ⟨h, ⟨ws, hM, hP, hD, va_S.rf⟩, hw, gEq.rf⟩
  clear hP hD hM hD0 hw
  have hC : gC X0 b X0 b 0 0 := gC.rf hc0 hs0
  obtain ⟨ht0, ht1, ht2, ht3, ht4, ht5, ht6, ht7, ht8⟩ := id ht
  have hl := lv_entry ([Value.ref (b 0)]) (n := 1) (Nat.le_of_ble_eq_true rfl)
  rw [lg_entry_eq]
  generalize (lg_sl ([Value.ref (b 0)]) ++ List.replicate (1 - (lg_sl ([Value.ref (b 0)])).length) Slot.unset).toArray = ls at hl ⊢
  have hl : lv_has ls 1 [(0, Value.ref (b 0))] := hl
  unfold f_Le_rollback at hf
  refine lv_aload_n hx hb d_Le_rollback_0 rfl (lv_at hl 0 rfl) ?_
  rcases gCvt_el hf with ⟨X4, hF4, hf⟩ | ⟨E4, X4, hF4, hf⟩
  rotate_left
  · cases hf
    refine gy_callT (rm := { frames := 6, cells := 1, slots := 6, locals := 82 }) (ig := .invokevirtual 112) (av := [Value.ref (b 0)]) Y (fun ws h hS hw => K_Le_requireWriter l htr D tys z _ ws h hS t ht b X0 hw (gR.t E4, X4) hF4) (gx_invV (As := []) (rest := []) hx hb hown hts km_Le_112 kI_Le_requireWriter kV_Le_requireWriter kc_Le_requireWriter (by decide) (show (parseMethodDescriptor y_Le_requireWriter.desc).map (fun d => d.parameters.length) = some 0 by decide +kernel) (gy_recv (ci := 0) hK Y rfl gF_0) rfl rfl d_Le_rollback_1) (gx_cw (z := 0) hts kc_Le_requireWriter kN_Le rfl rfl ⟨Nat.le_of_ble_eq_true rfl, Nat.le_of_ble_eq_true rfl⟩) hb hml hz hK hY hAz hA hl.1 (lv_room (Nat.le_of_ble_eq_true rfl)) d_Le_rollback_1 ⟨hC.rc (Nat.le_refl _), hC.rs (Nat.le_refl _)⟩ (fun xz9 ce H1 L9 hce Y => gA_pass hne hlocks hce hK hC Y)
  refine gy_callV (rm := { frames := 6, cells := 0, slots := 0, locals := 82 }) (ig := .invokevirtual 112) (av := [Value.ref (b 0)]) Y (fun ws h hS hw => K_Le_requireWriter l htr D tys z _ ws h hS t ht b X0 hw (gR.v, X4) hF4) (gx_invV (As := []) (rest := []) hx hb hown hts km_Le_112 kI_Le_requireWriter kV_Le_requireWriter kc_Le_requireWriter (by decide) (show (parseMethodDescriptor y_Le_requireWriter.desc).map (fun d => d.parameters.length) = some 0 by decide +kernel) (gy_recv (ci := 0) hK Y rfl gF_0) rfl rfl d_Le_rollback_1) (gx_cw (z := 0) hts kc_Le_requireWriter kN_Le rfl rfl ⟨Nat.le_of_ble_eq_true rfl, Nat.le_of_ble_eq_true rfl⟩) hb hml hz hK hY hAz hA hl.1 (lv_room (Nat.le_of_ble_eq_true rfl)) d_Le_rollback_1 ⟨hC.rc0 (Nat.le_refl _), hC.rs0 (Nat.le_refl _)⟩ (fun H locs Y => ?_)
  refine lv_aload_n hx hb d_Le_rollback_4 rfl (lv_at hl 0 rfl) ?_
  obtain ⟨X5, hF5, hf⟩ := gCv_el hf
  refine gy_callV (rm := { frames := 1, cells := 0, slots := 0, locals := 12 }) (ig := .invokevirtual 184) (av := [Value.ref (b 0)]) Y (fun ws h hS hw => K_Le_forgetWriter l htr D tys z _ ws h hS t ht b X4 hw (gR.v, X5) hF5) (gx_invV (As := []) (rest := []) hx hb hown hts km_Le_184 kI_Le_forgetWriter kV_Le_forgetWriter kc_Le_forgetWriter (by decide) (show (parseMethodDescriptor y_Le_forgetWriter.desc).map (fun d => d.parameters.length) = some 0 by decide +kernel) (gy_recv (ci := 0) hK Y rfl gF_0) rfl rfl d_Le_rollback_5) (gx_cw (z := 0) hts kc_Le_forgetWriter kN_Le rfl rfl ⟨Nat.le_of_ble_eq_true rfl, Nat.le_of_ble_eq_true rfl⟩) hb hml hz hK hY hAz hA hl.1 (lv_room (Nat.le_of_ble_eq_true rfl)) d_Le_rollback_5 ⟨hC.rc0 (Nat.le_refl _), hC.rs0 (Nat.le_refl _)⟩ (fun H locs Y => ?_)
  refine lv_aload_n hx hb d_Le_rollback_8 rfl (lv_at hl 0 rfl) ?_
  have hl : lv_has ls 1 [] := lv_sub hl [] rfl
  obtain ⟨X6, hF6, hf⟩ := gCv_el hf
  refine gA_call (fr := 9) (lo := 220) (o1 := (gR.v, X6)) (ig := .invokevirtual 106) (av := [Value.ref (b 0)]) hC Y ⟨Nat.le_refl _, Nat.le_refl _⟩ (fun hc9 hs9 ws h hS hw => K_Le_dropUnneededFiles l htr D tys z _ ws h hS t ht b X5 hw hc9 hs9 (gR.v, X6) hF6) (gx_invV (As := []) (rest := []) hx hb hown hts km_Le_106 kI_Le_dropUnneededFiles kV_Le_dropUnneededFiles kc_Le_dropUnneededFiles (by decide) (show (parseMethodDescriptor y_Le_dropUnneededFiles.desc).map (fun d => d.parameters.length) = some 0 by decide +kernel) (gy_recv (ci := 0) hK Y rfl gF_0) rfl rfl d_Le_rollback_9) (gx_cwA hts kc_Le_dropUnneededFiles kN_Le ⟨Nat.le_of_ble_eq_true rfl, Nat.le_of_ble_eq_true rfl⟩) hb hml hz hK hY hAz hA hl.1 (lv_room (Nat.le_of_ble_eq_true rfl)) d_Le_rollback_9 (fun vz9 b H locs cells slots e9 hb9 hC Y => ?_) (fun xz9 Ez9 ce b H locs cells slots e9 hce hC Y => ?_)
  rotate_left
  · have e9 : (Sum.inr Ez9 : Option Value ⊕ String) = Sum.inl none := e9
    cases e9
  have e9 : (Sum.inl vz9 : Option Value ⊕ String) = Sum.inl none := e9
  cases e9
  replace hl : lv_has ls 1 [] := by exact hl
  refine W.eq (g2 := F0 m 12 ls []) (by rfl) ?_
  exact gA_vret hf hx hb hr hlocks hK hC Y d_Le_rollback_12

def f_Le_close_40 (X : gX) : Option (gR × gX) := gCv (f_Le_forgetWriter X) (fun X7 => gCv (f_Le_dropUnneededFiles X7) (fun X8 => some (gR.i (X8.I 0 15), X8)))
def f_Le_close_13 (X : gX) (i1 : Int32) : Option ((gX × Int32) ⊕ (gR × gX)) := (if i1 ≤ (0 : Int32) then gCit (f_Le_prepareAll X) (fun E X => gLf (some (gR.t E, X))) (fun x5 X5 => (if x5 = (0 : Int32) then gLf (f_Le_close_40 X5) else gCvt (f_Le_renamePrepared X5) (fun E X => gLf (some (gR.t E, X))) (fun X9 => gLf (f_Le_close_40 X9)))) else gCv (f_Le_endMerge X 0 1) (fun X10 => some (Sum.inl (X10, i1 + (-1)))))
def f_Le_close (X0 : gX) : Option (gR × gX) := gCvt (f_Le_requireWriter X0) (fun E X => some (gR.t E, X)) (fun X1 => gCvt (f_Le_requireNothingPrepared X1) (fun E X => some (gR.t E, X)) (fun X2 => gI (fun s : gX × Int32 => f_Le_close_13 s.1 s.2) gK (X2, X2.I 0 12)))
set_option maxHeartbeats 4000000 in
set_option maxRecDepth 100000 in
theorem K_Le_close (l : Launch) (htr : l.stackTraces = false) (D : va_G) (tys : List (ClassId × FieldType)) (z sz : Nat) (ws : va_W) (h : gm_M) (hM : gm_S h ws) (t : Nat → ClassId) (ht : gTy t tys) (b : Nat → Nat) (X0 : gX) (hw : gw D t b X0 h) (hc0 : X0.cc ≤ gCL) (hs0 : X0.ss ≤ gSL) (o : gR × gX) (hf : f_Le_close X0 = some o) : gx_Met l y_Le_close [Cond.code y_Le_close b_Le_close 2 (some .int)] { frames := 14, cells := gCL + 1 - X0.cc, slots := gSL + 6 - X0.ss, locals := 324 } (gx_P z sz D classes tys ws [Value.ref (b 0)]) (gx_Q D classes tys (va_A ws sz) (gPoA D t b X0 o)) (o.2.cc + gT o.1 - X0.cc) (o.2.ss + 6 * gT o.1 - X0.ss) (va_A ws sz) := by
  refine gx_ofW (cc := b_Le_close) (maxL := 2) (ret := (some .int)) (by decide) rfl ?_
  intro p e s m args below meth c s₁ B hml hv
  obtain ⟨rfl, hsz, hz, hP, hK, hD0, hY⟩ := hv
  have hx := B.exec
  have hb := B.bytes
  have hr := B.returns
  have hts := hY.hts (#[Value.ref (b 0)] : Array Value)
  have hown : s.vm.findClass "CommitLedger" = some m.cls := findClass_of_methodNamed B.named
  have hlocks := B.notSynchronized
  have hne : c.exceptionTable.isEmpty = true := B.noHandlers (atoms_spec (ws := [Cond.code y_Le_close b_Le_close 2 (some .int)]) B.pre _ List.mem_cons_self)
  have hN := gx_ns hP
  subst hsz
  have hAz := gx_az hD0 hz
  have hD := hD0.self (sz := s.heap.size)
  have hA : ∀ q : Nat, s.heap.size ≤ q → va_A ws s.heap.size q := fun q h => Or.inr h
  generalize va_A ws s.heap.size = A at hD hA hAz hN ⊢
  have Y : gy D t b A s.heap X0 X0 s.heap [] := ⟨h, ⟨ws, hM, hP, hD, va_S.rf⟩, hw, gEq.rf⟩
  clear hP hD hM hD0 hw
  have hC : gC X0 b X0 b 0 0 := gC.rf hc0 hs0
  obtain ⟨ht0, ht1, ht2, ht3, ht4, ht5, ht6, ht7, ht8⟩ := id ht
  have hl := lv_entry ([Value.ref (b 0)]) (n := 2) (Nat.le_of_ble_eq_true rfl)
  rw [lg_entry_eq]
  generalize (lg_sl ([Value.ref (b 0)]) ++ List.replicate (2 - (lg_sl ([Value.ref (b 0)])).length) Slot.unset).toArray = ls at hl ⊢
  have hl : lv_has ls 2 [(0, Value.ref (b 0))] := hl
  refine gA_cut (pcJ := 40) hC Y (fun s : gX => f_Le_close_40 s) o (fun s => s) (fun s b ls => lv_has ls 2 [(0, Value.ref (b 0))]) (fun s b => []) ?_ (fun J40 => ?_)
  · rintro X16 b H locs ls cells slots hf hl hC Y
    have hl : lv_has ls 2 [(0, Value.ref (b 0))] := hl
    have hC : gC X0 _ X16 b cells slots := hC
    have Y : gy D t b A s.heap X16 X16 H locs := Y
    have hf : f_Le_close_40 X16 = some o := hf
    unfold f_Le_close_40 at hf
    refine lv_aload_n hx hb d_Le_close_40 rfl (lv_at hl 0 rfl) ?_
    obtain ⟨X17, hF17, hf⟩ := gCv_el hf
    refine gy_callV (rm := { frames := 1, cells := 0, slots := 0, locals := 12 }) (ig := .invokevirtual 184) (av := [Value.ref (b 0)]) Y (fun ws h hS hw => K_Le_forgetWriter l htr D tys z _ ws h hS t ht b X16 hw (gR.v, X17) hF17) (gx_invV (As := []) (rest := []) hx hb hown hts km_Le_184 kI_Le_forgetWriter kV_Le_forgetWriter kc_Le_forgetWriter (by decide) (show (parseMethodDescriptor y_Le_forgetWriter.desc).map (fun d => d.parameters.length) = some 0 by decide +kernel) (gy_recv (ci := 0) hK Y rfl gF_0) rfl rfl d_Le_close_41) (gx_cw (z := 0) hts kc_Le_forgetWriter kN_Le rfl rfl ⟨Nat.le_of_ble_eq_true rfl, Nat.le_of_ble_eq_true rfl⟩) hb hml hz hK hY hAz hA hl.1 (lv_room (Nat.le_of_ble_eq_true rfl)) d_Le_close_41 ⟨hC.rc0 (Nat.le_refl _), hC.rs0 (Nat.le_refl _)⟩ (fun H locs Y => ?_)
    refine lv_aload_n hx hb d_Le_close_44 rfl (lv_at hl 0 rfl) ?_
    have hl : lv_has ls 2 [(0, Value.ref (b 0))] := lv_sub hl [0] rfl
    obtain ⟨X18, hF18, hf⟩ := gCv_el hf
    refine gA_call (fr := 9) (lo := 220) (o1 := (gR.v, X18)) (ig := .invokevirtual 106) (av := [Value.ref (b 0)]) hC Y ⟨Nat.le_refl _, Nat.le_refl _⟩ (fun hc9 hs9 ws h hS hw => K_Le_dropUnneededFiles l htr D tys z _ ws h hS t ht b X17 hw hc9 hs9 (gR.v, X18) hF18) (gx_invV (As := []) (rest := []) hx hb hown hts km_Le_106 kI_Le_dropUnneededFiles kV_Le_dropUnneededFiles kc_Le_dropUnneededFiles (by decide) (show (parseMethodDescriptor y_Le_dropUnneededFiles.desc).map (fun d => d.parameters.length) = some 0 by decide +kernel) (gy_recv (ci := 0) hK Y rfl gF_0) rfl rfl d_Le_close_45) (gx_cwA hts kc_Le_dropUnneededFiles kN_Le ⟨Nat.le_of_ble_eq_true rfl, Nat.le_of_ble_eq_true rfl⟩) hb hml hz hK hY hAz hA hl.1 (lv_room (Nat.le_of_ble_eq_true rfl)) d_Le_close_45 (fun vz9 b H locs cells slots e9 hb9 hC Y => ?_) (fun xz9 Ez9 ce b H locs cells slots e9 hce hC Y => ?_)
    rotate_left
    · have e9 : (Sum.inr Ez9 : Option Value ⊕ String) = Sum.inl none := e9
      cases e9
    have e9 : (Sum.inl vz9 : Option Value ⊕ String) = Sum.inl none := e9
    cases e9
    replace hl : lv_has ls 2 [(0, Value.ref (b 0))] := by rw [hb9 0 (gNm_s (by decide))]; exact hl
    refine W.eq (g2 := F0 m 48 ls []) (by rfl) ?_
    refine lv_aload_n hx hb d_Le_close_48 rfl (lv_at hl 0 rfl) ?_
    refine gy_get (ci := 0) (v := Value.int (X18.I 0 15)) (C := "CommitLedger") (T := F_Le) (N := 18) hx hb hts i_Le hown hK Y gF_0 rfl 15 (by decide) kf_Le_84 rfl d_Le_close_49 ?_
    exact gA_iret hf hx hb hr hlocks hK hC Y d_Le_close_52
  unfold f_Le_close at hf
  refine lv_aload_n hx hb d_Le_close_0 rfl (lv_at hl 0 rfl) ?_
  rcases gCvt_el hf with ⟨X19, hF19, hf⟩ | ⟨E19, X19, hF19, hf⟩
  rotate_left
  · cases hf
    refine gy_callT (rm := { frames := 6, cells := 1, slots := 6, locals := 82 }) (ig := .invokevirtual 112) (av := [Value.ref (b 0)]) Y (fun ws h hS hw => K_Le_requireWriter l htr D tys z _ ws h hS t ht b X0 hw (gR.t E19, X19) hF19) (gx_invV (As := []) (rest := []) hx hb hown hts km_Le_112 kI_Le_requireWriter kV_Le_requireWriter kc_Le_requireWriter (by decide) (show (parseMethodDescriptor y_Le_requireWriter.desc).map (fun d => d.parameters.length) = some 0 by decide +kernel) (gy_recv (ci := 0) hK Y rfl gF_0) rfl rfl d_Le_close_1) (gx_cw (z := 0) hts kc_Le_requireWriter kN_Le rfl rfl ⟨Nat.le_of_ble_eq_true rfl, Nat.le_of_ble_eq_true rfl⟩) hb hml hz hK hY hAz hA hl.1 (lv_room (Nat.le_of_ble_eq_true rfl)) d_Le_close_1 ⟨hC.rc (Nat.le_refl _), hC.rs (Nat.le_refl _)⟩ (fun xz9 ce H1 L9 hce Y => gA_pass hne hlocks hce hK hC Y)
  refine gy_callV (rm := { frames := 6, cells := 0, slots := 0, locals := 82 }) (ig := .invokevirtual 112) (av := [Value.ref (b 0)]) Y (fun ws h hS hw => K_Le_requireWriter l htr D tys z _ ws h hS t ht b X0 hw (gR.v, X19) hF19) (gx_invV (As := []) (rest := []) hx hb hown hts km_Le_112 kI_Le_requireWriter kV_Le_requireWriter kc_Le_requireWriter (by decide) (show (parseMethodDescriptor y_Le_requireWriter.desc).map (fun d => d.parameters.length) = some 0 by decide +kernel) (gy_recv (ci := 0) hK Y rfl gF_0) rfl rfl d_Le_close_1) (gx_cw (z := 0) hts kc_Le_requireWriter kN_Le rfl rfl ⟨Nat.le_of_ble_eq_true rfl, Nat.le_of_ble_eq_true rfl⟩) hb hml hz hK hY hAz hA hl.1 (lv_room (Nat.le_of_ble_eq_true rfl)) d_Le_close_1 ⟨hC.rc0 (Nat.le_refl _), hC.rs0 (Nat.le_refl _)⟩ (fun H locs Y => ?_)
  refine lv_aload_n hx hb d_Le_close_4 rfl (lv_at hl 0 rfl) ?_
  rcases gCvt_el hf with ⟨X20, hF20, hf⟩ | ⟨E20, X20, hF20, hf⟩
  rotate_left
  · cases hf
    refine gy_callT (rm := { frames := 6, cells := 1, slots := 6, locals := 82 }) (ig := .invokevirtual 172) (av := [Value.ref (b 0)]) Y (fun ws h hS hw => K_Le_requireNothingPrepared l htr D tys z _ ws h hS t ht b X19 hw (gR.t E20, X20) hF20) (gx_invV (As := []) (rest := []) hx hb hown hts km_Le_172 kI_Le_requireNothingPrepared kV_Le_requireNothingPrepared kc_Le_requireNothingPrepared (by decide) (show (parseMethodDescriptor y_Le_requireNothingPrepared.desc).map (fun d => d.parameters.length) = some 0 by decide +kernel) (gy_recv (ci := 0) hK Y rfl gF_0) rfl rfl d_Le_close_5) (gx_cw (z := 0) hts kc_Le_requireNothingPrepared kN_Le rfl rfl ⟨Nat.le_of_ble_eq_true rfl, Nat.le_of_ble_eq_true rfl⟩) hb hml hz hK hY hAz hA hl.1 (lv_room (Nat.le_of_ble_eq_true rfl)) d_Le_close_5 ⟨hC.rc (Nat.le_refl _), hC.rs (Nat.le_refl _)⟩ (fun xz9 ce H1 L9 hce Y => gA_pass hne hlocks hce hK hC Y)
  refine gy_callV (rm := { frames := 6, cells := 0, slots := 0, locals := 82 }) (ig := .invokevirtual 172) (av := [Value.ref (b 0)]) Y (fun ws h hS hw => K_Le_requireNothingPrepared l htr D tys z _ ws h hS t ht b X19 hw (gR.v, X20) hF20) (gx_invV (As := []) (rest := []) hx hb hown hts km_Le_172 kI_Le_requireNothingPrepared kV_Le_requireNothingPrepared kc_Le_requireNothingPrepared (by decide) (show (parseMethodDescriptor y_Le_requireNothingPrepared.desc).map (fun d => d.parameters.length) = some 0 by decide +kernel) (gy_recv (ci := 0) hK Y rfl gF_0) rfl rfl d_Le_close_5) (gx_cw (z := 0) hts kc_Le_requireNothingPrepared kN_Le rfl rfl ⟨Nat.le_of_ble_eq_true rfl, Nat.le_of_ble_eq_true rfl⟩) hb hml hz hK hY hAz hA hl.1 (lv_room (Nat.le_of_ble_eq_true rfl)) d_Le_close_5 ⟨hC.rc0 (Nat.le_refl _), hC.rs0 (Nat.le_refl _)⟩ (fun H locs Y => ?_)
  refine lv_aload_n hx hb d_Le_close_8 rfl (lv_at hl 0 rfl) ?_
  refine gy_get (ci := 0) (v := Value.int (X20.I 0 12)) (C := "CommitLedger") (T := F_Le) (N := 18) hx hb hts i_Le hown hK Y gF_0 rfl 12 (by decide) kf_Le_142 rfl d_Le_close_9 ?_
  refine lv_istore_n (lv' := [(1, Value.int (X20.I 0 12)), (0, Value.ref (b 0))]) hx hb d_Le_close_12 rfl hl (by decide) rfl (fun ls hl => ?_)
  refine gA_iter (fun s : gX × Int32 => s.1) (fun (s : gX × Int32) b ls => lv_has ls 2 [(1, Value.int s.2), (0, Value.ref (b 0))]) ?_ gK (X20, X20.I 0 12) _ _ _ _ _ _ hf (lv_sub hl [0, 1] rfl) (hC.mv Y) Y.rb
  rintro ⟨X21, i1_21⟩ u21 b H locs ls cells slots hf hl hC Y hk21 ho21
  have hl : lv_has ls 2 [(1, Value.int i1_21), (0, Value.ref (b 0))] := hl
  have hC : gC X0 _ X21 b cells slots := hC
  have Y : gy D t b A s.heap X21 X21 H locs := Y
  have hf : f_Le_close_13 X21 i1_21 = some u21 := hf
  unfold f_Le_close_13 at hf
  refine lv_iload_n hx hb d_Le_close_13 rfl (lv_at hl 0 rfl) ?_
  refine lv_if_le (tgt := 29) hx hb d_Le_close_14 (by decide) (fun c14_22 => ?_) (fun c14_22 => ?_)
  · replace hf := gp_t c14_22 hf
    refine lv_aload_n hx hb d_Le_close_29 rfl (lv_at hl 1 rfl) ?_
    have hl : lv_has ls 2 [(0, Value.ref (b 0))] := lv_sub hl [1] rfl
    rcases gCit_el hf with ⟨x23, X23, hF23, hf⟩ | ⟨E23, X23, hF23, hf⟩
    rotate_left
    · replace hf := gU hf ho21
      cases hf
      refine gA_call (fr := 13) (lo := 303) (o1 := (gR.t E23, X23)) (ig := .invokevirtual 175) (av := [Value.ref (b 0)]) hC Y ⟨Nat.le_refl _, Nat.le_refl _⟩ (fun hc9 hs9 ws h hS hw => K_Le_prepareAll l htr D tys z _ ws h hS t ht b X21 hw hc9 hs9 (gR.t E23, X23) hF23) (gx_invV (As := []) (rest := []) hx hb hown hts km_Le_175 kI_Le_prepareAll kV_Le_prepareAll kc_Le_prepareAll (by decide) (show (parseMethodDescriptor y_Le_prepareAll.desc).map (fun d => d.parameters.length) = some 0 by decide +kernel) (gy_recv (ci := 0) hK Y rfl gF_0) rfl rfl d_Le_close_30) (gx_cwA hts kc_Le_prepareAll kN_Le ⟨Nat.le_of_ble_eq_true rfl, Nat.le_of_ble_eq_true rfl⟩) hb hml hz hK hY hAz hA hl.1 (lv_room (Nat.le_of_ble_eq_true rfl)) d_Le_close_30 (fun vz9 b H locs cells slots e9 hb9 hC Y => ?_) (fun xz9 Ez9 ce b H locs cells slots e9 hce hC Y => ?_)
      · have e9 : (Sum.inl vz9 : Option Value ⊕ String) = Sum.inr E23 := e9
        cases e9
      · have e9 : (Sum.inr Ez9 : Option Value ⊕ String) = Sum.inr E23 := e9
        cases e9
        exact gA_pass hne hlocks hce hK hC Y
    refine gA_call (fr := 13) (lo := 303) (o1 := (gR.i x23, X23)) (ig := .invokevirtual 175) (av := [Value.ref (b 0)]) hC Y ⟨Nat.le_refl _, Nat.le_refl _⟩ (fun hc9 hs9 ws h hS hw => K_Le_prepareAll l htr D tys z _ ws h hS t ht b X21 hw hc9 hs9 (gR.i x23, X23) hF23) (gx_invV (As := []) (rest := []) hx hb hown hts km_Le_175 kI_Le_prepareAll kV_Le_prepareAll kc_Le_prepareAll (by decide) (show (parseMethodDescriptor y_Le_prepareAll.desc).map (fun d => d.parameters.length) = some 0 by decide +kernel) (gy_recv (ci := 0) hK Y rfl gF_0) rfl rfl d_Le_close_30) (gx_cwA hts kc_Le_prepareAll kN_Le ⟨Nat.le_of_ble_eq_true rfl, Nat.le_of_ble_eq_true rfl⟩) hb hml hz hK hY hAz hA hl.1 (lv_room (Nat.le_of_ble_eq_true rfl)) d_Le_close_30 (fun vz9 b H locs cells slots e9 hb9 hC Y => ?_) (fun xz9 Ez9 ce b H locs cells slots e9 hce hC Y => ?_)
    rotate_left
    · have e9 : (Sum.inr Ez9 : Option Value ⊕ String) = Sum.inl (some (Value.int x23)) := e9
      cases e9
    have e9 : (Sum.inl vz9 : Option Value ⊕ String) = Sum.inl (some (Value.int x23)) := e9
    cases e9
    replace hl : lv_has ls 2 [(0, Value.ref (b 0))] := by rw [hb9 0 (gNm_s (by decide))]; exact hl
    refine W.eq (g2 := F0 m 33 ls [Value.int x23]) (by rfl) ?_
    refine lv_if_eq (tgt := 40) hx hb d_Le_close_33 (by decide) (fun c33_24 => ?_) (fun c33_24 => ?_)
    · replace hf := gp_t c33_24 hf
      replace hf := gU hf ho21
      exact J40 X23 _ _ _ _ _ _ hf (lv_sub hl [0] rfl) (hC.mv Y) Y.rb
    · replace hf := gp_f c33_24 hf
      refine lv_aload_n hx hb d_Le_close_36 rfl (lv_at hl 0 rfl) ?_
      have hl : lv_has ls 2 [(0, Value.ref (b 0))] := lv_sub hl [0] rfl
      rcases gCvt_el hf with ⟨X25, hF25, hf⟩ | ⟨E25, X25, hF25, hf⟩
      rotate_left
      · replace hf := gU hf ho21
        cases hf
        refine gA_call (fr := 11) (lo := 261) (o1 := (gR.t E25, X25)) (ig := .invokevirtual 181) (av := [Value.ref (b 0)]) hC Y ⟨Nat.le_refl _, Nat.le_refl _⟩ (fun hc9 hs9 ws h hS hw => K_Le_renamePrepared l htr D tys z _ ws h hS t ht b X23 hw hc9 hs9 (gR.t E25, X25) hF25) (gx_invV (As := []) (rest := []) hx hb hown hts km_Le_181 kI_Le_renamePrepared kV_Le_renamePrepared kc_Le_renamePrepared (by decide) (show (parseMethodDescriptor y_Le_renamePrepared.desc).map (fun d => d.parameters.length) = some 0 by decide +kernel) (gy_recv (ci := 0) hK Y rfl gF_0) rfl rfl d_Le_close_37) (gx_cwA hts kc_Le_renamePrepared kN_Le ⟨Nat.le_of_ble_eq_true rfl, Nat.le_of_ble_eq_true rfl⟩) hb hml hz hK hY hAz hA hl.1 (lv_room (Nat.le_of_ble_eq_true rfl)) d_Le_close_37 (fun vz9 b H locs cells slots e9 hb9 hC Y => ?_) (fun xz9 Ez9 ce b H locs cells slots e9 hce hC Y => ?_)
        · have e9 : (Sum.inl vz9 : Option Value ⊕ String) = Sum.inr E25 := e9
          cases e9
        · have e9 : (Sum.inr Ez9 : Option Value ⊕ String) = Sum.inr E25 := e9
          cases e9
          exact gA_pass hne hlocks hce hK hC Y
      refine gA_call (fr := 11) (lo := 261) (o1 := (gR.v, X25)) (ig := .invokevirtual 181) (av := [Value.ref (b 0)]) hC Y ⟨Nat.le_refl _, Nat.le_refl _⟩ (fun hc9 hs9 ws h hS hw => K_Le_renamePrepared l htr D tys z _ ws h hS t ht b X23 hw hc9 hs9 (gR.v, X25) hF25) (gx_invV (As := []) (rest := []) hx hb hown hts km_Le_181 kI_Le_renamePrepared kV_Le_renamePrepared kc_Le_renamePrepared (by decide) (show (parseMethodDescriptor y_Le_renamePrepared.desc).map (fun d => d.parameters.length) = some 0 by decide +kernel) (gy_recv (ci := 0) hK Y rfl gF_0) rfl rfl d_Le_close_37) (gx_cwA hts kc_Le_renamePrepared kN_Le ⟨Nat.le_of_ble_eq_true rfl, Nat.le_of_ble_eq_true rfl⟩) hb hml hz hK hY hAz hA hl.1 (lv_room (Nat.le_of_ble_eq_true rfl)) d_Le_close_37 (fun vz9 b H locs cells slots e9 hb9 hC Y => ?_) (fun xz9 Ez9 ce b H locs cells slots e9 hce hC Y => ?_)
      rotate_left
      · have e9 : (Sum.inr Ez9 : Option Value ⊕ String) = Sum.inl none := e9
        cases e9
      have e9 : (Sum.inl vz9 : Option Value ⊕ String) = Sum.inl none := e9
      cases e9
      replace hl : lv_has ls 2 [(0, Value.ref (b 0))] := by rw [hb9 0 (gNm_s (by decide))]; exact hl
      refine W.eq (g2 := F0 m 40 ls []) (by rfl) ?_
      replace hf := gU hf ho21
      exact J40 X25 _ _ _ _ _ _ hf (lv_sub hl [0] rfl) (hC.mv Y) Y.rb
  · replace hf := gp_f c14_22 hf
    refine lv_aload_n hx hb d_Le_close_17 rfl (lv_at hl 1 rfl) ?_
    refine lv_iconst (v := 0) hx hb d_Le_close_18 (by decide) ?_
    refine lv_iconst (v := 1) hx hb d_Le_close_19 (by decide) ?_
    have hl : lv_has ls 2 [(1, Value.int i1_21), (0, Value.ref (b 0))] := lv_sub hl [0, 1] rfl
    obtain ⟨X26, hF26, hf⟩ := gCv_el hf
    refine gA_call (fr := 10) (lo := 241) (o1 := (gR.v, X26)) (ig := .invokevirtual 168) (av := [Value.ref (b 0), Value.int 0, Value.int 1]) hC Y ⟨Nat.le_refl _, Nat.le_refl _⟩ (fun hc9 hs9 ws h hS hw => K_Le_endMerge l htr D tys z _ ws h hS t ht b X21 hw 0 1 hc9 hs9 (gR.v, X26) hF26) (gx_invV (As := [Value.int 0, Value.int 1]) (rest := []) hx hb hown hts km_Le_168 kI_Le_endMerge kV_Le_endMerge kc_Le_endMerge (by decide) (show (parseMethodDescriptor y_Le_endMerge.desc).map (fun d => d.parameters.length) = some 2 by decide +kernel) (gy_recv (ci := 0) hK Y rfl gF_0) rfl rfl d_Le_close_20) (gx_cwA hts kc_Le_endMerge kN_Le ⟨Nat.le_of_ble_eq_true rfl, Nat.le_of_ble_eq_true rfl⟩) hb hml hz hK hY hAz hA hl.1 (lv_room (Nat.le_of_ble_eq_true rfl)) d_Le_close_20 (fun vz9 b H locs cells slots e9 hb9 hC Y => ?_) (fun xz9 Ez9 ce b H locs cells slots e9 hce hC Y => ?_)
    rotate_left
    · have e9 : (Sum.inr Ez9 : Option Value ⊕ String) = Sum.inl none := e9
      cases e9
    have e9 : (Sum.inl vz9 : Option Value ⊕ String) = Sum.inl none := e9
    cases e9
    replace hl : lv_has ls 2 [(1, Value.int i1_21), (0, Value.ref (b 0))] := by rw [hb9 0 (gNm_s (by decide))]; exact hl
    refine W.eq (g2 := F0 m 23 ls []) (by rfl) ?_
    refine lv_iinc (v := i1_21 + (-1)) (lv' := [(1, Value.int (i1_21 + (-1))), (0, Value.ref (b 0))]) hx hb d_Le_close_23 hl (k := 0) rfl (rfl) (by decide) rfl (fun ls hl => ?_)
    refine lv_goto (tgt := 13) hx hb d_Le_close_26 (by decide) ?_
    exact hk21 _ _ _ _ _ _ _ hf (lv_sub hl [0, 1] rfl) (hC.mv Y) Y.rb

def f_Le_crash (X0 : gX) : Option (gR × gX) := gCv (f_Le_losePower X0) (fun X1 => some (gR.v, X1))
set_option maxHeartbeats 4000000 in
set_option maxRecDepth 100000 in
theorem K_Le_crash (l : Launch) (htr : l.stackTraces = false) (D : va_G) (tys : List (ClassId × FieldType)) (z sz : Nat) (ws : va_W) (h : gm_M) (hM : gm_S h ws) (t : Nat → ClassId) (ht : gTy t tys) (b : Nat → Nat) (X0 : gX) (hw : gw D t b X0 h) (hc0 : X0.cc ≤ gCL) (hs0 : X0.ss ≤ gSL) (o : gR × gX) (hf : f_Le_crash X0 = some o) : gx_Met l y_Le_crash [Cond.code y_Le_crash b_Le_crash 1 none] { frames := 10, cells := gCL + 1 - X0.cc, slots := gSL + 6 - X0.ss, locals := 241 } (gx_P z sz D classes tys ws [Value.ref (b 0)]) (gx_Q D classes tys (va_A ws sz) (gPoA D t b X0 o)) (o.2.cc + gT o.1 - X0.cc) (o.2.ss + 6 * gT o.1 - X0.ss) (va_A ws sz) := by
  refine gx_ofW (cc := b_Le_crash) (maxL := 1) (ret := none) (by decide) rfl ?_
  intro p e s m args below meth c s₁ B hml hv
  obtain ⟨rfl, hsz, hz, hP, hK, hD0, hY⟩ := hv
  have hx := B.exec
  have hb := B.bytes
  have hr := B.returns
  have hts := hY.hts (#[Value.ref (b 0)] : Array Value)
  have hown : s.vm.findClass "CommitLedger" = some m.cls := findClass_of_methodNamed B.named
  have hlocks := B.notSynchronized
  subst hsz
  have hAz := gx_az hD0 hz
  have hD := hD0.self (sz := s.heap.size)
  have hA : ∀ q : Nat, s.heap.size ≤ q → va_A ws s.heap.size q := fun q h => Or.inr h
  generalize va_A ws s.heap.size = A at hD hA hAz ⊢
  have Y : gy D t b A s.heap X0 X0 s.heap [] := ⟨h, ⟨ws, hM, hP, hD, va_S.rf⟩, hw, gEq.rf⟩
  clear hP hD hM hD0 hw
  have hC : gC X0 b X0 b 0 0 := gC.rf hc0 hs0
  obtain ⟨ht0, ht1, ht2, ht3, ht4, ht5, ht6, ht7, ht8⟩ := id ht
  have hl := lv_entry ([Value.ref (b 0)]) (n := 1) (Nat.le_of_ble_eq_true rfl)
  rw [lg_entry_eq]
  generalize (lg_sl ([Value.ref (b 0)]) ++ List.replicate (1 - (lg_sl ([Value.ref (b 0)])).length) Slot.unset).toArray = ls at hl ⊢
  have hl : lv_has ls 1 [(0, Value.ref (b 0))] := hl
  unfold f_Le_crash at hf
  refine lv_aload_n hx hb d_Le_crash_0 rfl (lv_at hl 0 rfl) ?_
  have hl : lv_has ls 1 [] := lv_sub hl [] rfl
  obtain ⟨X2, hF2, hf⟩ := gCv_el hf
  refine gA_call (fr := 9) (lo := 220) (o1 := (gR.v, X2)) (ig := .invokevirtual 188) (av := [Value.ref (b 0)]) hC Y ⟨Nat.le_refl _, Nat.le_refl _⟩ (fun hc9 hs9 ws h hS hw => K_Le_losePower l htr D tys z _ ws h hS t ht b X0 hw hc9 hs9 (gR.v, X2) hF2) (gx_invV (As := []) (rest := []) hx hb hown hts km_Le_188 kI_Le_losePower kV_Le_losePower kc_Le_losePower (by decide) (show (parseMethodDescriptor y_Le_losePower.desc).map (fun d => d.parameters.length) = some 0 by decide +kernel) (gy_recv (ci := 0) hK Y rfl gF_0) rfl rfl d_Le_crash_1) (gx_cwA hts kc_Le_losePower kN_Le ⟨Nat.le_of_ble_eq_true rfl, Nat.le_of_ble_eq_true rfl⟩) hb hml hz hK hY hAz hA hl.1 (lv_room (Nat.le_of_ble_eq_true rfl)) d_Le_crash_1 (fun vz9 b H locs cells slots e9 hb9 hC Y => ?_) (fun xz9 Ez9 ce b H locs cells slots e9 hce hC Y => ?_)
  rotate_left
  · have e9 : (Sum.inr Ez9 : Option Value ⊕ String) = Sum.inl none := e9
    cases e9
  have e9 : (Sum.inl vz9 : Option Value ⊕ String) = Sum.inl none := e9
  cases e9
  replace hl : lv_has ls 1 [] := by exact hl
  refine W.eq (g2 := F0 m 4 ls []) (by rfl) ?_
  exact gA_vret hf hx hb hr hlocks hK hC Y d_Le_crash_4

def f_Le_reader_15 (X : gX) (i1 : Int32) : Option (gR × gX) := gCa (f_Le_closedReader X) (fun x3 X3 => (gO x3 (some (gR.t "java/lang/IndexOutOfBoundsException", X3)) (fun n4 => (if i1 = (1 : Int32) then (if gOk X3.N (some n4) then gCvt (f_Le_flushBuffer X3) (fun E X => some (gR.t E, X)) (fun X13 => (if gRea n4 then gCi (f_Le_openReader X13 n4 8) (fun x16 X16 => some (gR.i x16, X16)) else none)) else none) else (if (X3.I 0 15) = (0 : Int32) then some (gR.t "java/util/NoSuchElementException", X3) else gCi (f_Le_commitIsCorrupt X3) (fun x7 X7 => (if x7 = (0 : Int32) then (if gRea n4 then gM (X7.G 0 5) (fun n10 => (if gVie n10 then gCi (f_Le_openReader X7 n4 n10) (fun x12 X12 => some (gR.i x12, X12)) else none)) else none) else some (gR.t "java/lang/UnsupportedOperationException", X7))))))))
def f_Le_reader (X0 : gX) (a1 : Int32) : Option (gR × gX) := gCvt (f_Le_requireRange X0 a1 0 1) (fun E X => some (gR.t E, X)) (fun X1 => (if a1 = (1 : Int32) then gCvt (f_Le_requireWriter X1) (fun E X => some (gR.t E, X)) (fun X17 => f_Le_reader_15 X17 a1) else f_Le_reader_15 X1 a1))
set_option maxHeartbeats 4000000 in
set_option maxRecDepth 100000 in
theorem K_Le_reader (l : Launch) (htr : l.stackTraces = false) (D : va_G) (tys : List (ClassId × FieldType)) (z sz : Nat) (ws : va_W) (h : gm_M) (hM : gm_S h ws) (t : Nat → ClassId) (ht : gTy t tys) (b : Nat → Nat) (X0 : gX) (hw : gw D t b X0 h) (a1 : Int32) (hc0 : X0.cc ≤ gCL) (hs0 : X0.ss ≤ gSL) (o : gR × gX) (hf : f_Le_reader X0 a1 = some o) : gx_Met l y_Le_reader [Cond.code y_Le_reader b_Le_reader 3 (some .int)] { frames := 12, cells := gCL + 1 - X0.cc, slots := gSL + 6 - X0.ss, locals := 282 } (gx_P z sz D classes tys ws [Value.ref (b 0), Value.int a1]) (gx_Q D classes tys (va_A ws sz) (gPoA D t b X0 o)) (o.2.cc + gT o.1 - X0.cc) (o.2.ss + 6 * gT o.1 - X0.ss) (va_A ws sz) := by
  refine gx_ofW (cc := b_Le_reader) (maxL := 3) (ret := (some .int)) (by decide) rfl ?_
  intro p e s m args below meth c s₁ B hml hv
  obtain ⟨rfl, hsz, hz, hP, hK, hD0, hY⟩ := hv
  have hx := B.exec
  have hb := B.bytes
  have hr := B.returns
  have hts := hY.hts (#[Value.ref (b 0), Value.int a1] : Array Value)
  have hown : s.vm.findClass "CommitLedger" = some m.cls := findClass_of_methodNamed B.named
  have hlocks := B.notSynchronized
  have hne : c.exceptionTable.isEmpty = true := B.noHandlers (atoms_spec (ws := [Cond.code y_Le_reader b_Le_reader 3 (some .int)]) B.pre _ List.mem_cons_self)
  have hN := gx_ns hP
  subst hsz
  have hAz := gx_az hD0 hz
  have hD := hD0.self (sz := s.heap.size)
  have hA : ∀ q : Nat, s.heap.size ≤ q → va_A ws s.heap.size q := fun q h => Or.inr h
  generalize va_A ws s.heap.size = A at hD hA hAz hN ⊢
  have Y : gy D t b A s.heap X0 X0 s.heap [] := ⟨h, ⟨ws, hM, hP, hD, va_S.rf⟩, hw, gEq.rf⟩
  clear hP hD hM hD0 hw
  have hC : gC X0 b X0 b 0 0 := gC.rf hc0 hs0
  obtain ⟨ht0, ht1, ht2, ht3, ht4, ht5, ht6, ht7, ht8⟩ := id ht
  have hl := lv_entry ([Value.ref (b 0), Value.int a1]) (n := 3) (Nat.le_of_ble_eq_true rfl)
  rw [lg_entry_eq]
  generalize (lg_sl ([Value.ref (b 0), Value.int a1]) ++ List.replicate (3 - (lg_sl ([Value.ref (b 0), Value.int a1])).length) Slot.unset).toArray = ls at hl ⊢
  have hl : lv_has ls 3 [(0, Value.ref (b 0)), (1, Value.int a1)] := hl
  refine gA_cut (pcJ := 15) hC Y (fun s : gX => f_Le_reader_15 s a1) o (fun s => s) (fun s b ls => lv_has ls 3 [(0, Value.ref (b 0)), (1, Value.int a1)]) (fun s b => []) ?_ (fun J15 => ?_)
  · rintro X18 b H locs ls cells slots hf hl hC Y
    have hl : lv_has ls 3 [(0, Value.ref (b 0)), (1, Value.int a1)] := hl
    have hC : gC X0 _ X18 b cells slots := hC
    have Y : gy D t b A s.heap X18 X18 H locs := Y
    have hf : f_Le_reader_15 X18 a1 = some o := hf
    unfold f_Le_reader_15 at hf
    refine lv_aload_n hx hb d_Le_reader_15 rfl (lv_at hl 0 rfl) ?_
    obtain ⟨x19, X19, hF19, hf⟩ := gCa_el hf
    refine gy_callA (rm := { frames := 1, cells := 0, slots := 0, locals := 12 }) (ig := .invokevirtual 214) (av := [Value.ref (b 0)]) Y (fun ws h hS hw => K_Le_closedReader l htr D tys z _ ws h hS t ht b X18 hw (gR.a x19, X19) hF19) (gx_invV (As := []) (rest := []) hx hb hown hts km_Le_214 kI_Le_closedReader kV_Le_closedReader kc_Le_closedReader (by decide) (show (parseMethodDescriptor y_Le_closedReader.desc).map (fun d => d.parameters.length) = some 0 by decide +kernel) (gy_recv (ci := 0) hK Y rfl gF_0) rfl rfl d_Le_reader_16) (gx_cw (z := 0) hts kc_Le_closedReader kN_Le rfl rfl ⟨Nat.le_of_ble_eq_true rfl, Nat.le_of_ble_eq_true rfl⟩) hb hml hz hK hY hAz hA hl.1 (lv_room (Nat.le_of_ble_eq_true rfl)) d_Le_reader_16 ⟨hC.rc0 (Nat.le_refl _), hC.rs0 (Nat.le_refl _)⟩ (fun H locs Y => ?_)
    refine lv_astore_nO (lv' := [(2, va_rf (Option.map b x19)), (0, Value.ref (b 0)), (1, Value.int a1)]) hx hb d_Le_reader_19 rfl hl (by decide) rfl (fun ls hl => ?_)
    refine lv_aload_nO hx hb d_Le_reader_20 rfl (lv_at hl 0 rfl) ?_
    rcases gO_el hf with ⟨e20, hf⟩ | ⟨n20, e20, hf⟩
    · refine W.eq (g2 := F0 m 21 ls [Value.null]) (by rw [e20] <;> rfl) ?_
      replace hl : lv_has ls 3 [(2, Value.null), (0, Value.ref (b 0)), (1, Value.int a1)] := by rw [e20] at hl; exact hl
      refine lv_ifnonnullN hx hb d_Le_reader_21 ?_
      cases hf
      exact gA_thr (i1 := 7) (b1 := prog_17_method_2_code) hx hb htr (hml.trans hl.1.symm) hown hts hne hlocks hK hC Y ⟨Nat.le_refl _, Nat.le_refl _⟩ hA hN kk_Le_115 kX_IndexOutOfBoundsException kN_IndexOutOfBoundsException ks_Le_218 kT_Le_119 (by decide) (by decide +kernel) (by decide +kernel) (by decide +kernel) (by decide +kernel) d_Le_reader_24 d_Le_reader_27 d_Le_reader_28 d_Le_reader_30 d_Le_reader_33 (Nat.le_of_ble_eq_true rfl) (Nat.le_of_ble_eq_true rfl)
    · refine W.eq (g2 := F0 m 21 ls [Value.ref (b n20)]) (by rw [e20] <;> rfl) ?_
      replace hl : lv_has ls 3 [(2, Value.ref (b n20)), (0, Value.ref (b 0)), (1, Value.int a1)] := by rw [e20] at hl; exact hl
      refine lv_ifnonnull (tgt := 34) hx hb d_Le_reader_21 (by decide) ?_
      refine lv_iload_n hx hb d_Le_reader_34 rfl (lv_at hl 2 rfl) ?_
      refine lv_iconst (v := 1) hx hb d_Le_reader_35 (by decide) ?_
      refine lv_icmp_ne (tgt := 53) hx hb d_Le_reader_36 (by decide) (fun c36_21 => ?_) (fun c36_21 => ?_)
      · replace hf := gp_f c36_21 hf
        refine lv_aload_n hx hb d_Le_reader_53 rfl (lv_at hl 1 rfl) ?_
        refine gy_get (ci := 0) (v := Value.int (X19.I 0 15)) (C := "CommitLedger") (T := F_Le) (N := 18) hx hb hts i_Le hown hK Y gF_0 rfl 15 (by decide) kf_Le_84 rfl d_Le_reader_54 ?_
        refine lv_if_ne (tgt := 70) hx hb d_Le_reader_57 (by decide) (fun c57_22 => ?_) (fun c57_22 => ?_)
        · replace hf := gp_f c57_22 hf
          refine lv_aload_n hx hb d_Le_reader_70 rfl (lv_at hl 1 rfl) ?_
          obtain ⟨x23, X23, hF23, hf⟩ := gCi_el hf
          refine gy_callI (rm := { frames := 2, cells := 0, slots := 0, locals := 33 }) (ig := .invokevirtual 75) (av := [Value.ref (b 0)]) Y (fun ws h hS hw => K_Le_commitIsCorrupt l htr D tys z _ ws h hS t ht b X19 hw (gR.i x23, X23) hF23) (gx_invV (As := []) (rest := []) hx hb hown hts km_Le_75 kI_Le_commitIsCorrupt kV_Le_commitIsCorrupt kc_Le_commitIsCorrupt (by decide) (show (parseMethodDescriptor y_Le_commitIsCorrupt.desc).map (fun d => d.parameters.length) = some 0 by decide +kernel) (gy_recv (ci := 0) hK Y rfl gF_0) rfl rfl d_Le_reader_71) (gx_cw (z := 0) hts kc_Le_commitIsCorrupt kN_Le rfl rfl ⟨Nat.le_of_ble_eq_true rfl, Nat.le_of_ble_eq_true rfl⟩) hb hml hz hK hY hAz hA hl.1 (lv_room (Nat.le_of_ble_eq_true rfl)) d_Le_reader_71 ⟨hC.rc0 (Nat.le_refl _), hC.rs0 (Nat.le_refl _)⟩ (fun H locs Y => ?_)
          refine lv_if_eq (tgt := 87) hx hb d_Le_reader_74 (by decide) (fun c74_24 => ?_) (fun c74_24 => ?_)
          · replace hf := gp_t c74_24 hf
            refine lv_aload_n hx hb d_Le_reader_87 rfl (lv_at hl 1 rfl) ?_
            refine lv_aload_n hx hb d_Le_reader_88 rfl (lv_at hl 0 rfl) ?_
            refine lv_aload_n hx hb d_Le_reader_89 rfl (lv_at hl 1 rfl) ?_
            refine gy_get (ci := 0) (v := va_rf (Option.map b (X23.G 0 5))) (C := "CommitLedger") (T := F_Le) (N := 18) hx hb hts i_Le hown hK Y gF_0 rfl 5 (by decide) kf_Le_30 rfl d_Le_reader_90 ?_
            obtain ⟨hv25, hf⟩ := gp_g hf
            obtain ⟨n26, e26, hf⟩ := gM_el hf
            refine W.eq (g2 := F0 m 93 ls [Value.ref (b n26), Value.ref (b n20), Value.ref (b 0)]) (by rw [e26] <;> rfl) ?_
            obtain ⟨hv27, hf⟩ := gp_g hf
            obtain ⟨x28, X28, hF28, hf⟩ := gCi_el hf
            refine gy_callI (rm := { frames := 2, cells := 0, slots := 0, locals := 34 }) (ig := .invokevirtual 220) (av := [Value.ref (b 0), Value.ref (b n20), Value.ref (b n26)]) Y (fun ws h hS hw => K_Le_openReader l htr D tys z _ ws h hS t ht b X23 hw n20 hv25 n26 hv27 (gR.i x28, X28) hF28) (gx_invV (As := [Value.ref (b n20), Value.ref (b n26)]) (rest := []) hx hb hown hts km_Le_220 kI_Le_openReader kV_Le_openReader kc_Le_openReader (by decide) (show (parseMethodDescriptor y_Le_openReader.desc).map (fun d => d.parameters.length) = some 2 by decide +kernel) (gy_recv (ci := 0) hK Y rfl gF_0) rfl rfl d_Le_reader_93) (gx_cw (z := 0) hts kc_Le_openReader kN_Le rfl rfl ⟨Nat.le_of_ble_eq_true rfl, Nat.le_of_ble_eq_true rfl⟩) hb hml hz hK hY hAz hA hl.1 (lv_room (Nat.le_of_ble_eq_true rfl)) d_Le_reader_93 ⟨hC.rc0 (Nat.le_refl _), hC.rs0 (Nat.le_refl _)⟩ (fun H locs Y => ?_)
            exact gA_iret hf hx hb hr hlocks hK hC Y d_Le_reader_96
          · replace hf := gp_f c74_24 hf
            cases hf
            exact gA_thr (i1 := 7) (b1 := prog_24_method_2_code) hx hb htr (hml.trans hl.1.symm) hown hts hne hlocks hK hC Y ⟨Nat.le_refl _, Nat.le_refl _⟩ hA hN kk_Le_79 kX_UnsupportedOperationException kN_UnsupportedOperationException ks_Le_81 kT_Le_83 (by decide) (by decide +kernel) (by decide +kernel) (by decide +kernel) (by decide +kernel) d_Le_reader_77 d_Le_reader_80 d_Le_reader_81 d_Le_reader_83 d_Le_reader_86 (Nat.le_of_ble_eq_true rfl) (Nat.le_of_ble_eq_true rfl)
        · replace hf := gp_t c57_22 hf
          cases hf
          exact gA_thr (i1 := 13) (b1 := prog_31_method_4_code) hx hb htr (hml.trans hl.1.symm) hown hts hne hlocks hK hC Y ⟨Nat.le_refl _, Nat.le_refl _⟩ hA hN kk_Le_150 kX_NoSuchElementException kN_NoSuchElementException ks_Le_224 kT_Le_154 (by decide) (by decide +kernel) (by decide +kernel) (by decide +kernel) (by decide +kernel) d_Le_reader_60 d_Le_reader_63 d_Le_reader_64 d_Le_reader_66 d_Le_reader_69 (Nat.le_of_ble_eq_true rfl) (Nat.le_of_ble_eq_true rfl)
      · replace hf := gp_t c36_21 hf
        refine lv_aload_n hx hb d_Le_reader_39 rfl (lv_at hl 1 rfl) ?_
        have hl : lv_has ls 3 [(2, Value.ref (b n20)), (0, Value.ref (b 0))] := lv_sub hl [0, 1] rfl
        obtain ⟨hg30, hf⟩ := gp_g hf
        rcases gCvt_el hf with ⟨X29, hF29, hf⟩ | ⟨E29, X29, hF29, hf⟩
        rotate_left
        · cases hf
          refine gA_call (fr := 11) (lo := 261) (o1 := (gR.t E29, X29)) (ig := .invokevirtual 128) (av := [Value.ref (b 0)]) hC Y ⟨Nat.le_refl _, Nat.le_refl _⟩ (fun hc9 hs9 ws h hS hw => K_Le_flushBuffer l htr D tys z _ ws h hS t ht b X19 hw hc9 hs9 (gR.t E29, X29) hF29) (gx_invV (As := []) (rest := []) hx hb hown hts km_Le_128 kI_Le_flushBuffer kV_Le_flushBuffer kc_Le_flushBuffer (by decide) (show (parseMethodDescriptor y_Le_flushBuffer.desc).map (fun d => d.parameters.length) = some 0 by decide +kernel) (gy_recv (ci := 0) hK Y rfl gF_0) rfl rfl d_Le_reader_40) (gx_cwA hts kc_Le_flushBuffer kN_Le ⟨Nat.le_of_ble_eq_true rfl, Nat.le_of_ble_eq_true rfl⟩) hb hml hz hK hY hAz hA hl.1 (lv_room (Nat.le_of_ble_eq_true rfl)) d_Le_reader_40 (fun vz9 b H locs cells slots e9 hb9 hC Y => ?_) (fun xz9 Ez9 ce b H locs cells slots e9 hce hC Y => ?_)
          · have e9 : (Sum.inl vz9 : Option Value ⊕ String) = Sum.inr E29 := e9
            cases e9
          · have e9 : (Sum.inr Ez9 : Option Value ⊕ String) = Sum.inr E29 := e9
            cases e9
            exact gA_pass hne hlocks hce hK hC Y
        refine gA_call (fr := 11) (lo := 261) (o1 := (gR.v, X29)) (ig := .invokevirtual 128) (av := [Value.ref (b 0)]) hC Y ⟨Nat.le_refl _, Nat.le_refl _⟩ (fun hc9 hs9 ws h hS hw => K_Le_flushBuffer l htr D tys z _ ws h hS t ht b X19 hw hc9 hs9 (gR.v, X29) hF29) (gx_invV (As := []) (rest := []) hx hb hown hts km_Le_128 kI_Le_flushBuffer kV_Le_flushBuffer kc_Le_flushBuffer (by decide) (show (parseMethodDescriptor y_Le_flushBuffer.desc).map (fun d => d.parameters.length) = some 0 by decide +kernel) (gy_recv (ci := 0) hK Y rfl gF_0) rfl rfl d_Le_reader_40) (gx_cwA hts kc_Le_flushBuffer kN_Le ⟨Nat.le_of_ble_eq_true rfl, Nat.le_of_ble_eq_true rfl⟩) hb hml hz hK hY hAz hA hl.1 (lv_room (Nat.le_of_ble_eq_true rfl)) d_Le_reader_40 (fun vz9 b H locs cells slots e9 hb9 hC Y => ?_) (fun xz9 Ez9 ce b H locs cells slots e9 hce hC Y => ?_)
        rotate_left
        · have e9 : (Sum.inr Ez9 : Option Value ⊕ String) = Sum.inl none := e9
          cases e9
        have e9 : (Sum.inl vz9 : Option Value ⊕ String) = Sum.inl none := e9
        cases e9
        replace hl : lv_has ls 3 [(2, Value.ref (b n20)), (0, Value.ref (b 0))] := by rw [hb9 n20 (gOk.of hg30 _ rfl)]; rw [hb9 0 (gNm_s (by decide))]; exact hl
        refine W.eq (g2 := F0 m 43 ls []) (by rfl) ?_
        refine lv_aload_n hx hb d_Le_reader_43 rfl (lv_at hl 1 rfl) ?_
        refine lv_aload_n hx hb d_Le_reader_44 rfl (lv_at hl 0 rfl) ?_
        refine lv_aload_n hx hb d_Le_reader_45 rfl (lv_at hl 1 rfl) ?_
        refine gy_get (ci := 0) (v := Value.ref (b 8)) (C := "CommitLedger") (T := F_Le) (N := 18) hx hb hts i_Le hown hK Y gF_0 rfl 2 (by decide) kf_Le_26 rfl d_Le_reader_46 ?_
        obtain ⟨hv31, hf⟩ := gp_g hf
        obtain ⟨x32, X32, hF32, hf⟩ := gCi_el hf
        refine gy_callI (rm := { frames := 2, cells := 0, slots := 0, locals := 34 }) (ig := .invokevirtual 220) (av := [Value.ref (b 0), Value.ref (b n20), Value.ref (b 8)]) Y (fun ws h hS hw => K_Le_openReader l htr D tys z _ ws h hS t ht b X29 hw n20 hv31 8 (by decide) (gR.i x32, X32) hF32) (gx_invV (As := [Value.ref (b n20), Value.ref (b 8)]) (rest := []) hx hb hown hts km_Le_220 kI_Le_openReader kV_Le_openReader kc_Le_openReader (by decide) (show (parseMethodDescriptor y_Le_openReader.desc).map (fun d => d.parameters.length) = some 2 by decide +kernel) (gy_recv (ci := 0) hK Y rfl gF_0) rfl rfl d_Le_reader_49) (gx_cw (z := 0) hts kc_Le_openReader kN_Le rfl rfl ⟨Nat.le_of_ble_eq_true rfl, Nat.le_of_ble_eq_true rfl⟩) hb hml hz hK hY hAz hA hl.1 (lv_room (Nat.le_of_ble_eq_true rfl)) d_Le_reader_49 ⟨hC.rc0 (Nat.le_refl _), hC.rs0 (Nat.le_refl _)⟩ (fun H locs Y => ?_)
        exact gA_iret hf hx hb hr hlocks hK hC Y d_Le_reader_52
  unfold f_Le_reader at hf
  refine lv_iload_n hx hb d_Le_reader_0 rfl (lv_at hl 1 rfl) ?_
  refine lv_iconst (v := 0) hx hb d_Le_reader_1 (by decide) ?_
  refine lv_iconst (v := 1) hx hb d_Le_reader_2 (by decide) ?_
  rcases gCvt_el hf with ⟨X33, hF33, hf⟩ | ⟨E33, X33, hF33, hf⟩
  rotate_left
  · cases hf
    refine gy_callT (rm := { frames := 6, cells := 1, slots := 6, locals := 82 }) (ig := .invokestatic 60) (av := [Value.int a1, Value.int 0, Value.int 1]) Y (fun ws h hS hw => K_Le_requireRange l htr D tys z _ ws h hS t ht b X0 hw a1 0 1 (gR.t E33, X33) hF33) (gx_invS (As := [Value.int a1, Value.int 0, Value.int 1]) (rest := []) hx hb hown hts km_Le_60 kS_Le_requireRange kN_Le kc_Le_requireRange (by decide) (show (parseMethodDescriptor y_Le_requireRange.desc).map (fun d => d.parameters.length) = some 3 by decide +kernel) rfl rfl d_Le_reader_3) (gx_cw (z := 0) hts kc_Le_requireRange kN_Le rfl rfl ⟨Nat.le_of_ble_eq_true rfl, Nat.le_of_ble_eq_true rfl⟩) hb hml hz hK hY hAz hA hl.1 (lv_room (Nat.le_of_ble_eq_true rfl)) d_Le_reader_3 ⟨hC.rc (Nat.le_refl _), hC.rs (Nat.le_refl _)⟩ (fun xz9 ce H1 L9 hce Y => gA_pass hne hlocks hce hK hC Y)
  refine gy_callV (rm := { frames := 6, cells := 0, slots := 0, locals := 82 }) (ig := .invokestatic 60) (av := [Value.int a1, Value.int 0, Value.int 1]) Y (fun ws h hS hw => K_Le_requireRange l htr D tys z _ ws h hS t ht b X0 hw a1 0 1 (gR.v, X33) hF33) (gx_invS (As := [Value.int a1, Value.int 0, Value.int 1]) (rest := []) hx hb hown hts km_Le_60 kS_Le_requireRange kN_Le kc_Le_requireRange (by decide) (show (parseMethodDescriptor y_Le_requireRange.desc).map (fun d => d.parameters.length) = some 3 by decide +kernel) rfl rfl d_Le_reader_3) (gx_cw (z := 0) hts kc_Le_requireRange kN_Le rfl rfl ⟨Nat.le_of_ble_eq_true rfl, Nat.le_of_ble_eq_true rfl⟩) hb hml hz hK hY hAz hA hl.1 (lv_room (Nat.le_of_ble_eq_true rfl)) d_Le_reader_3 ⟨hC.rc0 (Nat.le_refl _), hC.rs0 (Nat.le_refl _)⟩ (fun H locs Y => ?_)
  refine lv_iload_n hx hb d_Le_reader_6 rfl (lv_at hl 1 rfl) ?_
  refine lv_iconst (v := 1) hx hb d_Le_reader_7 (by decide) ?_
  refine lv_icmp_ne (tgt := 15) hx hb d_Le_reader_8 (by decide) (fun c8_34 => ?_) (fun c8_34 => ?_)
  · replace hf := gp_f c8_34 hf
    exact J15 X33 _ _ _ _ _ _ hf (lv_sub hl [0, 1] rfl) (hC.mv Y) Y.rb
  · replace hf := gp_t c8_34 hf
    refine lv_aload_n hx hb d_Le_reader_11 rfl (lv_at hl 0 rfl) ?_
    rcases gCvt_el hf with ⟨X35, hF35, hf⟩ | ⟨E35, X35, hF35, hf⟩
    rotate_left
    · cases hf
      refine gy_callT (rm := { frames := 6, cells := 1, slots := 6, locals := 82 }) (ig := .invokevirtual 112) (av := [Value.ref (b 0)]) Y (fun ws h hS hw => K_Le_requireWriter l htr D tys z _ ws h hS t ht b X33 hw (gR.t E35, X35) hF35) (gx_invV (As := []) (rest := []) hx hb hown hts km_Le_112 kI_Le_requireWriter kV_Le_requireWriter kc_Le_requireWriter (by decide) (show (parseMethodDescriptor y_Le_requireWriter.desc).map (fun d => d.parameters.length) = some 0 by decide +kernel) (gy_recv (ci := 0) hK Y rfl gF_0) rfl rfl d_Le_reader_12) (gx_cw (z := 0) hts kc_Le_requireWriter kN_Le rfl rfl ⟨Nat.le_of_ble_eq_true rfl, Nat.le_of_ble_eq_true rfl⟩) hb hml hz hK hY hAz hA hl.1 (lv_room (Nat.le_of_ble_eq_true rfl)) d_Le_reader_12 ⟨hC.rc (Nat.le_refl _), hC.rs (Nat.le_refl _)⟩ (fun xz9 ce H1 L9 hce Y => gA_pass hne hlocks hce hK hC Y)
    refine gy_callV (rm := { frames := 6, cells := 0, slots := 0, locals := 82 }) (ig := .invokevirtual 112) (av := [Value.ref (b 0)]) Y (fun ws h hS hw => K_Le_requireWriter l htr D tys z _ ws h hS t ht b X33 hw (gR.v, X35) hF35) (gx_invV (As := []) (rest := []) hx hb hown hts km_Le_112 kI_Le_requireWriter kV_Le_requireWriter kc_Le_requireWriter (by decide) (show (parseMethodDescriptor y_Le_requireWriter.desc).map (fun d => d.parameters.length) = some 0 by decide +kernel) (gy_recv (ci := 0) hK Y rfl gF_0) rfl rfl d_Le_reader_12) (gx_cw (z := 0) hts kc_Le_requireWriter kN_Le rfl rfl ⟨Nat.le_of_ble_eq_true rfl, Nat.le_of_ble_eq_true rfl⟩) hb hml hz hK hY hAz hA hl.1 (lv_room (Nat.le_of_ble_eq_true rfl)) d_Le_reader_12 ⟨hC.rc0 (Nat.le_refl _), hC.rs0 (Nat.le_refl _)⟩ (fun H locs Y => ?_)
    exact J15 X35 _ _ _ _ _ _ hf (lv_sub hl [0, 1] rfl) (hC.mv Y) Y.rb

def f_Le_release (X0 : gX) (a1 : Int32) : Option (gR × gX) := gCat (f_Le_requireReader X0 a1) (fun E X => some (gR.t E, X)) (fun x1 X1 => gM x1 (fun n2 => (if gRea n2 then gB (X1.w n2 2 0) (fun X4 => gCv (f_Le_dropUnneededFiles X4) (fun X5 => some (gR.v, X5))) else none)))
set_option maxHeartbeats 4000000 in
set_option maxRecDepth 100000 in
theorem K_Le_release (l : Launch) (htr : l.stackTraces = false) (D : va_G) (tys : List (ClassId × FieldType)) (z sz : Nat) (ws : va_W) (h : gm_M) (hM : gm_S h ws) (t : Nat → ClassId) (ht : gTy t tys) (b : Nat → Nat) (X0 : gX) (hw : gw D t b X0 h) (a1 : Int32) (hc0 : X0.cc ≤ gCL) (hs0 : X0.ss ≤ gSL) (o : gR × gX) (hf : f_Le_release X0 a1 = some o) : gx_Met l y_Le_release [Cond.code y_Le_release b_Le_release 2 none] { frames := 10, cells := gCL + 1 - X0.cc, slots := gSL + 6 - X0.ss, locals := 241 } (gx_P z sz D classes tys ws [Value.ref (b 0), Value.int a1]) (gx_Q D classes tys (va_A ws sz) (gPoA D t b X0 o)) (o.2.cc + gT o.1 - X0.cc) (o.2.ss + 6 * gT o.1 - X0.ss) (va_A ws sz) := by
  refine gx_ofW (cc := b_Le_release) (maxL := 2) (ret := none) (by decide) rfl ?_
  intro p e s m args below meth c s₁ B hml hv
  obtain ⟨rfl, hsz, hz, hP, hK, hD0, hY⟩ := hv
  have hx := B.exec
  have hb := B.bytes
  have hr := B.returns
  have hts := hY.hts (#[Value.ref (b 0), Value.int a1] : Array Value)
  have hown : s.vm.findClass "CommitLedger" = some m.cls := findClass_of_methodNamed B.named
  have hlocks := B.notSynchronized
  have hne : c.exceptionTable.isEmpty = true := B.noHandlers (atoms_spec (ws := [Cond.code y_Le_release b_Le_release 2 none]) B.pre _ List.mem_cons_self)
  have hN := gx_ns hP
  subst hsz
  have hAz := gx_az hD0 hz
  have hD := hD0.self (sz := s.heap.size)
  have hA : ∀ q : Nat, s.heap.size ≤ q → va_A ws s.heap.size q := fun q h => Or.inr h
  generalize va_A ws s.heap.size = A at hD hA hAz hN ⊢
  have Y : gy D t b A s.heap X0 X0 s.heap [] := ⟨h, ⟨ws, hM, hP, hD, va_S.rf⟩, hw, gEq.rf⟩
  clear hP hD hM hD0 hw
  have hC : gC X0 b X0 b 0 0 := gC.rf hc0 hs0
  obtain ⟨ht0, ht1, ht2, ht3, ht4, ht5, ht6, ht7, ht8⟩ := id ht
  have hl := lv_entry ([Value.ref (b 0), Value.int a1]) (n := 2) (Nat.le_of_ble_eq_true rfl)
  rw [lg_entry_eq]
  generalize (lg_sl ([Value.ref (b 0), Value.int a1]) ++ List.replicate (2 - (lg_sl ([Value.ref (b 0), Value.int a1])).length) Slot.unset).toArray = ls at hl ⊢
  have hl : lv_has ls 2 [(0, Value.ref (b 0)), (1, Value.int a1)] := hl
  unfold f_Le_release at hf
  refine lv_aload_n hx hb d_Le_release_0 rfl (lv_at hl 0 rfl) ?_
  refine lv_iload_n hx hb d_Le_release_1 rfl (lv_at hl 1 rfl) ?_
  rcases gCat_el hf with ⟨x6, X6, hF6, hf⟩ | ⟨E6, X6, hF6, hf⟩
  rotate_left
  · cases hf
    refine gy_callT (rm := { frames := 6, cells := 1, slots := 6, locals := 82 }) (ig := .invokevirtual 226) (av := [Value.ref (b 0), Value.int a1]) Y (fun ws h hS hw => K_Le_requireReader l htr D tys z _ ws h hS t ht b X0 hw a1 (gR.t E6, X6) hF6) (gx_invV (As := [Value.int a1]) (rest := []) hx hb hown hts km_Le_226 kI_Le_requireReader kV_Le_requireReader kc_Le_requireReader (by decide) (show (parseMethodDescriptor y_Le_requireReader.desc).map (fun d => d.parameters.length) = some 1 by decide +kernel) (gy_recv (ci := 0) hK Y rfl gF_0) rfl rfl d_Le_release_2) (gx_cw (z := 0) hts kc_Le_requireReader kN_Le rfl rfl ⟨Nat.le_of_ble_eq_true rfl, Nat.le_of_ble_eq_true rfl⟩) hb hml hz hK hY hAz hA hl.1 (lv_room (Nat.le_of_ble_eq_true rfl)) d_Le_release_2 ⟨hC.rc (Nat.le_refl _), hC.rs (Nat.le_refl _)⟩ (fun xz9 ce H1 L9 hce Y => gA_pass hne hlocks hce hK hC Y)
  refine gy_callA (rm := { frames := 6, cells := 0, slots := 0, locals := 82 }) (ig := .invokevirtual 226) (av := [Value.ref (b 0), Value.int a1]) Y (fun ws h hS hw => K_Le_requireReader l htr D tys z _ ws h hS t ht b X0 hw a1 (gR.a x6, X6) hF6) (gx_invV (As := [Value.int a1]) (rest := []) hx hb hown hts km_Le_226 kI_Le_requireReader kV_Le_requireReader kc_Le_requireReader (by decide) (show (parseMethodDescriptor y_Le_requireReader.desc).map (fun d => d.parameters.length) = some 1 by decide +kernel) (gy_recv (ci := 0) hK Y rfl gF_0) rfl rfl d_Le_release_2) (gx_cw (z := 0) hts kc_Le_requireReader kN_Le rfl rfl ⟨Nat.le_of_ble_eq_true rfl, Nat.le_of_ble_eq_true rfl⟩) hb hml hz hK hY hAz hA hl.1 (lv_room (Nat.le_of_ble_eq_true rfl)) d_Le_release_2 ⟨hC.rc0 (Nat.le_refl _), hC.rs0 (Nat.le_refl _)⟩ (fun H locs Y => ?_)
  refine lv_iconst (v := 0) hx hb d_Le_release_5 (by decide) ?_
  obtain ⟨n7, e7, hf⟩ := gM_el hf
  refine W.eq (g2 := F0 m 6 ls [Value.int 0, Value.ref (b n7)]) (by rw [e7] <;> rfl) ?_
  obtain ⟨hv8, hf⟩ := gp_g hf
  refine gy_put hf (ci := 6) (ty := .boolean) (C := "CommitLedger$Reader") (T := F_Re) (N := 3) hx hb hts i_Re t_Re_ok n_Re hown hK Y (gF_Re hv8) rfl (by decide) kf_Le_230 rfl (by decide +kernel) rfl rfl (Nat.le_of_ble_eq_true rfl) (gF_Re hv8) d_Le_release_6 (fun X9 H locs hf Y => ?_)
  refine lv_aload_n hx hb d_Le_release_9 rfl (lv_at hl 0 rfl) ?_
  have hl : lv_has ls 2 [] := lv_sub hl [] rfl
  obtain ⟨X10, hF10, hf⟩ := gCv_el hf
  refine gA_call (fr := 9) (lo := 220) (o1 := (gR.v, X10)) (ig := .invokevirtual 106) (av := [Value.ref (b 0)]) hC Y ⟨Nat.le_refl _, Nat.le_refl _⟩ (fun hc9 hs9 ws h hS hw => K_Le_dropUnneededFiles l htr D tys z _ ws h hS t ht b X9 hw hc9 hs9 (gR.v, X10) hF10) (gx_invV (As := []) (rest := []) hx hb hown hts km_Le_106 kI_Le_dropUnneededFiles kV_Le_dropUnneededFiles kc_Le_dropUnneededFiles (by decide) (show (parseMethodDescriptor y_Le_dropUnneededFiles.desc).map (fun d => d.parameters.length) = some 0 by decide +kernel) (gy_recv (ci := 0) hK Y rfl gF_0) rfl rfl d_Le_release_10) (gx_cwA hts kc_Le_dropUnneededFiles kN_Le ⟨Nat.le_of_ble_eq_true rfl, Nat.le_of_ble_eq_true rfl⟩) hb hml hz hK hY hAz hA hl.1 (lv_room (Nat.le_of_ble_eq_true rfl)) d_Le_release_10 (fun vz9 b H locs cells slots e9 hb9 hC Y => ?_) (fun xz9 Ez9 ce b H locs cells slots e9 hce hC Y => ?_)
  rotate_left
  · have e9 : (Sum.inr Ez9 : Option Value ⊕ String) = Sum.inl none := e9
    cases e9
  have e9 : (Sum.inl vz9 : Option Value ⊕ String) = Sum.inl none := e9
  cases e9
  replace hl : lv_has ls 2 [] := by exact hl
  refine W.eq (g2 := F0 m 13 ls []) (by rfl) ?_
  exact gA_vret hf hx hb hr hlocks hK hC Y d_Le_release_13
