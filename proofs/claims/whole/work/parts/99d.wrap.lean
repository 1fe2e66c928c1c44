/-! THE THIRD LAYER, the law's wrappers: programs of numbers and the proof that the machine does what they say; printed by an own text program -/
def f_Lw_open (X0 : gX) (a1 : Int32) : Option (gR × gX) := gCit (f_Le_open X0 a1) (fun E X => (if E = "java/lang/IllegalArgumentException" then (if X.cc + 1 ≤ gCL ∧ X.ss + 6 ≤ gSL then gB X.ex (fun X2 => some (gR.i 1, X2)) else none) else (if E = "java/lang/IllegalStateException" then (if X.cc + 1 ≤ gCL ∧ X.ss + 6 ≤ gSL then gB X.ex (fun X3 => some (gR.i 2, X3)) else none) else (if E = "java/lang/UnsupportedOperationException" then (if X.cc + 1 ≤ gCL ∧ X.ss + 6 ≤ gSL then gB X.ex (fun X4 => some (gR.i 3, X4)) else none) else none)))) (fun x1 X1 => gB (X1.w 116 0 x1) (fun X5 => some (gR.i 0, X5)))
set_option maxHeartbeats 4000000 in
set_option maxRecDepth 100000 in
theorem K_Lw_open (l : Launch) (htr : l.stackTraces = false) (D : va_G) (tys : List (ClassId × FieldType)) (z sz : Nat) (ws : va_W) (h : gm_M) (hM : gm_S h ws) (t : Nat → ClassId) (ht : gTy t tys) (b : Nat → Nat) (X0 : gX) (hw : gw D t b X0 h) (a1 : Int32) (hc0 : X0.cc ≤ gCL) (hs0 : X0.ss ≤ gSL) (o : gR × gX) (hf : f_Lw_open X0 a1 = some o) : gx_Met l y_Lw_open [Cond.codeWith y_Lw_open b_Lw_open 4 (some .int) [(0, 9, 12, 13), (0, 9, 15, 15), (0, 9, 18, 17)]] { frames := 11, cells := gCL + 1 - X0.cc, slots := gSL + 6 - X0.ss, locals := 262 } (gx_P z sz D classes tys ws [Value.ref (b 0), Value.int a1, Value.ref (b 116)]) (gx_Q D classes tys (va_A ws sz) (gPoA D t b X0 o)) (o.2.cc + gT o.1 - X0.cc) (o.2.ss + 6 * gT o.1 - X0.ss) (va_A ws sz) := by
  refine gx_ofWH (cc := b_Lw_open) (maxL := 4) (ret := (some .int)) (by decide) ?_
  intro p e s m args below meth c s₁ B hml htab hv
  obtain ⟨rfl, hsz, hz, hP, hK, hD0, hY⟩ := hv
  have hx := B.exec
  have hb := B.bytes
  have hr := B.returns
  have hts := hY.hts (#[Value.ref (b 0), Value.int a1, Value.ref (b 116)] : Array Value)
  have hown : s.vm.findClass "CommitLedgerLaw" = some m.cls := findClass_of_methodNamed B.named
  have hlocks := B.notSynchronized
  subst hsz
  have hAz := gx_az hD0 hz
  have hD := hD0.self (sz := s.heap.size)
  have hA : ∀ q : Nat, s.heap.size ≤ q → va_A ws s.heap.size q := fun q h => Or.inr h
  generalize va_A ws s.heap.size = A at hD hA hAz ⊢
  have Y : gy D t b A s.heap X0 X0 s.heap [] := ⟨h, ⟨ws, hM, hP, hD, va_S.rf⟩, hw, gEq.rf⟩
  clear hP hD hM hD0 hw
  have hC : gC X0 b X0 b 0 0 := gC.rf hc0 hs0
  obtain ⟨ht0, ht1, ht2, ht3, ht4, ht5, ht6, ht7, ht8⟩ := id ht
  have hl := lv_entry ([Value.ref (b 0), Value.int a1, Value.ref (b 116)]) (n := 4) (Nat.le_of_ble_eq_true rfl)
  rw [lg_entry_eq]
  generalize (lg_sl ([Value.ref (b 0), Value.int a1, Value.ref (b 116)]) ++ List.replicate (4 - (lg_sl ([Value.ref (b 0), Value.int a1, Value.ref (b 116)])).length) Slot.unset).toArray = ls at hl ⊢
  have hl : lv_has ls 4 [(0, Value.ref (b 0)), (1, Value.int a1), (2, Value.ref (b 116))] := hl
  unfold f_Lw_open at hf
  refine lv_aload_n hx hb d_Lw_open_0 rfl (lv_at hl 2 rfl) ?_
  refine lv_iconst (v := 0) hx hb d_Lw_open_1 (by decide) ?_
  refine lv_aload_n hx hb d_Lw_open_2 rfl (lv_at hl 0 rfl) ?_
  refine lv_iload_n hx hb d_Lw_open_3 rfl (lv_at hl 1 rfl) ?_
  have hl : lv_has ls 4 [] := lv_sub hl [] rfl
  rcases gCit_el hf with ⟨x6, X6, hF6, hf⟩ | ⟨E6, X6, hF6, hf⟩
  rotate_left
  · by_cases hE6_12 : E6 = "java/lang/IllegalArgumentException"
    · replace hf := gp_t hE6_12 hf
      subst hE6_12
      refine gA_call (fr := 10) (lo := 241) (o1 := (gR.t "java/lang/IllegalArgumentException", X6)) (ig := .invokevirtual 7) (av := [Value.ref (b 0), Value.int a1]) hC Y ⟨Nat.le_refl _, Nat.le_refl _⟩ (fun hc9 hs9 ws h hS hw => K_Le_open l htr D tys z _ ws h hS t ht b X0 hw a1 hc9 hs9 (gR.t "java/lang/IllegalArgumentException", X6) hF6) (gx_invV (As := [Value.int a1]) (rest := [Value.int 0, Value.ref (b 116)]) hx hb hown hts km_Lw_7 kI_Le_open kV_Le_open kc_Le_open (by decide) (show (parseMethodDescriptor y_Le_open.desc).map (fun d => d.parameters.length) = some 1 by decide +kernel) (gy_recv (ci := 0) hK Y rfl gF_0) rfl rfl d_Lw_open_4) (gx_cwA hts kc_Le_open kN_Le ⟨Nat.le_of_ble_eq_true rfl, Nat.le_of_ble_eq_true rfl⟩) hb hml hz hK hY hAz hA hl.1 (lv_room (Nat.le_of_ble_eq_true rfl)) d_Lw_open_4 (fun vz9 b H locs cells slots e9 hb9 hC Y => ?_) (fun xz9 Ez9 ce b H locs cells slots e9 hce hC Y => ?_)
      · have e9 : (Sum.inl vz9 : Option Value ⊕ String) = Sum.inr "java/lang/IllegalArgumentException" := e9
        cases e9
      · have e9 : (Sum.inr Ez9 : Option Value ⊕ String) = Sum.inr "java/lang/IllegalArgumentException" := e9
        cases e9
        refine gx_catch (E := "java/lang/IllegalArgumentException") (hp := 12) hown htab (Or.inr ⟨⟨by show 0 ≤ 4; decide, by show 4 < 9; decide⟩, by decide, "java/lang/IllegalArgumentException", hts _ kk_Lw_13, Or.inl ⟨rfl, hts _ kB_IllegalArgumentException⟩⟩) hce ?_
        refine gA_exc hf hC Y (fun X7 cells slots hf hC Y => ?_)
        have hl : lv_has ls 4 [] := lv_sub hl [] rfl
        refine lv_astore_n (lv' := [(3, Value.ref xz9)]) hx hb d_Lw_open_12 rfl hl (by decide) rfl (fun ls hl => ?_)
        refine lv_iconst (v := 1) hx hb d_Lw_open_13 (by decide) ?_
        exact gA_iret hf hx hb hr hlocks hK hC Y d_Lw_open_14
    replace hf := gp_f hE6_12 hf
    by_cases hE6_15 : E6 = "java/lang/IllegalStateException"
    · replace hf := gp_t hE6_15 hf
      subst hE6_15
      refine gA_call (fr := 10) (lo := 241) (o1 := (gR.t "java/lang/IllegalStateException", X6)) (ig := .invokevirtual 7) (av := [Value.ref (b 0), Value.int a1]) hC Y ⟨Nat.le_refl _, Nat.le_refl _⟩ (fun hc9 hs9 ws h hS hw => K_Le_open l htr D tys z _ ws h hS t ht b X0 hw a1 hc9 hs9 (gR.t "java/lang/IllegalStateException", X6) hF6) (gx_invV (As := [Value.int a1]) (rest := [Value.int 0, Value.ref (b 116)]) hx hb hown hts km_Lw_7 kI_Le_open kV_Le_open kc_Le_open (by decide) (show (parseMethodDescriptor y_Le_open.desc).map (fun d => d.parameters.length) = some 1 by decide +kernel) (gy_recv (ci := 0) hK Y rfl gF_0) rfl rfl d_Lw_open_4) (gx_cwA hts kc_Le_open kN_Le ⟨Nat.le_of_ble_eq_true rfl, Nat.le_of_ble_eq_true rfl⟩) hb hml hz hK hY hAz hA hl.1 (lv_room (Nat.le_of_ble_eq_true rfl)) d_Lw_open_4 (fun vz9 b H locs cells slots e9 hb9 hC Y => ?_) (fun xz9 Ez9 ce b H locs cells slots e9 hce hC Y => ?_)
      · have e9 : (Sum.inl vz9 : Option Value ⊕ String) = Sum.inr "java/lang/IllegalStateException" := e9
        cases e9
      · have e9 : (Sum.inr Ez9 : Option Value ⊕ String) = Sum.inr "java/lang/IllegalStateException" := e9
        cases e9
        refine gx_catch (E := "java/lang/IllegalStateException") (hp := 15) hown htab (Or.inr ⟨⟨by show 0 ≤ 4; decide, by show 4 < 9; decide⟩, by decide, "java/lang/IllegalArgumentException", hts _ kk_Lw_13, Or.inr ⟨hts _ kZ_IllegalStateException_IllegalArgumentException, (Or.inr ⟨⟨by show 0 ≤ 4; decide, by show 4 < 9; decide⟩, by decide, "java/lang/IllegalStateException", hts _ kk_Lw_15, Or.inl ⟨rfl, hts _ kB_IllegalStateException⟩⟩)⟩⟩) hce ?_
        refine gA_exc hf hC Y (fun X8 cells slots hf hC Y => ?_)
        have hl : lv_has ls 4 [] := lv_sub hl [] rfl
        refine lv_astore_n (lv' := [(3, Value.ref xz9)]) hx hb d_Lw_open_15 rfl hl (by decide) rfl (fun ls hl => ?_)
        refine lv_iconst (v := 2) hx hb d_Lw_open_16 (by decide) ?_
        exact gA_iret hf hx hb hr hlocks hK hC Y d_Lw_open_17
    replace hf := gp_f hE6_15 hf
    by_cases hE6_18 : E6 = "java/lang/UnsupportedOperationException"
    · replace hf := gp_t hE6_18 hf
      subst hE6_18
      refine gA_call (fr := 10) (lo := 241) (o1 := (gR.t "java/lang/UnsupportedOperationException", X6)) (ig := .invokevirtual 7) (av := [Value.ref (b 0), Value.int a1]) hC Y ⟨Nat.le_refl _, Nat.le_refl _⟩ (fun hc9 hs9 ws h hS hw => K_Le_open l htr D tys z _ ws h hS t ht b X0 hw a1 hc9 hs9 (gR.t "java/lang/UnsupportedOperationException", X6) hF6) (gx_invV (As := [Value.int a1]) (rest := [Value.int 0, Value.ref (b 116)]) hx hb hown hts km_Lw_7 kI_Le_open kV_Le_open kc_Le_open (by decide) (show (parseMethodDescriptor y_Le_open.desc).map (fun d => d.parameters.length) = some 1 by decide +kernel) (gy_recv (ci := 0) hK Y rfl gF_0) rfl rfl d_Lw_open_4) (gx_cwA hts kc_Le_open kN_Le ⟨Nat.le_of_ble_eq_true rfl, Nat.le_of_ble_eq_true rfl⟩) hb hml hz hK hY hAz hA hl.1 (lv_room (Nat.le_of_ble_eq_true rfl)) d_Lw_open_4 (fun vz9 b H locs cells slots e9 hb9 hC Y => ?_) (fun xz9 Ez9 ce b H locs cells slots e9 hce hC Y => ?_)
      · have e9 : (Sum.inl vz9 : Option Value ⊕ String) = Sum.inr "java/lang/UnsupportedOperationException" := e9
        cases e9
      · have e9 : (Sum.inr Ez9 : Option Value ⊕ String) = Sum.inr "java/lang/UnsupportedOperationException" := e9
        cases e9
        refine gx_catch (E := "java/lang/UnsupportedOperationException") (hp := 18) hown htab (Or.inr ⟨⟨by show 0 ≤ 4; decide, by show 4 < 9; decide⟩, by decide, "java/lang/IllegalArgumentException", hts _ kk_Lw_13, Or.inr ⟨hts _ kZ_UnsupportedOperationException_IllegalArgumentException, (Or.inr ⟨⟨by show 0 ≤ 4; decide, by show 4 < 9; decide⟩, by decide, "java/lang/IllegalStateException", hts _ kk_Lw_15, Or.inr ⟨hts _ kZ_UnsupportedOperationException_IllegalStateException, (Or.inr ⟨⟨by show 0 ≤ 4; decide, by show 4 < 9; decide⟩, by decide, "java/lang/UnsupportedOperationException", hts _ kk_Lw_17, Or.inl ⟨rfl, hts _ kB_UnsupportedOperationException⟩⟩)⟩⟩)⟩⟩) hce ?_
        refine gA_exc hf hC Y (fun X9 cells slots hf hC Y => ?_)
        have hl : lv_has ls 4 [] := lv_sub hl [] rfl
        refine lv_astore_n (lv' := [(3, Value.ref xz9)]) hx hb d_Lw_open_18 rfl hl (by decide) rfl (fun ls hl => ?_)
        refine lv_iconst (v := 3) hx hb d_Lw_open_19 (by decide) ?_
        exact gA_iret hf hx hb hr hlocks hK hC Y d_Lw_open_20
    replace hf := gp_f hE6_18 hf
    cases hf
  refine gA_call (fr := 10) (lo := 241) (o1 := (gR.i x6, X6)) (ig := .invokevirtual 7) (av := [Value.ref (b 0), Value.int a1]) hC Y ⟨Nat.le_refl _, Nat.le_refl _⟩ (fun hc9 hs9 ws h hS hw => K_Le_open l htr D tys z _ ws h hS t ht b X0 hw a1 hc9 hs9 (gR.i x6, X6) hF6) (gx_invV (As := [Value.int a1]) (rest := [Value.int 0, Value.ref (b 116)]) hx hb hown hts km_Lw_7 kI_Le_open kV_Le_open kc_Le_open (by decide) (show (parseMethodDescriptor y_Le_open.desc).map (fun d => d.parameters.length) = some 1 by decide +kernel) (gy_recv (ci := 0) hK Y rfl gF_0) rfl rfl d_Lw_open_4) (gx_cwA hts kc_Le_open kN_Le ⟨Nat.le_of_ble_eq_true rfl, Nat.le_of_ble_eq_true rfl⟩) hb hml hz hK hY hAz hA hl.1 (lv_room (Nat.le_of_ble_eq_true rfl)) d_Lw_open_4 (fun vz9 b H locs cells slots e9 hb9 hC Y => ?_) (fun xz9 Ez9 ce b H locs cells slots e9 hce hC Y => ?_)
  rotate_left
  · have e9 : (Sum.inr Ez9 : Option Value ⊕ String) = Sum.inl (some (Value.int x6)) := e9
    cases e9
  have e9 : (Sum.inl vz9 : Option Value ⊕ String) = Sum.inl (some (Value.int x6)) := e9
  cases e9
  replace hl : lv_has ls 4 [] := by exact hl
  refine W.eq (g2 := F0 m 7 ls [Value.int x6, Value.int 0, Value.ref (b 116)]) (by rw [hb9 116 (gNm_s (by decide))]; rfl) ?_
  refine lv_i2l (v := x6.toInt64) hx hb d_Lw_open_7 rfl ?_
  refine gy_last hf hx hb hK Y gF_116 ht6 d_Lw_open_8 (fun X10 H locs hf Y => ?_)
  refine lv_goto (tgt := 21) hx hb d_Lw_open_9 (by decide) ?_
  refine lv_iconst (v := 0) hx hb d_Lw_open_21 (by decide) ?_
  exact gA_iret hf hx hb hr hlocks hK hC Y d_Lw_open_22

def f_Lw_limits (X0 : gX) (a1 : Int32) (a2 : Int32) : Option (gR × gX) := gCvt (f_Le_limits X0 a1 a2) (fun E X => (if E = "java/lang/IllegalArgumentException" then (if X.cc + 1 ≤ gCL ∧ X.ss + 6 ≤ gSL then gB X.ex (fun X2 => some (gR.i 1, X2)) else none) else none)) (fun X1 => some (gR.i 0, X1))
set_option maxHeartbeats 4000000 in
set_option maxRecDepth 100000 in
theorem K_Lw_limits (l : Launch) (htr : l.stackTraces = false) (D : va_G) (tys : List (ClassId × FieldType)) (z sz : Nat) (ws : va_W) (h : gm_M) (hM : gm_S h ws) (t : Nat → ClassId) (ht : gTy t tys) (b : Nat → Nat) (X0 : gX) (hw : gw D t b X0 h) (a1 : Int32) (a2 : Int32) (hc0 : X0.cc ≤ gCL) (hs0 : X0.ss ≤ gSL) (o : gR × gX) (hf : f_Lw_limits X0 a1 a2 = some o) : gx_Met l y_Lw_limits [Cond.codeWith y_Lw_limits b_Lw_limits 4 (some .int) [(0, 6, 9, 13)]] { frames := 8, cells := gCL + 1 - X0.cc, slots := gSL + 6 - X0.ss, locals := 126 } (gx_P z sz D classes tys ws [Value.ref (b 0), Value.int a1, Value.int a2]) (gx_Q D classes tys (va_A ws sz) (gPoA D t b X0 o)) (o.2.cc + gT o.1 - X0.cc) (o.2.ss + 6 * gT o.1 - X0.ss) (va_A ws sz) := by
  refine gx_ofWH (cc := b_Lw_limits) (maxL := 4) (ret := (some .int)) (by decide) ?_
  intro p e s m args below meth c s₁ B hml htab hv
  obtain ⟨rfl, hsz, hz, hP, hK, hD0, hY⟩ := hv
  have hx := B.exec
  have hb := B.bytes
  have hr := B.returns
  have hts := hY.hts (#[Value.ref (b 0), Value.int a1, Value.int a2] : Array Value)
  have hown : s.vm.findClass "CommitLedgerLaw" = some m.cls := findClass_of_methodNamed B.named
  have hlocks := B.notSynchronized
  subst hsz
  have hAz := gx_az hD0 hz
  have hD := hD0.self (sz := s.heap.size)
  have hA : ∀ q : Nat, s.heap.size ≤ q → va_A ws s.heap.size q := fun q h => Or.inr h
  generalize va_A ws s.heap.size = A at hD hA hAz ⊢
  have Y : gy D t b A s.heap X0 X0 s.heap [] := ⟨h, ⟨ws, hM, hP, hD, va_S.rf⟩, hw, gEq.rf⟩
  clear hP hD hM hD0 hw
  have hC : gC X0 b X0 b 0 0 := gC.rf hc0 hs0
  obtain ⟨ht0, ht1, ht2, ht3, ht4, ht5, ht6, ht7, ht8⟩ := id ht
  have hl := lv_entry ([Value.ref (b 0), Value.int a1, Value.int a2]) (n := 4) (Nat.le_of_ble_eq_true rfl)
  rw [lg_entry_eq]
  generalize (lg_sl ([Value.ref (b 0), Value.int a1, Value.int a2]) ++ List.replicate (4 - (lg_sl ([Value.ref (b 0), Value.int a1, Value.int a2])).length) Slot.unset).toArray = ls at hl ⊢
  have hl : lv_has ls 4 [(0, Value.ref (b 0)), (1, Value.int a1), (2, Value.int a2)] := hl
  unfold f_Lw_limits at hf
  refine lv_aload_n hx hb d_Lw_limits_0 rfl (lv_at hl 0 rfl) ?_
  refine lv_iload_n hx hb d_Lw_limits_1 rfl (lv_at hl 1 rfl) ?_
  refine lv_iload_n hx hb d_Lw_limits_2 rfl (lv_at hl 2 rfl) ?_
  rcases gCvt_el hf with ⟨X3, hF3, hf⟩ | ⟨E3, X3, hF3, hf⟩
  rotate_left
  · by_cases hE3_9 : E3 = "java/lang/IllegalArgumentException"
    · replace hf := gp_t hE3_9 hf
      subst hE3_9
      refine gy_callT (rm := { frames := 7, cells := 1, slots := 6, locals := 104 }) (ig := .invokevirtual 19) (av := [Value.ref (b 0), Value.int a1, Value.int a2]) Y (fun ws h hS hw => K_Le_limits l htr D tys z _ ws h hS t ht b X0 hw a1 a2 (gR.t "java/lang/IllegalArgumentException", X3) hF3) (gx_invV (As := [Value.int a1, Value.int a2]) (rest := []) hx hb hown hts km_Lw_19 kI_Le_limits kV_Le_limits kc_Le_limits (by decide) (show (parseMethodDescriptor y_Le_limits.desc).map (fun d => d.parameters.length) = some 2 by decide +kernel) (gy_recv (ci := 0) hK Y rfl gF_0) rfl rfl d_Lw_limits_3) (gx_cw (z := 0) hts kc_Le_limits kN_Le rfl rfl ⟨Nat.le_of_ble_eq_true rfl, Nat.le_of_ble_eq_true rfl⟩) hb hml hz hK hY hAz hA hl.1 (lv_room (Nat.le_of_ble_eq_true rfl)) d_Lw_limits_3 ⟨hC.rc (Nat.le_refl _), hC.rs (Nat.le_refl _)⟩ (fun xz9 ce H locs hce Y => ?_)
      refine gx_catch (E := "java/lang/IllegalArgumentException") (hp := 9) hown htab (Or.inr ⟨⟨by show 0 ≤ 3; decide, by show 3 < 6; decide⟩, by decide, "java/lang/IllegalArgumentException", hts _ kk_Lw_13, Or.inl ⟨rfl, hts _ kB_IllegalArgumentException⟩⟩) hce ?_
      refine gA_exc hf hC Y (fun X4 cells slots hf hC Y => ?_)
      have hl : lv_has ls 4 [] := lv_sub hl [] rfl
      refine lv_astore_n (lv' := [(3, Value.ref xz9)]) hx hb d_Lw_limits_9 rfl hl (by decide) rfl (fun ls hl => ?_)
      refine lv_iconst (v := 1) hx hb d_Lw_limits_10 (by decide) ?_
      exact gA_iret hf hx hb hr hlocks hK hC Y d_Lw_limits_11
    replace hf := gp_f hE3_9 hf
    cases hf
  refine gy_callV (rm := { frames := 7, cells := 0, slots := 0, locals := 104 }) (ig := .invokevirtual 19) (av := [Value.ref (b 0), Value.int a1, Value.int a2]) Y (fun ws h hS hw => K_Le_limits l htr D tys z _ ws h hS t ht b X0 hw a1 a2 (gR.v, X3) hF3) (gx_invV (As := [Value.int a1, Value.int a2]) (rest := []) hx hb hown hts km_Lw_19 kI_Le_limits kV_Le_limits kc_Le_limits (by decide) (show (parseMethodDescriptor y_Le_limits.desc).map (fun d => d.parameters.length) = some 2 by decide +kernel) (gy_recv (ci := 0) hK Y rfl gF_0) rfl rfl d_Lw_limits_3) (gx_cw (z := 0) hts kc_Le_limits kN_Le rfl rfl ⟨Nat.le_of_ble_eq_true rfl, Nat.le_of_ble_eq_true rfl⟩) hb hml hz hK hY hAz hA hl.1 (lv_room (Nat.le_of_ble_eq_true rfl)) d_Lw_limits_3 ⟨hC.rc0 (Nat.le_refl _), hC.rs0 (Nat.le_refl _)⟩ (fun H locs Y => ?_)
  refine lv_goto (tgt := 12) hx hb d_Lw_limits_6 (by decide) ?_
  refine lv_iconst (v := 0) hx hb d_Lw_limits_12 (by decide) ?_
  exact gA_iret hf hx hb hr hlocks hK hC Y d_Lw_limits_13

def f_Lw_add (X0 : gX) (a1 : Int32) (a2 : Int32) (a3 : Int32) : Option (gR × gX) := gCit (f_Le_add X0 a1 a2 a3) (fun E X => (if E = "java/lang/IllegalArgumentException" then (if X.cc + 1 ≤ gCL ∧ X.ss + 6 ≤ gSL then gB X.ex (fun X2 => some (gR.i 1, X2)) else none) else (if E = "java/lang/IllegalStateException" then (if X.cc + 1 ≤ gCL ∧ X.ss + 6 ≤ gSL then gB X.ex (fun X3 => some (gR.i 2, X3)) else none) else (if E = "java/lang/IndexOutOfBoundsException" then (if X.cc + 1 ≤ gCL ∧ X.ss + 6 ≤ gSL then gB X.ex (fun X4 => some (gR.i 3, X4)) else none) else (if E = "java/lang/ArithmeticException" then (if X.cc + 1 ≤ gCL ∧ X.ss + 6 ≤ gSL then gB X.ex (fun X5 => some (gR.i 4, X5)) else none) else none))))) (fun x1 X1 => gB (X1.w 116 0 x1) (fun X6 => some (gR.i 0, X6)))
set_option maxHeartbeats 4000000 in
set_option maxRecDepth 100000 in
theorem K_Lw_add (l : Launch) (htr : l.stackTraces = false) (D : va_G) (tys : List (ClassId × FieldType)) (z sz : Nat) (ws : va_W) (h : gm_M) (hM : gm_S h ws) (t : Nat → ClassId) (ht : gTy t tys) (b : Nat → Nat) (X0 : gX) (hw : gw D t b X0 h) (a1 : Int32) (a2 : Int32) (a3 : Int32) (hc0 : X0.cc ≤ gCL) (hs0 : X0.ss ≤ gSL) (o : gR × gX) (hf : f_Lw_add X0 a1 a2 a3 = some o) : gx_Met l y_Lw_add [Cond.codeWith y_Lw_add b_Lw_add 6 (some .int) [(0, 12, 15, 13), (0, 12, 19, 15), (0, 12, 23, 27), (0, 12, 27, 29)]] { frames := 13, cells := gCL + 1 - X0.cc, slots := gSL + 6 - X0.ss, locals := 306 } (gx_P z sz D classes tys ws [Value.ref (b 0), Value.int a1, Value.int a2, Value.int a3, Value.ref (b 116)]) (gx_Q D classes tys (va_A ws sz) (gPoA D t b X0 o)) (o.2.cc + gT o.1 - X0.cc) (o.2.ss + 6 * gT o.1 - X0.ss) (va_A ws sz) := by
  refine gx_ofWH (cc := b_Lw_add) (maxL := 6) (ret := (some .int)) (by decide) ?_
  intro p e s m args below meth c s₁ B hml htab hv
  obtain ⟨rfl, hsz, hz, hP, hK, hD0, hY⟩ := hv
  have hx := B.exec
  have hb := B.bytes
  have hr := B.returns
  have hts := hY.hts (#[Value.ref (b 0), Value.int a1, Value.int a2, Value.int a3, Value.ref (b 116)] : Array Value)
  have hown : s.vm.findClass "CommitLedgerLaw" = some m.cls := findClass_of_methodNamed B.named
  have hlocks := B.notSynchronized
  subst hsz
  have hAz := gx_az hD0 hz
  have hD := hD0.self (sz := s.heap.size)
  have hA : ∀ q : Nat, s.heap.size ≤ q → va_A ws s.heap.size q := fun q h => Or.inr h
  generalize va_A ws s.heap.size = A at hD hA hAz ⊢
  have Y : gy D t b A s.heap X0 X0 s.heap [] := ⟨h, ⟨ws, hM, hP, hD, va_S.rf⟩, hw, gEq.rf⟩
  clear hP hD hM hD0 hw
  have hC : gC X0 b X0 b 0 0 := gC.rf hc0 hs0
  obtain ⟨ht0, ht1, ht2, ht3, ht4, ht5, ht6, ht7, ht8⟩ := id ht
  have hl := lv_entry ([Value.ref (b 0), Value.int a1, Value.int a2, Value.int a3, Value.ref (b 116)]) (n := 6) (Nat.le_of_ble_eq_true rfl)
  rw [lg_entry_eq]
  generalize (lg_sl ([Value.ref (b 0), Value.int a1, Value.int a2, Value.int a3, Value.ref (b 116)]) ++ List.replicate (6 - (lg_sl ([Value.ref (b 0), Value.int a1, Value.int a2, Value.int a3, Value.ref (b 116)])).length) Slot.unset).toArray = ls at hl ⊢
  have hl : lv_has ls 6 [(0, Value.ref (b 0)), (1, Value.int a1), (2, Value.int a2), (3, Value.int a3), (4, Value.ref (b 116))] := hl
  unfold f_Lw_add at hf
  refine lv_aload hx hb d_Lw_add_0 (lv_at hl 4 rfl) ?_
  refine lv_iconst (v := 0) hx hb d_Lw_add_2 (by decide) ?_
  refine lv_aload_n hx hb d_Lw_add_3 rfl (lv_at hl 0 rfl) ?_
  refine lv_iload_n hx hb d_Lw_add_4 rfl (lv_at hl 1 rfl) ?_
  refine lv_iload_n hx hb d_Lw_add_5 rfl (lv_at hl 2 rfl) ?_
  refine lv_iload_n hx hb d_Lw_add_6 rfl (lv_at hl 3 rfl) ?_
  have hl : lv_has ls 6 [] := lv_sub hl [] rfl
  rcases gCit_el hf with ⟨x7, X7, hF7, hf⟩ | ⟨E7, X7, hF7, hf⟩
  rotate_left
  · by_cases hE7_15 : E7 = "java/lang/IllegalArgumentException"
    · replace hf := gp_t hE7_15 hf
      subst hE7_15
      refine gA_call (fr := 12) (lo := 282) (o1 := (gR.t "java/lang/IllegalArgumentException", X7)) (ig := .invokevirtual 23) (av := [Value.ref (b 0), Value.int a1, Value.int a2, Value.int a3]) hC Y ⟨Nat.le_refl _, Nat.le_refl _⟩ (fun hc9 hs9 ws h hS hw => K_Le_add l htr D tys z _ ws h hS t ht b X0 hw a1 a2 a3 hc9 hs9 (gR.t "java/lang/IllegalArgumentException", X7) hF7) (gx_invV (As := [Value.int a1, Value.int a2, Value.int a3]) (rest := [Value.int 0, Value.ref (b 116)]) hx hb hown hts km_Lw_23 kI_Le_add kV_Le_add kc_Le_add (by decide) (show (parseMethodDescriptor y_Le_add.desc).map (fun d => d.parameters.length) = some 3 by decide +kernel) (gy_recv (ci := 0) hK Y rfl gF_0) rfl rfl d_Lw_add_7) (gx_cwA hts kc_Le_add kN_Le ⟨Nat.le_of_ble_eq_true rfl, Nat.le_of_ble_eq_true rfl⟩) hb hml hz hK hY hAz hA hl.1 (lv_room (Nat.le_of_ble_eq_true rfl)) d_Lw_add_7 (fun vz9 b H locs cells slots e9 hb9 hC Y => ?_) (fun xz9 Ez9 ce b H locs cells slots e9 hce hC Y => ?_)
      · have e9 : (Sum.inl vz9 : Option Value ⊕ String) = Sum.inr "java/lang/IllegalArgumentException" := e9
        cases e9
      · have e9 : (Sum.inr Ez9 : Option Value ⊕ String) = Sum.inr "java/lang/IllegalArgumentException" := e9
        cases e9
        refine gx_catch (E := "java/lang/IllegalArgumentException") (hp := 15) hown htab (Or.inr ⟨⟨by show 0 ≤ 7; decide, by show 7 < 12; decide⟩, by decide, "java/lang/IllegalArgumentException", hts _ kk_Lw_13, Or.inl ⟨rfl, hts _ kB_IllegalArgumentException⟩⟩) hce ?_
        refine gA_exc hf hC Y (fun X8 cells slots hf hC Y => ?_)
        have hl : lv_has ls 6 [] := lv_sub hl [] rfl
        refine lv_astore (lv' := [(5, Value.ref xz9)]) hx hb d_Lw_add_15 hl (by decide) rfl (fun ls hl => ?_)
        refine lv_iconst (v := 1) hx hb d_Lw_add_17 (by decide) ?_
        exact gA_iret hf hx hb hr hlocks hK hC Y d_Lw_add_18
    replace hf := gp_f hE7_15 hf
    by_cases hE7_19 : E7 = "java/lang/IllegalStateException"
    · replace hf := gp_t hE7_19 hf
      subst hE7_19
      refine gA_call (fr := 12) (lo := 282) (o1 := (gR.t "java/lang/IllegalStateException", X7)) (ig := .invokevirtual 23) (av := [Value.ref (b 0), Value.int a1, Value.int a2, Value.int a3]) hC Y ⟨Nat.le_refl _, Nat.le_refl _⟩ (fun hc9 hs9 ws h hS hw => K_Le_add l htr D tys z _ ws h hS t ht b X0 hw a1 a2 a3 hc9 hs9 (gR.t "java/lang/IllegalStateException", X7) hF7) (gx_invV (As := [Value.int a1, Value.int a2, Value.int a3]) (rest := [Value.int 0, Value.ref (b 116)]) hx hb hown hts km_Lw_23 kI_Le_add kV_Le_add kc_Le_add (by decide) (show (parseMethodDescriptor y_Le_add.desc).map (fun d => d.parameters.length) = some 3 by decide +kernel) (gy_recv (ci := 0) hK Y rfl gF_0) rfl rfl d_Lw_add_7) (gx_cwA hts kc_Le_add kN_Le ⟨Nat.le_of_ble_eq_true rfl, Nat.le_of_ble_eq_true rfl⟩) hb hml hz hK hY hAz hA hl.1 (lv_room (Nat.le_of_ble_eq_true rfl)) d_Lw_add_7 (fun vz9 b H locs cells slots e9 hb9 hC Y => ?_) (fun xz9 Ez9 ce b H locs cells slots e9 hce hC Y => ?_)
      · have e9 : (Sum.inl vz9 : Option Value ⊕ String) = Sum.inr "java/lang/IllegalStateException" := e9
        cases e9
      · have e9 : (Sum.inr Ez9 : Option Value ⊕ String) = Sum.inr "java/lang/IllegalStateException" := e9
        cases e9
        refine gx_catch (E := "java/lang/IllegalStateException") (hp := 19) hown htab (Or.inr ⟨⟨by show 0 ≤ 7; decide, by show 7 < 12; decide⟩, by decide, "java/lang/IllegalArgumentException", hts _ kk_Lw_13, Or.inr ⟨hts _ kZ_IllegalStateException_IllegalArgumentException, (Or.inr ⟨⟨by show 0 ≤ 7; decide, by show 7 < 12; decide⟩, by decide, "java/lang/IllegalStateException", hts _ kk_Lw_15, Or.inl ⟨rfl, hts _ kB_IllegalStateException⟩⟩)⟩⟩) hce ?_
        refine gA_exc hf hC Y (fun X9 cells slots hf hC Y => ?_)
        have hl : lv_has ls 6 [] := lv_sub hl [] rfl
        refine lv_astore (lv' := [(5, Value.ref xz9)]) hx hb d_Lw_add_19 hl (by decide) rfl (fun ls hl => ?_)
        refine lv_iconst (v := 2) hx hb d_Lw_add_21 (by decide) ?_
        exact gA_iret hf hx hb hr hlocks hK hC Y d_Lw_add_22
    replace hf := gp_f hE7_19 hf
    by_cases hE7_23 : E7 = "java/lang/IndexOutOfBoundsException"
    · replace hf := gp_t hE7_23 hf
      subst hE7_23
      refine gA_call (fr := 12) (lo := 282) (o1 := (gR.t "java/lang/IndexOutOfBoundsException", X7)) (ig := .invokevirtual 23) (av := [Value.ref (b 0), Value.int a1, Value.int a2, Value.int a3]) hC Y ⟨Nat.le_refl _, Nat.le_refl _⟩ (fun hc9 hs9 ws h hS hw => K_Le_add l htr D tys z _ ws h hS t ht b X0 hw a1 a2 a3 hc9 hs9 (gR.t "java/lang/IndexOutOfBoundsException", X7) hF7) (gx_invV (As := [Value.int a1, Value.int a2, Value.int a3]) (rest := [Value.int 0, Value.ref (b 116)]) hx hb hown hts km_Lw_23 kI_Le_add kV_Le_add kc_Le_add (by decide) (show (parseMethodDescriptor y_Le_add.desc).map (fun d => d.parameters.length) = some 3 by decide +kernel) (gy_recv (ci := 0) hK Y rfl gF_0) rfl rfl d_Lw_add_7) (gx_cwA hts kc_Le_add kN_Le ⟨Nat.le_of_ble_eq_true rfl, Nat.le_of_ble_eq_true rfl⟩) hb hml hz hK hY hAz hA hl.1 (lv_room (Nat.le_of_ble_eq_true rfl)) d_Lw_add_7 (fun vz9 b H locs cells slots e9 hb9 hC Y => ?_) (fun xz9 Ez9 ce b H locs cells slots e9 hce hC Y => ?_)
      · have e9 : (Sum.inl vz9 : Option Value ⊕ String) = Sum.inr "java/lang/IndexOutOfBoundsException" := e9
        cases e9
      · have e9 : (Sum.inr Ez9 : Option Value ⊕ String) = Sum.inr "java/lang/IndexOutOfBoundsException" := e9
        cases e9
        refine gx_catch (E := "java/lang/IndexOutOfBoundsException") (hp := 23) hown htab (Or.inr ⟨⟨by show 0 ≤ 7; decide, by show 7 < 12; decide⟩, by decide, "java/lang/IllegalArgumentException", hts _ kk_Lw_13, Or.inr ⟨hts _ kZ_IndexOutOfBoundsException_IllegalArgumentException, (Or.inr ⟨⟨by show 0 ≤ 7; decide, by show 7 < 12; decide⟩, by decide, "java/lang/IllegalStateException", hts _ kk_Lw_15, Or.inr ⟨hts _ kZ_IndexOutOfBoundsException_IllegalStateException, (Or.inr ⟨⟨by show 0 ≤ 7; decide, by show 7 < 12; decide⟩, by decide, "java/lang/IndexOutOfBoundsException", hts _ kk_Lw_27, Or.inl ⟨rfl, hts _ kB_IndexOutOfBoundsException⟩⟩)⟩⟩)⟩⟩) hce ?_
        refine gA_exc hf hC Y (fun X10 cells slots hf hC Y => ?_)
        have hl : lv_has ls 6 [] := lv_sub hl [] rfl
        refine lv_astore (lv' := [(5, Value.ref xz9)]) hx hb d_Lw_add_23 hl (by decide) rfl (fun ls hl => ?_)
        refine lv_iconst (v := 3) hx hb d_Lw_add_25 (by decide) ?_
        exact gA_iret hf hx hb hr hlocks hK hC Y d_Lw_add_26
    replace hf := gp_f hE7_23 hf
    by_cases hE7_27 : E7 = "java/lang/ArithmeticException"
    · replace hf := gp_t hE7_27 hf
      subst hE7_27
      refine gA_call (fr := 12) (lo := 282) (o1 := (gR.t "java/lang/ArithmeticException", X7)) (ig := .invokevirtual 23) (av := [Value.ref (b 0), Value.int a1, Value.int a2, Value.int a3]) hC Y ⟨Nat.le_refl _, Nat.le_refl _⟩ (fun hc9 hs9 ws h hS hw => K_Le_add l htr D tys z _ ws h hS t ht b X0 hw a1 a2 a3 hc9 hs9 (gR.t "java/lang/ArithmeticException", X7) hF7) (gx_invV (As := [Value.int a1, Value.int a2, Value.int a3]) (rest := [Value.int 0, Value.ref (b 116)]) hx hb hown hts km_Lw_23 kI_Le_add kV_Le_add kc_Le_add (by decide) (show (parseMethodDescriptor y_Le_add.desc).map (fun d => d.parameters.length) = some 3 by decide +kernel) (gy_recv (ci := 0) hK Y rfl gF_0) rfl rfl d_Lw_add_7) (gx_cwA hts kc_Le_add kN_Le ⟨Nat.le_of_ble_eq_true rfl, Nat.le_of_ble_eq_true rfl⟩) hb hml hz hK hY hAz hA hl.1 (lv_room (Nat.le_of_ble_eq_true rfl)) d_Lw_add_7 (fun vz9 b H locs cells slots e9 hb9 hC Y => ?_) (fun xz9 Ez9 ce b H locs cells slots e9 hce hC Y => ?_)
      · have e9 : (Sum.inl vz9 : Option Value ⊕ String) = Sum.inr "java/lang/ArithmeticException" := e9
        cases e9
      · have e9 : (Sum.inr Ez9 : Option Value ⊕ String) = Sum.inr "java/lang/ArithmeticException" := e9
        cases e9
        refine gx_catch (E := "java/lang/ArithmeticException") (hp := 27) hown htab (Or.inr ⟨⟨by show 0 ≤ 7; decide, by show 7 < 12; decide⟩, by decide, "java/lang/IllegalArgumentException", hts _ kk_Lw_13, Or.inr ⟨hts _ kZ_ArithmeticException_IllegalArgumentException, (Or.inr ⟨⟨by show 0 ≤ 7; decide, by show 7 < 12; decide⟩, by decide, "java/lang/IllegalStateException", hts _ kk_Lw_15, Or.inr ⟨hts _ kZ_ArithmeticException_IllegalStateException, (Or.inr ⟨⟨by show 0 ≤ 7; decide, by show 7 < 12; decide⟩, by decide, "java/lang/IndexOutOfBoundsException", hts _ kk_Lw_27, Or.inr ⟨hts _ kZ_ArithmeticException_IndexOutOfBoundsException, (Or.inr ⟨⟨by show 0 ≤ 7; decide, by show 7 < 12; decide⟩, by decide, "java/lang/ArithmeticException", hts _ kk_Lw_29, Or.inl ⟨rfl, hts _ kB_ArithmeticException⟩⟩)⟩⟩)⟩⟩)⟩⟩) hce ?_
        refine gA_exc hf hC Y (fun X11 cells slots hf hC Y => ?_)
        have hl : lv_has ls 6 [] := lv_sub hl [] rfl
        refine lv_astore (lv' := [(5, Value.ref xz9)]) hx hb d_Lw_add_27 hl (by decide) rfl (fun ls hl => ?_)
        refine lv_iconst (v := 4) hx hb d_Lw_add_29 (by decide) ?_
        exact gA_iret hf hx hb hr hlocks hK hC Y d_Lw_add_30
    replace hf := gp_f hE7_27 hf
    cases hf
  refine gA_call (fr := 12) (lo := 282) (o1 := (gR.i x7, X7)) (ig := .invokevirtual 23) (av := [Value.ref (b 0), Value.int a1, Value.int a2, Value.int a3]) hC Y ⟨Nat.le_refl _, Nat.le_refl _⟩ (fun hc9 hs9 ws h hS hw => K_Le_add l htr D tys z _ ws h hS t ht b X0 hw a1 a2 a3 hc9 hs9 (gR.i x7, X7) hF7) (gx_invV (As := [Value.int a1, Value.int a2, Value.int a3]) (rest := [Value.int 0, Value.ref (b 116)]) hx hb hown hts km_Lw_23 kI_Le_add kV_Le_add kc_Le_add (by decide) (show (parseMethodDescriptor y_Le_add.desc).map (fun d => d.parameters.length) = some 3 by decide +kernel) (gy_recv (ci := 0) hK Y rfl gF_0) rfl rfl d_Lw_add_7) (gx_cwA hts kc_Le_add kN_Le ⟨Nat.le_of_ble_eq_true rfl, Nat.le_of_ble_eq_true rfl⟩) hb hml hz hK hY hAz hA hl.1 (lv_room (Nat.le_of_ble_eq_true rfl)) d_Lw_add_7 (fun vz9 b H locs cells slots e9 hb9 hC Y => ?_) (fun xz9 Ez9 ce b H locs cells slots e9 hce hC Y => ?_)
  rotate_left
  · have e9 : (Sum.inr Ez9 : Option Value ⊕ String) = Sum.inl (some (Value.int x7)) := e9
    cases e9
  have e9 : (Sum.inl vz9 : Option Value ⊕ String) = Sum.inl (some (Value.int x7)) := e9
  cases e9
  replace hl : lv_has ls 6 [] := by exact hl
  refine W.eq (g2 := F0 m 10 ls [Value.int x7, Value.int 0, Value.ref (b 116)]) (by rw [hb9 116 (gNm_s (by decide))]; rfl) ?_
  refine lv_i2l (v := x7.toInt64) hx hb d_Lw_add_10 rfl ?_
  refine gy_last hf hx hb hK Y gF_116 ht6 d_Lw_add_11 (fun X12 H locs hf Y => ?_)
  refine lv_goto (tgt := 31) hx hb d_Lw_add_12 (by decide) ?_
  refine lv_iconst (v := 0) hx hb d_Lw_add_31 (by decide) ?_
  exact gA_iret hf hx hb hr hlocks hK hC Y d_Lw_add_32

def f_Lw_erase (X0 : gX) (a1 : Int32) : Option (gR × gX) := gCit (f_Le_erase X0 a1) (fun E X => (if E = "java/lang/IllegalStateException" then (if X.cc + 1 ≤ gCL ∧ X.ss + 6 ≤ gSL then gB X.ex (fun X2 => some (gR.i 1, X2)) else none) else none)) (fun x1 X1 => gB (X1.w 116 0 x1) (fun X3 => some (gR.i 0, X3)))
set_option maxHeartbeats 4000000 in
set_option maxRecDepth 100000 in
theorem K_Lw_erase (l : Launch) (htr : l.stackTraces = false) (D : va_G) (tys : List (ClassId × FieldType)) (z sz : Nat) (ws : va_W) (h : gm_M) (hM : gm_S h ws) (t : Nat → ClassId) (ht : gTy t tys) (b : Nat → Nat) (X0 : gX) (hw : gw D t b X0 h) (a1 : Int32) (hc0 : X0.cc ≤ gCL) (hs0 : X0.ss ≤ gSL) (o : gR × gX) (hf : f_Lw_erase X0 a1 = some o) : gx_Met l y_Lw_erase [Cond.codeWith y_Lw_erase b_Lw_erase 4 (some .int) [(0, 9, 12, 15)]] { frames := 11, cells := gCL + 1 - X0.cc, slots := gSL + 6 - X0.ss, locals := 264 } (gx_P z sz D classes tys ws [Value.ref (b 0), Value.int a1, Value.ref (b 116)]) (gx_Q D classes tys (va_A ws sz) (gPoA D t b X0 o)) (o.2.cc + gT o.1 - X0.cc) (o.2.ss + 6 * gT o.1 - X0.ss) (va_A ws sz) := by
  refine gx_ofWH (cc := b_Lw_erase) (maxL := 4) (ret := (some .int)) (by decide) ?_
  intro p e s m args below meth c s₁ B hml htab hv
  obtain ⟨rfl, hsz, hz, hP, hK, hD0, hY⟩ := hv
  have hx := B.exec
  have hb := B.bytes
  have hr := B.returns
  have hts := hY.hts (#[Value.ref (b 0), Value.int a1, Value.ref (b 116)] : Array Value)
  have hown : s.vm.findClass "CommitLedgerLaw" = some m.cls := findClass_of_methodNamed B.named
  have hlocks := B.notSynchronized
  subst hsz
  have hAz := gx_az hD0 hz
  have hD := hD0.self (sz := s.heap.size)
  have hA : ∀ q : Nat, s.heap.size ≤ q → va_A ws s.heap.size q := fun q h => Or.inr h
  generalize va_A ws s.heap.size = A at hD hA hAz ⊢
  have Y : gy D t b A s.heap X0 X0 s.heap [] := ⟨h, ⟨ws, hM, hP, hD, va_S.rf⟩, hw, gEq.rf⟩
  clear hP hD hM hD0 hw
  have hC : gC X0 b X0 b 0 0 := gC.rf hc0 hs0
  obtain ⟨ht0, ht1, ht2, ht3, ht4, ht5, ht6, ht7, ht8⟩ := id ht
  have hl := lv_entry ([Value.ref (b 0), Value.int a1, Value.ref (b 116)]) (n := 4) (Nat.le_of_ble_eq_true rfl)
  rw [lg_entry_eq]
  generalize (lg_sl ([Value.ref (b 0), Value.int a1, Value.ref (b 116)]) ++ List.replicate (4 - (lg_sl ([Value.ref (b 0), Value.int a1, Value.ref (b 116)])).length) Slot.unset).toArray = ls at hl ⊢
  have hl : lv_has ls 4 [(0, Value.ref (b 0)), (1, Value.int a1), (2, Value.ref (b 116))] := hl
  unfold f_Lw_erase at hf
  refine lv_aload_n hx hb d_Lw_erase_0 rfl (lv_at hl 2 rfl) ?_
  refine lv_iconst (v := 0) hx hb d_Lw_erase_1 (by decide) ?_
  refine lv_aload_n hx hb d_Lw_erase_2 rfl (lv_at hl 0 rfl) ?_
  refine lv_iload_n hx hb d_Lw_erase_3 rfl (lv_at hl 1 rfl) ?_
  have hl : lv_has ls 4 [] := lv_sub hl [] rfl
  rcases gCit_el hf with ⟨x4, X4, hF4, hf⟩ | ⟨E4, X4, hF4, hf⟩
  rotate_left
  · by_cases hE4_12 : E4 = "java/lang/IllegalStateException"
    · replace hf := gp_t hE4_12 hf
      subst hE4_12
      refine gA_call (fr := 10) (lo := 241) (o1 := (gR.t "java/lang/IllegalStateException", X4)) (ig := .invokevirtual 31) (av := [Value.ref (b 0), Value.int a1]) hC Y ⟨Nat.le_refl _, Nat.le_refl _⟩ (fun hc9 hs9 ws h hS hw => K_Le_erase l htr D tys z _ ws h hS t ht b X0 hw a1 hc9 hs9 (gR.t "java/lang/IllegalStateException", X4) hF4) (gx_invV (As := [Value.int a1]) (rest := [Value.int 0, Value.ref (b 116)]) hx hb hown hts km_Lw_31 kI_Le_erase kV_Le_erase kc_Le_erase (by decide) (show (parseMethodDescriptor y_Le_erase.desc).map (fun d => d.parameters.length) = some 1 by decide +kernel) (gy_recv (ci := 0) hK Y rfl gF_0) rfl rfl d_Lw_erase_4) (gx_cwA hts kc_Le_erase kN_Le ⟨Nat.le_of_ble_eq_true rfl, Nat.le_of_ble_eq_true rfl⟩) hb hml hz hK hY hAz hA hl.1 (lv_room (Nat.le_of_ble_eq_true rfl)) d_Lw_erase_4 (fun vz9 b H locs cells slots e9 hb9 hC Y => ?_) (fun xz9 Ez9 ce b H locs cells slots e9 hce hC Y => ?_)
      · have e9 : (Sum.inl vz9 : Option Value ⊕ String) = Sum.inr "java/lang/IllegalStateException" := e9
        cases e9
      · have e9 : (Sum.inr Ez9 : Option Value ⊕ String) = Sum.inr "java/lang/IllegalStateException" := e9
        cases e9
        refine gx_catch (E := "java/lang/IllegalStateException") (hp := 12) hown htab (Or.inr ⟨⟨by show 0 ≤ 4; decide, by show 4 < 9; decide⟩, by decide, "java/lang/IllegalStateException", hts _ kk_Lw_15, Or.inl ⟨rfl, hts _ kB_IllegalStateException⟩⟩) hce ?_
        refine gA_exc hf hC Y (fun X5 cells slots hf hC Y => ?_)
        have hl : lv_has ls 4 [] := lv_sub hl [] rfl
        refine lv_astore_n (lv' := [(3, Value.ref xz9)]) hx hb d_Lw_erase_12 rfl hl (by decide) rfl (fun ls hl => ?_)
        refine lv_iconst (v := 1) hx hb d_Lw_erase_13 (by decide) ?_
        exact gA_iret hf hx hb hr hlocks hK hC Y d_Lw_erase_14
    replace hf := gp_f hE4_12 hf
    cases hf
  refine gA_call (fr := 10) (lo := 241) (o1 := (gR.i x4, X4)) (ig := .invokevirtual 31) (av := [Value.ref (b 0), Value.int a1]) hC Y ⟨Nat.le_refl _, Nat.le_refl _⟩ (fun hc9 hs9 ws h hS hw => K_Le_erase l htr D tys z _ ws h hS t ht b X0 hw a1 hc9 hs9 (gR.i x4, X4) hF4) (gx_invV (As := [Value.int a1]) (rest := [Value.int 0, Value.ref (b 116)]) hx hb hown hts km_Lw_31 kI_Le_erase kV_Le_erase kc_Le_erase (by decide) (show (parseMethodDescriptor y_Le_erase.desc).map (fun d => d.parameters.length) = some 1 by decide +kernel) (gy_recv (ci := 0) hK Y rfl gF_0) rfl rfl d_Lw_erase_4) (gx_cwA hts kc_Le_erase kN_Le ⟨Nat.le_of_ble_eq_true rfl, Nat.le_of_ble_eq_true rfl⟩) hb hml hz hK hY hAz hA hl.1 (lv_room (Nat.le_of_ble_eq_true rfl)) d_Lw_erase_4 (fun vz9 b H locs cells slots e9 hb9 hC Y => ?_) (fun xz9 Ez9 ce b H locs cells slots e9 hce hC Y => ?_)
  rotate_left
  · have e9 : (Sum.inr Ez9 : Option Value ⊕ String) = Sum.inl (some (Value.int x4)) := e9
    cases e9
  have e9 : (Sum.inl vz9 : Option Value ⊕ String) = Sum.inl (some (Value.int x4)) := e9
  cases e9
  replace hl : lv_has ls 4 [] := by exact hl
  refine W.eq (g2 := F0 m 7 ls [Value.int x4, Value.int 0, Value.ref (b 116)]) (by rw [hb9 116 (gNm_s (by decide))]; rfl) ?_
  refine lv_i2l (v := x4.toInt64) hx hb d_Lw_erase_7 rfl ?_
  refine gy_last hf hx hb hK Y gF_116 ht6 d_Lw_erase_8 (fun X6 H locs hf Y => ?_)
  refine lv_goto (tgt := 15) hx hb d_Lw_erase_9 (by decide) ?_
  refine lv_iconst (v := 0) hx hb d_Lw_erase_15 (by decide) ?_
  exact gA_iret hf hx hb hr hlocks hK hC Y d_Lw_erase_16

def f_Lw_flush (X0 : gX) : Option (gR × gX) := gCit (f_Le_flush X0) (fun E X => (if E = "java/lang/IllegalStateException" then (if X.cc + 1 ≤ gCL ∧ X.ss + 6 ≤ gSL then gB X.ex (fun X2 => some (gR.i 1, X2)) else none) else (if E = "java/lang/ArithmeticException" then (if X.cc + 1 ≤ gCL ∧ X.ss + 6 ≤ gSL then gB X.ex (fun X3 => some (gR.i 2, X3)) else none) else none))) (fun x1 X1 => gB (X1.w 116 0 x1) (fun X4 => some (gR.i 0, X4)))
set_option maxHeartbeats 4000000 in
set_option maxRecDepth 100000 in
theorem K_Lw_flush (l : Launch) (htr : l.stackTraces = false) (D : va_G) (tys : List (ClassId × FieldType)) (z sz : Nat) (ws : va_W) (h : gm_M) (hM : gm_S h ws) (t : Nat → ClassId) (ht : gTy t tys) (b : Nat → Nat) (X0 : gX) (hw : gw D t b X0 h) (hc0 : X0.cc ≤ gCL) (hs0 : X0.ss ≤ gSL) (o : gR × gX) (hf : f_Lw_flush X0 = some o) : gx_Met l y_Lw_flush [Cond.codeWith y_Lw_flush b_Lw_flush 3 (some .int) [(0, 8, 11, 15), (0, 8, 14, 29)]] { frames := 13, cells := gCL + 1 - X0.cc, slots := gSL + 6 - X0.ss, locals := 302 } (gx_P z sz D classes tys ws [Value.ref (b 0), Value.ref (b 116)]) (gx_Q D classes tys (va_A ws sz) (gPoA D t b X0 o)) (o.2.cc + gT o.1 - X0.cc) (o.2.ss + 6 * gT o.1 - X0.ss) (va_A ws sz) := by
  refine gx_ofWH (cc := b_Lw_flush) (maxL := 3) (ret := (some .int)) (by decide) ?_
  intro p e s m args below meth c s₁ B hml htab hv
  obtain ⟨rfl, hsz, hz, hP, hK, hD0, hY⟩ := hv
  have hx := B.exec
  have hb := B.bytes
  have hr := B.returns
  have hts := hY.hts (#[Value.ref (b 0), Value.ref (b 116)] : Array Value)
  have hown : s.vm.findClass "CommitLedgerLaw" = some m.cls := findClass_of_methodNamed B.named
  have hlocks := B.notSynchronized
  subst hsz
  have hAz := gx_az hD0 hz
  have hD := hD0.self (sz := s.heap.size)
  have hA : ∀ q : Nat, s.heap.size ≤ q → va_A ws s.heap.size q := fun q h => Or.inr h
  generalize va_A ws s.heap.size = A at hD hA hAz ⊢
  have Y : gy D t b A s.heap X0 X0 s.heap [] := ⟨h, ⟨ws, hM, hP, hD, va_S.rf⟩, hw, gEq.rf⟩
  clear hP hD hM hD0 hw
  have hC : gC X0 b X0 b 0 0 := gC.rf hc0 hs0
  obtain ⟨ht0, ht1, ht2, ht3, ht4, ht5, ht6, ht7, ht8⟩ := id ht
  have hl := lv_entry ([Value.ref (b 0), Value.ref (b 116)]) (n := 3) (Nat.le_of_ble_eq_true rfl)
  rw [lg_entry_eq]
  generalize (lg_sl ([Value.ref (b 0), Value.ref (b 116)]) ++ List.replicate (3 - (lg_sl ([Value.ref (b 0), Value.ref (b 116)])).length) Slot.unset).toArray = ls at hl ⊢
  have hl : lv_has ls 3 [(0, Value.ref (b 0)), (1, Value.ref (b 116))] := hl
  unfold f_Lw_flush at hf
  refine lv_aload_n hx hb d_Lw_flush_0 rfl (lv_at hl 1 rfl) ?_
  refine lv_iconst (v := 0) hx hb d_Lw_flush_1 (by decide) ?_
  refine lv_aload_n hx hb d_Lw_flush_2 rfl (lv_at hl 0 rfl) ?_
  have hl : lv_has ls 3 [] := lv_sub hl [] rfl
  rcases gCit_el hf with ⟨x5, X5, hF5, hf⟩ | ⟨E5, X5, hF5, hf⟩
  rotate_left
  · by_cases hE5_11 : E5 = "java/lang/IllegalStateException"
    · replace hf := gp_t hE5_11 hf
      subst hE5_11
      refine gA_call (fr := 12) (lo := 282) (o1 := (gR.t "java/lang/IllegalStateException", X5)) (ig := .invokevirtual 34) (av := [Value.ref (b 0)]) hC Y ⟨Nat.le_refl _, Nat.le_refl _⟩ (fun hc9 hs9 ws h hS hw => K_Le_flush l htr D tys z _ ws h hS t ht b X0 hw hc9 hs9 (gR.t "java/lang/IllegalStateException", X5) hF5) (gx_invV (As := []) (rest := [Value.int 0, Value.ref (b 116)]) hx hb hown hts km_Lw_34 kI_Le_flush kV_Le_flush kc_Le_flush (by decide) (show (parseMethodDescriptor y_Le_flush.desc).map (fun d => d.parameters.length) = some 0 by decide +kernel) (gy_recv (ci := 0) hK Y rfl gF_0) rfl rfl d_Lw_flush_3) (gx_cwA hts kc_Le_flush kN_Le ⟨Nat.le_of_ble_eq_true rfl, Nat.le_of_ble_eq_true rfl⟩) hb hml hz hK hY hAz hA hl.1 (lv_room (Nat.le_of_ble_eq_true rfl)) d_Lw_flush_3 (fun vz9 b H locs cells slots e9 hb9 hC Y => ?_) (fun xz9 Ez9 ce b H locs cells slots e9 hce hC Y => ?_)
      · have e9 : (Sum.inl vz9 : Option Value ⊕ String) = Sum.inr "java/lang/IllegalStateException" := e9
        cases e9
      · have e9 : (Sum.inr Ez9 : Option Value ⊕ String) = Sum.inr "java/lang/IllegalStateException" := e9
        cases e9
        refine gx_catch (E := "java/lang/IllegalStateException") (hp := 11) hown htab (Or.inr ⟨⟨by show 0 ≤ 3; decide, by show 3 < 8; decide⟩, by decide, "java/lang/IllegalStateException", hts _ kk_Lw_15, Or.inl ⟨rfl, hts _ kB_IllegalStateException⟩⟩) hce ?_
        refine gA_exc hf hC Y (fun X6 cells slots hf hC Y => ?_)
        have hl : lv_has ls 3 [] := lv_sub hl [] rfl
        refine lv_astore_n (lv' := [(2, Value.ref xz9)]) hx hb d_Lw_flush_11 rfl hl (by decide) rfl (fun ls hl => ?_)
        refine lv_iconst (v := 1) hx hb d_Lw_flush_12 (by decide) ?_
        exact gA_iret hf hx hb hr hlocks hK hC Y d_Lw_flush_13
    replace hf := gp_f hE5_11 hf
    by_cases hE5_14 : E5 = "java/lang/ArithmeticException"
    · replace hf := gp_t hE5_14 hf
      subst hE5_14
      refine gA_call (fr := 12) (lo := 282) (o1 := (gR.t "java/lang/ArithmeticException", X5)) (ig := .invokevirtual 34) (av := [Value.ref (b 0)]) hC Y ⟨Nat.le_refl _, Nat.le_refl _⟩ (fun hc9 hs9 ws h hS hw => K_Le_flush l htr D tys z _ ws h hS t ht b X0 hw hc9 hs9 (gR.t "java/lang/ArithmeticException", X5) hF5) (gx_invV (As := []) (rest := [Value.int 0, Value.ref (b 116)]) hx hb hown hts km_Lw_34 kI_Le_flush kV_Le_flush kc_Le_flush (by decide) (show (parseMethodDescriptor y_Le_flush.desc).map (fun d => d.parameters.length) = some 0 by decide +kernel) (gy_recv (ci := 0) hK Y rfl gF_0) rfl rfl d_Lw_flush_3) (gx_cwA hts kc_Le_flush kN_Le ⟨Nat.le_of_ble_eq_true rfl, Nat.le_of_ble_eq_true rfl⟩) hb hml hz hK hY hAz hA hl.1 (lv_room (Nat.le_of_ble_eq_true rfl)) d_Lw_flush_3 (fun vz9 b H locs cells slots e9 hb9 hC Y => ?_) (fun xz9 Ez9 ce b H locs cells slots e9 hce hC Y => ?_)
      · have e9 : (Sum.inl vz9 : Option Value ⊕ String) = Sum.inr "java/lang/ArithmeticException" := e9
        cases e9
      · have e9 : (Sum.inr Ez9 : Option Value ⊕ String) = Sum.inr "java/lang/ArithmeticException" := e9
        cases e9
        refine gx_catch (E := "java/lang/ArithmeticException") (hp := 14) hown htab (Or.inr ⟨⟨by show 0 ≤ 3; decide, by show 3 < 8; decide⟩, by decide, "java/lang/IllegalStateException", hts _ kk_Lw_15, Or.inr ⟨hts _ kZ_ArithmeticException_IllegalStateException, (Or.inr ⟨⟨by show 0 ≤ 3; decide, by show 3 < 8; decide⟩, by decide, "java/lang/ArithmeticException", hts _ kk_Lw_29, Or.inl ⟨rfl, hts _ kB_ArithmeticException⟩⟩)⟩⟩) hce ?_
        refine gA_exc hf hC Y (fun X7 cells slots hf hC Y => ?_)
        have hl : lv_has ls 3 [] := lv_sub hl [] rfl
        refine lv_astore_n (lv' := [(2, Value.ref xz9)]) hx hb d_Lw_flush_14 rfl hl (by decide) rfl (fun ls hl => ?_)
        refine lv_iconst (v := 2) hx hb d_Lw_flush_15 (by decide) ?_
        exact gA_iret hf hx hb hr hlocks hK hC Y d_Lw_flush_16
    replace hf := gp_f hE5_14 hf
    cases hf
  refine gA_call (fr := 12) (lo := 282) (o1 := (gR.i x5, X5)) (ig := .invokevirtual 34) (av := [Value.ref (b 0)]) hC Y ⟨Nat.le_refl _, Nat.le_refl _⟩ (fun hc9 hs9 ws h hS hw => K_Le_flush l htr D tys z _ ws h hS t ht b X0 hw hc9 hs9 (gR.i x5, X5) hF5) (gx_invV (As := []) (rest := [Value.int 0, Value.ref (b 116)]) hx hb hown hts km_Lw_34 kI_Le_flush kV_Le_flush kc_Le_flush (by decide) (show (parseMethodDescriptor y_Le_flush.desc).map (fun d => d.parameters.length) = some 0 by decide +kernel) (gy_recv (ci := 0) hK Y rfl gF_0) rfl rfl d_Lw_flush_3) (gx_cwA hts kc_Le_flush kN_Le ⟨Nat.le_of_ble_eq_true rfl, Nat.le_of_ble_eq_true rfl⟩) hb hml hz hK hY hAz hA hl.1 (lv_room (Nat.le_of_ble_eq_true rfl)) d_Lw_flush_3 (fun vz9 b H locs cells slots e9 hb9 hC Y => ?_) (fun xz9 Ez9 ce b H locs cells slots e9 hce hC Y => ?_)
  rotate_left
  · have e9 : (Sum.inr Ez9 : Option Value ⊕ String) = Sum.inl (some (Value.int x5)) := e9
    cases e9
  have e9 : (Sum.inl vz9 : Option Value ⊕ String) = Sum.inl (some (Value.int x5)) := e9
  cases e9
  replace hl : lv_has ls 3 [] := by exact hl
  refine W.eq (g2 := F0 m 6 ls [Value.int x5, Value.int 0, Value.ref (b 116)]) (by rw [hb9 116 (gNm_s (by decide))]; rfl) ?_
  refine lv_i2l (v := x5.toInt64) hx hb d_Lw_flush_6 rfl ?_
  refine gy_last hf hx hb hK Y gF_116 ht6 d_Lw_flush_7 (fun X8 H locs hf Y => ?_)
  refine lv_goto (tgt := 17) hx hb d_Lw_flush_8 (by decide) ?_
  refine lv_iconst (v := 0) hx hb d_Lw_flush_17 (by decide) ?_
  exact gA_iret hf hx hb hr hlocks hK hC Y d_Lw_flush_18

def f_Lw_merge (X0 : gX) (a1 : Int32) : Option (gR × gX) := gCit (f_Le_merge X0 a1) (fun E X => (if E = "java/lang/IllegalArgumentException" then (if X.cc + 1 ≤ gCL ∧ X.ss + 6 ≤ gSL then gB X.ex (fun X2 => some (gR.i 1, X2)) else none) else (if E = "java/lang/IllegalStateException" then (if X.cc + 1 ≤ gCL ∧ X.ss + 6 ≤ gSL then gB X.ex (fun X3 => some (gR.i 2, X3)) else none) else (if E = "java/util/NoSuchElementException" then (if X.cc + 1 ≤ gCL ∧ X.ss + 6 ≤ gSL then gB X.ex (fun X4 => some (gR.i 3, X4)) else none) else (if E = "java/lang/IndexOutOfBoundsException" then (if X.cc + 1 ≤ gCL ∧ X.ss + 6 ≤ gSL then gB X.ex (fun X5 => some (gR.i 4, X5)) else none) else (if E = "java/lang/ArithmeticException" then (if X.cc + 1 ≤ gCL ∧ X.ss + 6 ≤ gSL then gB X.ex (fun X6 => some (gR.i 5, X6)) else none) else none)))))) (fun x1 X1 => gB (X1.w 116 0 x1) (fun X7 => some (gR.i 0, X7)))
set_option maxHeartbeats 4000000 in
set_option maxRecDepth 100000 in
theorem K_Lw_merge (l : Launch) (htr : l.stackTraces = false) (D : va_G) (tys : List (ClassId × FieldType)) (z sz : Nat) (ws : va_W) (h : gm_M) (hM : gm_S h ws) (t : Nat → ClassId) (ht : gTy t tys) (b : Nat → Nat) (X0 : gX) (hw : gw D t b X0 h) (a1 : Int32) (hc0 : X0.cc ≤ gCL) (hs0 : X0.ss ≤ gSL) (o : gR × gX) (hf : f_Lw_merge X0 a1 = some o) : gx_Met l y_Lw_merge [Cond.codeWith y_Lw_merge b_Lw_merge 4 (some .int) [(0, 9, 12, 13), (0, 9, 15, 15), (0, 9, 18, 41), (0, 9, 21, 27), (0, 9, 24, 29)]] { frames := 13, cells := gCL + 1 - X0.cc, slots := gSL + 6 - X0.ss, locals := 308 } (gx_P z sz D classes tys ws [Value.ref (b 0), Value.int a1, Value.ref (b 116)]) (gx_Q D classes tys (va_A ws sz) (gPoA D t b X0 o)) (o.2.cc + gT o.1 - X0.cc) (o.2.ss + 6 * gT o.1 - X0.ss) (va_A ws sz) := by
  refine gx_ofWH (cc := b_Lw_merge) (maxL := 4) (ret := (some .int)) (by decide) ?_
  intro p e s m args below meth c s₁ B hml htab hv
  obtain ⟨rfl, hsz, hz, hP, hK, hD0, hY⟩ := hv
  have hx := B.exec
  have hb := B.bytes
  have hr := B.returns
  have hts := hY.hts (#[Value.ref (b 0), Value.int a1, Value.ref (b 116)] : Array Value)
  have hown : s.vm.findClass "CommitLedgerLaw" = some m.cls := findClass_of_methodNamed B.named
  have hlocks := B.notSynchronized
  subst hsz
  have hAz := gx_az hD0 hz
  have hD := hD0.self (sz := s.heap.size)
  have hA : ∀ q : Nat, s.heap.size ≤ q → va_A ws s.heap.size q := fun q h => Or.inr h
  generalize va_A ws s.heap.size = A at hD hA hAz ⊢
  have Y : gy D t b A s.heap X0 X0 s.heap [] := ⟨h, ⟨ws, hM, hP, hD, va_S.rf⟩, hw, gEq.rf⟩
  clear hP hD hM hD0 hw
  have hC : gC X0 b X0 b 0 0 := gC.rf hc0 hs0
  obtain ⟨ht0, ht1, ht2, ht3, ht4, ht5, ht6, ht7, ht8⟩ := id ht
  have hl := lv_entry ([Value.ref (b 0), Value.int a1, Value.ref (b 116)]) (n := 4) (Nat.le_of_ble_eq_true rfl)
  rw [lg_entry_eq]
  generalize (lg_sl ([Value.ref (b 0), Value.int a1, Value.ref (b 116)]) ++ List.replicate (4 - (lg_sl ([Value.ref (b 0), Value.int a1, Value.ref (b 116)])).length) Slot.unset).toArray = ls at hl ⊢
  have hl : lv_has ls 4 [(0, Value.ref (b 0)), (1, Value.int a1), (2, Value.ref (b 116))] := hl
  unfold f_Lw_merge at hf
  refine lv_aload_n hx hb d_Lw_merge_0 rfl (lv_at hl 2 rfl) ?_
  refine lv_iconst (v := 0) hx hb d_Lw_merge_1 (by decide) ?_
  refine lv_aload_n hx hb d_Lw_merge_2 rfl (lv_at hl 0 rfl) ?_
  refine lv_iload_n hx hb d_Lw_merge_3 rfl (lv_at hl 1 rfl) ?_
  have hl : lv_has ls 4 [] := lv_sub hl [] rfl
  rcases gCit_el hf with ⟨x8, X8, hF8, hf⟩ | ⟨E8, X8, hF8, hf⟩
  rotate_left
  · by_cases hE8_12 : E8 = "java/lang/IllegalArgumentException"
    · replace hf := gp_t hE8_12 hf
      subst hE8_12
      refine gA_call (fr := 12) (lo := 286) (o1 := (gR.t "java/lang/IllegalArgumentException", X8)) (ig := .invokevirtual 38) (av := [Value.ref (b 0), Value.int a1]) hC Y ⟨Nat.le_refl _, Nat.le_refl _⟩ (fun hc9 hs9 ws h hS hw => K_Le_merge l htr D tys z _ ws h hS t ht b X0 hw a1 hc9 hs9 (gR.t "java/lang/IllegalArgumentException", X8) hF8) (gx_invV (As := [Value.int a1]) (rest := [Value.int 0, Value.ref (b 116)]) hx hb hown hts km_Lw_38 kI_Le_merge kV_Le_merge kc_Le_merge (by decide) (show (parseMethodDescriptor y_Le_merge.desc).map (fun d => d.parameters.length) = some 1 by decide +kernel) (gy_recv (ci := 0) hK Y rfl gF_0) rfl rfl d_Lw_merge_4) (gx_cwA hts kc_Le_merge kN_Le ⟨Nat.le_of_ble_eq_true rfl, Nat.le_of_ble_eq_true rfl⟩) hb hml hz hK hY hAz hA hl.1 (lv_room (Nat.le_of_ble_eq_true rfl)) d_Lw_merge_4 (fun vz9 b H locs cells slots e9 hb9 hC Y => ?_) (fun xz9 Ez9 ce b H locs cells slots e9 hce hC Y => ?_)
      · have e9 : (Sum.inl vz9 : Option Value ⊕ String) = Sum.inr "java/lang/IllegalArgumentException" := e9
        cases e9
      · have e9 : (Sum.inr Ez9 : Option Value ⊕ String) = Sum.inr "java/lang/IllegalArgumentException" := e9
        cases e9
        refine gx_catch (E := "java/lang/IllegalArgumentException") (hp := 12) hown htab (Or.inr ⟨⟨by show 0 ≤ 4; decide, by show 4 < 9; decide⟩, by decide, "java/lang/IllegalArgumentException", hts _ kk_Lw_13, Or.inl ⟨rfl, hts _ kB_IllegalArgumentException⟩⟩) hce ?_
        refine gA_exc hf hC Y (fun X9 cells slots hf hC Y => ?_)
        have hl : lv_has ls 4 [] := lv_sub hl [] rfl
        refine lv_astore_n (lv' := [(3, Value.ref xz9)]) hx hb d_Lw_merge_12 rfl hl (by decide) rfl (fun ls hl => ?_)
        refine lv_iconst (v := 1) hx hb d_Lw_merge_13 (by decide) ?_
        exact gA_iret hf hx hb hr hlocks hK hC Y d_Lw_merge_14
    replace hf := gp_f hE8_12 hf
    by_cases hE8_15 : E8 = "java/lang/IllegalStateException"
    · replace hf := gp_t hE8_15 hf
      subst hE8_15
      refine gA_call (fr := 12) (lo := 286) (o1 := (gR.t "java/lang/IllegalStateException", X8)) (ig := .invokevirtual 38) (av := [Value.ref (b 0), Value.int a1]) hC Y ⟨Nat.le_refl _, Nat.le_refl _⟩ (fun hc9 hs9 ws h hS hw => K_Le_merge l htr D tys z _ ws h hS t ht b X0 hw a1 hc9 hs9 (gR.t "java/lang/IllegalStateException", X8) hF8) (gx_invV (As := [Value.int a1]) (rest := [Value.int 0, Value.ref (b 116)]) hx hb hown hts km_Lw_38 kI_Le_merge kV_Le_merge kc_Le_merge (by decide) (show (parseMethodDescriptor y_Le_merge.desc).map (fun d => d.parameters.length) = some 1 by decide +kernel) (gy_recv (ci := 0) hK Y rfl gF_0) rfl rfl d_Lw_merge_4) (gx_cwA hts kc_Le_merge kN_Le ⟨Nat.le_of_ble_eq_true rfl, Nat.le_of_ble_eq_true rfl⟩) hb hml hz hK hY hAz hA hl.1 (lv_room (Nat.le_of_ble_eq_true rfl)) d_Lw_merge_4 (fun vz9 b H locs cells slots e9 hb9 hC Y => ?_) (fun xz9 Ez9 ce b H locs cells slots e9 hce hC Y => ?_)
      · have e9 : (Sum.inl vz9 : Option Value ⊕ String) = Sum.inr "java/lang/IllegalStateException" := e9
        cases e9
      · have e9 : (Sum.inr Ez9 : Option Value ⊕ String) = Sum.inr "java/lang/IllegalStateException" := e9
        cases e9
        refine gx_catch (E := "java/lang/IllegalStateException") (hp := 15) hown htab (Or.inr ⟨⟨by show 0 ≤ 4; decide, by show 4 < 9; decide⟩, by decide, "java/lang/IllegalArgumentException", hts _ kk_Lw_13, Or.inr ⟨hts _ kZ_IllegalStateException_IllegalArgumentException, (Or.inr ⟨⟨by show 0 ≤ 4; decide, by show 4 < 9; decide⟩, by decide, "java/lang/IllegalStateException", hts _ kk_Lw_15, Or.inl ⟨rfl, hts _ kB_IllegalStateException⟩⟩)⟩⟩) hce ?_
        refine gA_exc hf hC Y (fun X10 cells slots hf hC Y => ?_)
        have hl : lv_has ls 4 [] := lv_sub hl [] rfl
        refine lv_astore_n (lv' := [(3, Value.ref xz9)]) hx hb d_Lw_merge_15 rfl hl (by decide) rfl (fun ls hl => ?_)
        refine lv_iconst (v := 2) hx hb d_Lw_merge_16 (by decide) ?_
        exact gA_iret hf hx hb hr hlocks hK hC Y d_Lw_merge_17
    replace hf := gp_f hE8_15 hf
    by_cases hE8_18 : E8 = "java/util/NoSuchElementException"
    · replace hf := gp_t hE8_18 hf
      subst hE8_18
      refine gA_call (fr := 12) (lo := 286) (o1 := (gR.t "java/util/NoSuchElementException", X8)) (ig := .invokevirtual 38) (av := [Value.ref (b 0), Value.int a1]) hC Y ⟨Nat.le_refl _, Nat.le_refl _⟩ (fun hc9 hs9 ws h hS hw => K_Le_merge l htr D tys z _ ws h hS t ht b X0 hw a1 hc9 hs9 (gR.t "java/util/NoSuchElementException", X8) hF8) (gx_invV (As := [Value.int a1]) (rest := [Value.int 0, Value.ref (b 116)]) hx hb hown hts km_Lw_38 kI_Le_merge kV_Le_merge kc_Le_merge (by decide) (show (parseMethodDescriptor y_Le_merge.desc).map (fun d => d.parameters.length) = some 1 by decide +kernel) (gy_recv (ci := 0) hK Y rfl gF_0) rfl rfl d_Lw_merge_4) (gx_cwA hts kc_Le_merge kN_Le ⟨Nat.le_of_ble_eq_true rfl, Nat.le_of_ble_eq_true rfl⟩) hb hml hz hK hY hAz hA hl.1 (lv_room (Nat.le_of_ble_eq_true rfl)) d_Lw_merge_4 (fun vz9 b H locs cells slots e9 hb9 hC Y => ?_) (fun xz9 Ez9 ce b H locs cells slots e9 hce hC Y => ?_)
      · have e9 : (Sum.inl vz9 : Option Value ⊕ String) = Sum.inr "java/util/NoSuchElementException" := e9
        cases e9
      · have e9 : (Sum.inr Ez9 : Option Value ⊕ String) = Sum.inr "java/util/NoSuchElementException" := e9
        cases e9
        refine gx_catch (E := "java/util/NoSuchElementException") (hp := 18) hown htab (Or.inr ⟨⟨by show 0 ≤ 4; decide, by show 4 < 9; decide⟩, by decide, "java/lang/IllegalArgumentException", hts _ kk_Lw_13, Or.inr ⟨hts _ kZ_NoSuchElementException_IllegalArgumentException, (Or.inr ⟨⟨by show 0 ≤ 4; decide, by show 4 < 9; decide⟩, by decide, "java/lang/IllegalStateException", hts _ kk_Lw_15, Or.inr ⟨hts _ kZ_NoSuchElementException_IllegalStateException, (Or.inr ⟨⟨by show 0 ≤ 4; decide, by show 4 < 9; decide⟩, by decide, "java/util/NoSuchElementException", hts _ kk_Lw_41, Or.inl ⟨rfl, hts _ kB_NoSuchElementException⟩⟩)⟩⟩)⟩⟩) hce ?_
        refine gA_exc hf hC Y (fun X11 cells slots hf hC Y => ?_)
        have hl : lv_has ls 4 [] := lv_sub hl [] rfl
        refine lv_astore_n (lv' := [(3, Value.ref xz9)]) hx hb d_Lw_merge_18 rfl hl (by decide) rfl (fun ls hl => ?_)
        refine lv_iconst (v := 3) hx hb d_Lw_merge_19 (by decide) ?_
        exact gA_iret hf hx hb hr hlocks hK hC Y d_Lw_merge_20
    replace hf := gp_f hE8_18 hf
    by_cases hE8_21 : E8 = "java/lang/IndexOutOfBoundsException"
    · replace hf := gp_t hE8_21 hf
      subst hE8_21
      refine gA_call (fr := 12) (lo := 286) (o1 := (gR.t "java/lang/IndexOutOfBoundsException", X8)) (ig := .invokevirtual 38) (av := [Value.ref (b 0), Value.int a1]) hC Y ⟨Nat.le_refl _, Nat.le_refl _⟩ (fun hc9 hs9 ws h hS hw => K_Le_merge l htr D tys z _ ws h hS t ht b X0 hw a1 hc9 hs9 (gR.t "java/lang/IndexOutOfBoundsException", X8) hF8) (gx_invV (As := [Value.int a1]) (rest := [Value.int 0, Value.ref (b 116)]) hx hb hown hts km_Lw_38 kI_Le_merge kV_Le_merge kc_Le_merge (by decide) (show (parseMethodDescriptor y_Le_merge.desc).map (fun d => d.parameters.length) = some 1 by decide +kernel) (gy_recv (ci := 0) hK Y rfl gF_0) rfl rfl d_Lw_merge_4) (gx_cwA hts kc_Le_merge kN_Le ⟨Nat.le_of_ble_eq_true rfl, Nat.le_of_ble_eq_true rfl⟩) hb hml hz hK hY hAz hA hl.1 (lv_room (Nat.le_of_ble_eq_true rfl)) d_Lw_merge_4 (fun vz9 b H locs cells slots e9 hb9 hC Y => ?_) (fun xz9 Ez9 ce b H locs cells slots e9 hce hC Y => ?_)
      · have e9 : (Sum.inl vz9 : Option Value ⊕ String) = Sum.inr "java/lang/IndexOutOfBoundsException" := e9
        cases e9
      · have e9 : (Sum.inr Ez9 : Option Value ⊕ String) = Sum.inr "java/lang/IndexOutOfBoundsException" := e9
        cases e9
        refine gx_catch (E := "java/lang/IndexOutOfBoundsException") (hp := 21) hown htab (Or.inr ⟨⟨by show 0 ≤ 4; decide, by show 4 < 9; decide⟩, by decide, "java/lang/IllegalArgumentException", hts _ kk_Lw_13, Or.inr ⟨hts _ kZ_IndexOutOfBoundsException_IllegalArgumentException, (Or.inr ⟨⟨by show 0 ≤ 4; decide, by show 4 < 9; decide⟩, by decide, "java/lang/IllegalStateException", hts _ kk_Lw_15, Or.inr ⟨hts _ kZ_IndexOutOfBoundsException_IllegalStateException, (Or.inr ⟨⟨by show 0 ≤ 4; decide, by show 4 < 9; decide⟩, by decide, "java/util/NoSuchElementException", hts _ kk_Lw_41, Or.inr ⟨hts _ kZ_IndexOutOfBoundsException_NoSuchElementException, (Or.inr ⟨⟨by show 0 ≤ 4; decide, by show 4 < 9; decide⟩, by decide, "java/lang/IndexOutOfBoundsException", hts _ kk_Lw_27, Or.inl ⟨rfl, hts _ kB_IndexOutOfBoundsException⟩⟩)⟩⟩)⟩⟩)⟩⟩) hce ?_
        refine gA_exc hf hC Y (fun X12 cells slots hf hC Y => ?_)
        have hl : lv_has ls 4 [] := lv_sub hl [] rfl
        refine lv_astore_n (lv' := [(3, Value.ref xz9)]) hx hb d_Lw_merge_21 rfl hl (by decide) rfl (fun ls hl => ?_)
        refine lv_iconst (v := 4) hx hb d_Lw_merge_22 (by decide) ?_
        exact gA_iret hf hx hb hr hlocks hK hC Y d_Lw_merge_23
    replace hf := gp_f hE8_21 hf
    by_cases hE8_24 : E8 = "java/lang/ArithmeticException"
    · replace hf := gp_t hE8_24 hf
      subst hE8_24
      refine gA_call (fr := 12) (lo := 286) (o1 := (gR.t "java/lang/ArithmeticException", X8)) (ig := .invokevirtual 38) (av := [Value.ref (b 0), Value.int a1]) hC Y ⟨Nat.le_refl _, Nat.le_refl _⟩ (fun hc9 hs9 ws h hS hw => K_Le_merge l htr D tys z _ ws h hS t ht b X0 hw a1 hc9 hs9 (gR.t "java/lang/ArithmeticException", X8) hF8) (gx_invV (As := [Value.int a1]) (rest := [Value.int 0, Value.ref (b 116)]) hx hb hown hts km_Lw_38 kI_Le_merge kV_Le_merge kc_Le_merge (by decide) (show (parseMethodDescriptor y_Le_merge.desc).map (fun d => d.parameters.length) = some 1 by decide +kernel) (gy_recv (ci := 0) hK Y rfl gF_0) rfl rfl d_Lw_merge_4) (gx_cwA hts kc_Le_merge kN_Le ⟨Nat.le_of_ble_eq_true rfl, Nat.le_of_ble_eq_true rfl⟩) hb hml hz hK hY hAz hA hl.1 (lv_room (Nat.le_of_ble_eq_true rfl)) d_Lw_merge_4 (fun vz9 b H locs cells slots e9 hb9 hC Y => ?_) (fun xz9 Ez9 ce b H locs cells slots e9 hce hC Y => ?_)
      · have e9 : (Sum.inl vz9 : Option Value ⊕ String) = Sum.inr "java/lang/ArithmeticException" := e9
        cases e9
      · have e9 : (Sum.inr Ez9 : Option Value ⊕ String) = Sum.inr "java/lang/ArithmeticException" := e9
        cases e9
        refine gx_catch (E := "java/lang/ArithmeticException") (hp := 24) hown htab (Or.inr ⟨⟨by show 0 ≤ 4; decide, by show 4 < 9; decide⟩, by decide, "java/lang/IllegalArgumentException", hts _ kk_Lw_13, Or.inr ⟨hts _ kZ_ArithmeticException_IllegalArgumentException, (Or.inr ⟨⟨by show 0 ≤ 4; decide, by show 4 < 9; decide⟩, by decide, "java/lang/IllegalStateException", hts _ kk_Lw_15, Or.inr ⟨hts _ kZ_ArithmeticException_IllegalStateException, (Or.inr ⟨⟨by show 0 ≤ 4; decide, by show 4 < 9; decide⟩, by decide, "java/util/NoSuchElementException", hts _ kk_Lw_41, Or.inr ⟨hts _ kZ_ArithmeticException_NoSuchElementException, (Or.inr ⟨⟨by show 0 ≤ 4; decide, by show 4 < 9; decide⟩, by decide, "java/lang/IndexOutOfBoundsException", hts _ kk_Lw_27, Or.inr ⟨hts _ kZ_ArithmeticException_IndexOutOfBoundsException, (Or.inr ⟨⟨by show 0 ≤ 4; decide, by show 4 < 9; decide⟩, by decide, "java/lang/ArithmeticException", hts _ kk_Lw_29, Or.inl ⟨rfl, hts _ kB_ArithmeticException⟩⟩)⟩⟩)⟩⟩)⟩⟩)⟩⟩) hce ?_
        refine gA_exc hf hC Y (fun X13 cells slots hf hC Y => ?_)
        have hl : lv_has ls 4 [] := lv_sub hl [] rfl
        refine lv_astore_n (lv' := [(3, Value.ref xz9)]) hx hb d_Lw_merge_24 rfl hl (by decide) rfl (fun ls hl => ?_)
        refine lv_iconst (v := 5) hx hb d_Lw_merge_25 (by decide) ?_
        exact gA_iret hf hx hb hr hlocks hK hC Y d_Lw_merge_26
    replace hf := gp_f hE8_24 hf
    cases hf
  refine gA_call (fr := 12) (lo := 286) (o1 := (gR.i x8, X8)) (ig := .invokevirtual 38) (av := [Value.ref (b 0), Value.int a1]) hC Y ⟨Nat.le_refl _, Nat.le_refl _⟩ (fun hc9 hs9 ws h hS hw => K_Le_merge l htr D tys z _ ws h hS t ht b X0 hw a1 hc9 hs9 (gR.i x8, X8) hF8) (gx_invV (As := [Value.int a1]) (rest := [Value.int 0, Value.ref (b 116)]) hx hb hown hts km_Lw_38 kI_Le_merge kV_Le_merge kc_Le_merge (by decide) (show (parseMethodDescriptor y_Le_merge.desc).map (fun d => d.parameters.length) = some 1 by decide +kernel) (gy_recv (ci := 0) hK Y rfl gF_0) rfl rfl d_Lw_merge_4) (gx_cwA hts kc_Le_merge kN_Le ⟨Nat.le_of_ble_eq_true rfl, Nat.le_of_ble_eq_true rfl⟩) hb hml hz hK hY hAz hA hl.1 (lv_room (Nat.le_of_ble_eq_true rfl)) d_Lw_merge_4 (fun vz9 b H locs cells slots e9 hb9 hC Y => ?_) (fun xz9 Ez9 ce b H locs cells slots e9 hce hC Y => ?_)
  rotate_left
  · have e9 : (Sum.inr Ez9 : Option Value ⊕ String) = Sum.inl (some (Value.int x8)) := e9
    cases e9
  have e9 : (Sum.inl vz9 : Option Value ⊕ String) = Sum.inl (some (Value.int x8)) := e9
  cases e9
  replace hl : lv_has ls 4 [] := by exact hl
  refine W.eq (g2 := F0 m 7 ls [Value.int x8, Value.int 0, Value.ref (b 116)]) (by rw [hb9 116 (gNm_s (by decide))]; rfl) ?_
  refine lv_i2l (v := x8.toInt64) hx hb d_Lw_merge_7 rfl ?_
  refine gy_last hf hx hb hK Y gF_116 ht6 d_Lw_merge_8 (fun X14 H locs hf Y => ?_)
  refine lv_goto (tgt := 27) hx hb d_Lw_merge_9 (by decide) ?_
  refine lv_iconst (v := 0) hx hb d_Lw_merge_27 (by decide) ?_
  exact gA_iret hf hx hb hr hlocks hK hC Y d_Lw_merge_28

def f_Lw_finish (X0 : gX) (a1 : Int32) (a2 : Int32) : Option (gR × gX) := gCit (f_Le_finish X0 a1 a2) (fun E X => (if E = "java/lang/IllegalStateException" then (if X.cc + 1 ≤ gCL ∧ X.ss + 6 ≤ gSL then gB X.ex (fun X2 => some (gR.i 1, X2)) else none) else (if E = "java/util/NoSuchElementException" then (if X.cc + 1 ≤ gCL ∧ X.ss + 6 ≤ gSL then gB X.ex (fun X3 => some (gR.i 2, X3)) else none) else none))) (fun x1 X1 => gB (X1.w 116 0 x1) (fun X4 => some (gR.i 0, X4)))
set_option maxHeartbeats 4000000 in
set_option maxRecDepth 100000 in
theorem K_Lw_finish (l : Launch) (htr : l.stackTraces = false) (D : va_G) (tys : List (ClassId × FieldType)) (z sz : Nat) (ws : va_W) (h : gm_M) (hM : gm_S h ws) (t : Nat → ClassId) (ht : gTy t tys) (b : Nat → Nat) (X0 : gX) (hw : gw D t b X0 h) (a1 : Int32) (a2 : Int32) (hc0 : X0.cc ≤ gCL) (hs0 : X0.ss ≤ gSL) (o : gR × gX) (hf : f_Lw_finish X0 a1 a2 = some o) : gx_Met l y_Lw_finish [Cond.codeWith y_Lw_finish b_Lw_finish 5 (some .int) [(0, 10, 13, 15), (0, 10, 17, 41)]] { frames := 12, cells := gCL + 1 - X0.cc, slots := gSL + 6 - X0.ss, locals := 288 } (gx_P z sz D classes tys ws [Value.ref (b 0), Value.int a1, Value.int a2, Value.ref (b 116)]) (gx_Q D classes tys (va_A ws sz) (gPoA D t b X0 o)) (o.2.cc + gT o.1 - X0.cc) (o.2.ss + 6 * gT o.1 - X0.ss) (va_A ws sz) := by
  refine gx_ofWH (cc := b_Lw_finish) (maxL := 5) (ret := (some .int)) (by decide) ?_
  intro p e s m args below meth c s₁ B hml htab hv
  obtain ⟨rfl, hsz, hz, hP, hK, hD0, hY⟩ := hv
  have hx := B.exec
  have hb := B.bytes
  have hr := B.returns
  have hts := hY.hts (#[Value.ref (b 0), Value.int a1, Value.int a2, Value.ref (b 116)] : Array Value)
  have hown : s.vm.findClass "CommitLedgerLaw" = some m.cls := findClass_of_methodNamed B.named
  have hlocks := B.notSynchronized
  subst hsz
  have hAz := gx_az hD0 hz
  have hD := hD0.self (sz := s.heap.size)
  have hA : ∀ q : Nat, s.heap.size ≤ q → va_A ws s.heap.size q := fun q h => Or.inr h
  generalize va_A ws s.heap.size = A at hD hA hAz ⊢
  have Y : gy D t b A s.heap X0 X0 s.heap [] := ⟨h, ⟨ws, hM, hP, hD, va_S.rf⟩, hw, gEq.rf⟩
  clear hP hD hM hD0 hw
  have hC : gC X0 b X0 b 0 0 := gC.rf hc0 hs0
  obtain ⟨ht0, ht1, ht2, ht3, ht4, ht5, ht6, ht7, ht8⟩ := id ht
  have hl := lv_entry ([Value.ref (b 0), Value.int a1, Value.int a2, Value.ref (b 116)]) (n := 5) (Nat.le_of_ble_eq_true rfl)
  rw [lg_entry_eq]
  generalize (lg_sl ([Value.ref (b 0), Value.int a1, Value.int a2, Value.ref (b 116)]) ++ List.replicate (5 - (lg_sl ([Value.ref (b 0), Value.int a1, Value.int a2, Value.ref (b 116)])).length) Slot.unset).toArray = ls at hl ⊢
  have hl : lv_has ls 5 [(0, Value.ref (b 0)), (1, Value.int a1), (2, Value.int a2), (3, Value.ref (b 116))] := hl
  unfold f_Lw_finish at hf
  refine lv_aload_n hx hb d_Lw_finish_0 rfl (lv_at hl 3 rfl) ?_
  refine lv_iconst (v := 0) hx hb d_Lw_finish_1 (by decide) ?_
  refine lv_aload_n hx hb d_Lw_finish_2 rfl (lv_at hl 0 rfl) ?_
  refine lv_iload_n hx hb d_Lw_finish_3 rfl (lv_at hl 1 rfl) ?_
  refine lv_iload_n hx hb d_Lw_finish_4 rfl (lv_at hl 2 rfl) ?_
  have hl : lv_has ls 5 [] := lv_sub hl [] rfl
  rcases gCit_el hf with ⟨x5, X5, hF5, hf⟩ | ⟨E5, X5, hF5, hf⟩
  rotate_left
  · by_cases hE5_13 : E5 = "java/lang/IllegalStateException"
    · replace hf := gp_t hE5_13 hf
      subst hE5_13
      refine gA_call (fr := 11) (lo := 265) (o1 := (gR.t "java/lang/IllegalStateException", X5)) (ig := .invokevirtual 43) (av := [Value.ref (b 0), Value.int a1, Value.int a2]) hC Y ⟨Nat.le_refl _, Nat.le_refl _⟩ (fun hc9 hs9 ws h hS hw => K_Le_finish l htr D tys z _ ws h hS t ht b X0 hw a1 a2 hc9 hs9 (gR.t "java/lang/IllegalStateException", X5) hF5) (gx_invV (As := [Value.int a1, Value.int a2]) (rest := [Value.int 0, Value.ref (b 116)]) hx hb hown hts km_Lw_43 kI_Le_finish kV_Le_finish kc_Le_finish (by decide) (show (parseMethodDescriptor y_Le_finish.desc).map (fun d => d.parameters.length) = some 2 by decide +kernel) (gy_recv (ci := 0) hK Y rfl gF_0) rfl rfl d_Lw_finish_5) (gx_cwA hts kc_Le_finish kN_Le ⟨Nat.le_of_ble_eq_true rfl, Nat.le_of_ble_eq_true rfl⟩) hb hml hz hK hY hAz hA hl.1 (lv_room (Nat.le_of_ble_eq_true rfl)) d_Lw_finish_5 (fun vz9 b H locs cells slots e9 hb9 hC Y => ?_) (fun xz9 Ez9 ce b H locs cells slots e9 hce hC Y => ?_)
      · have e9 : (Sum.inl vz9 : Option Value ⊕ String) = Sum.inr "java/lang/IllegalStateException" := e9
        cases e9
      · have e9 : (Sum.inr Ez9 : Option Value ⊕ String) = Sum.inr "java/lang/IllegalStateException" := e9
        cases e9
        refine gx_catch (E := "java/lang/IllegalStateException") (hp := 13) hown htab (Or.inr ⟨⟨by show 0 ≤ 5; decide, by show 5 < 10; decide⟩, by decide, "java/lang/IllegalStateException", hts _ kk_Lw_15, Or.inl ⟨rfl, hts _ kB_IllegalStateException⟩⟩) hce ?_
        refine gA_exc hf hC Y (fun X6 cells slots hf hC Y => ?_)
        have hl : lv_has ls 5 [] := lv_sub hl [] rfl
        refine lv_astore (lv' := [(4, Value.ref xz9)]) hx hb d_Lw_finish_13 hl (by decide) rfl (fun ls hl => ?_)
        refine lv_iconst (v := 1) hx hb d_Lw_finish_15 (by decide) ?_
        exact gA_iret hf hx hb hr hlocks hK hC Y d_Lw_finish_16
    replace hf := gp_f hE5_13 hf
    by_cases hE5_17 : E5 = "java/util/NoSuchElementException"
    · replace hf := gp_t hE5_17 hf
      subst hE5_17
      refine gA_call (fr := 11) (lo := 265) (o1 := (gR.t "java/util/NoSuchElementException", X5)) (ig := .invokevirtual 43) (av := [Value.ref (b 0), Value.int a1, Value.int a2]) hC Y ⟨Nat.le_refl _, Nat.le_refl _⟩ (fun hc9 hs9 ws h hS hw => K_Le_finish l htr D tys z _ ws h hS t ht b X0 hw a1 a2 hc9 hs9 (gR.t "java/util/NoSuchElementException", X5) hF5) (gx_invV (As := [Value.int a1, Value.int a2]) (rest := [Value.int 0, Value.ref (b 116)]) hx hb hown hts km_Lw_43 kI_Le_finish kV_Le_finish kc_Le_finish (by decide) (show (parseMethodDescriptor y_Le_finish.desc).map (fun d => d.parameters.length) = some 2 by decide +kernel) (gy_recv (ci := 0) hK Y rfl gF_0) rfl rfl d_Lw_finish_5) (gx_cwA hts kc_Le_finish kN_Le ⟨Nat.le_of_ble_eq_true rfl, Nat.le_of_ble_eq_true rfl⟩) hb hml hz hK hY hAz hA hl.1 (lv_room (Nat.le_of_ble_eq_true rfl)) d_Lw_finish_5 (fun vz9 b H locs cells slots e9 hb9 hC Y => ?_) (fun xz9 Ez9 ce b H locs cells slots e9 hce hC Y => ?_)
      · have e9 : (Sum.inl vz9 : Option Value ⊕ String) = Sum.inr "java/util/NoSuchElementException" := e9
        cases e9
      · have e9 : (Sum.inr Ez9 : Option Value ⊕ String) = Sum.inr "java/util/NoSuchElementException" := e9
        cases e9
        refine gx_catch (E := "java/util/NoSuchElementException") (hp := 17) hown htab (Or.inr ⟨⟨by show 0 ≤ 5; decide, by show 5 < 10; decide⟩, by decide, "java/lang/IllegalStateException", hts _ kk_Lw_15, Or.inr ⟨hts _ kZ_NoSuchElementException_IllegalStateException, (Or.inr ⟨⟨by show 0 ≤ 5; decide, by show 5 < 10; decide⟩, by decide, "java/util/NoSuchElementException", hts _ kk_Lw_41, Or.inl ⟨rfl, hts _ kB_NoSuchElementException⟩⟩)⟩⟩) hce ?_
        refine gA_exc hf hC Y (fun X7 cells slots hf hC Y => ?_)
        have hl : lv_has ls 5 [] := lv_sub hl [] rfl
        refine lv_astore (lv' := [(4, Value.ref xz9)]) hx hb d_Lw_finish_17 hl (by decide) rfl (fun ls hl => ?_)
        refine lv_iconst (v := 2) hx hb d_Lw_finish_19 (by decide) ?_
        exact gA_iret hf hx hb hr hlocks hK hC Y d_Lw_finish_20
    replace hf := gp_f hE5_17 hf
    cases hf
  refine gA_call (fr := 11) (lo := 265) (o1 := (gR.i x5, X5)) (ig := .invokevirtual 43) (av := [Value.ref (b 0), Value.int a1, Value.int a2]) hC Y ⟨Nat.le_refl _, Nat.le_refl _⟩ (fun hc9 hs9 ws h hS hw => K_Le_finish l htr D tys z _ ws h hS t ht b X0 hw a1 a2 hc9 hs9 (gR.i x5, X5) hF5) (gx_invV (As := [Value.int a1, Value.int a2]) (rest := [Value.int 0, Value.ref (b 116)]) hx hb hown hts km_Lw_43 kI_Le_finish kV_Le_finish kc_Le_finish (by decide) (show (parseMethodDescriptor y_Le_finish.desc).map (fun d => d.parameters.length) = some 2 by decide +kernel) (gy_recv (ci := 0) hK Y rfl gF_0) rfl rfl d_Lw_finish_5) (gx_cwA hts kc_Le_finish kN_Le ⟨Nat.le_of_ble_eq_true rfl, Nat.le_of_ble_eq_true rfl⟩) hb hml hz hK hY hAz hA hl.1 (lv_room (Nat.le_of_ble_eq_true rfl)) d_Lw_finish_5 (fun vz9 b H locs cells slots e9 hb9 hC Y => ?_) (fun xz9 Ez9 ce b H locs cells slots e9 hce hC Y => ?_)
  rotate_left
  · have e9 : (Sum.inr Ez9 : Option Value ⊕ String) = Sum.inl (some (Value.int x5)) := e9
    cases e9
  have e9 : (Sum.inl vz9 : Option Value ⊕ String) = Sum.inl (some (Value.int x5)) := e9
  cases e9
  replace hl : lv_has ls 5 [] := by exact hl
  refine W.eq (g2 := F0 m 8 ls [Value.int x5, Value.int 0, Value.ref (b 116)]) (by rw [hb9 116 (gNm_s (by decide))]; rfl) ?_
  refine lv_i2l (v := x5.toInt64) hx hb d_Lw_finish_8 rfl ?_
  refine gy_last hf hx hb hK Y gF_116 ht6 d_Lw_finish_9 (fun X8 H locs hf Y => ?_)
  refine lv_goto (tgt := 21) hx hb d_Lw_finish_10 (by decide) ?_
  refine lv_iconst (v := 0) hx hb d_Lw_finish_21 (by decide) ?_
  exact gA_iret hf hx hb hr hlocks hK hC Y d_Lw_finish_22

def f_Lw_prepare (X0 : gX) : Option (gR × gX) := gCit (f_Le_prepare X0) (fun E X => (if E = "java/lang/IllegalStateException" then (if X.cc + 1 ≤ gCL ∧ X.ss + 6 ≤ gSL then gB X.ex (fun X2 => some (gR.i 1, X2)) else none) else (if E = "java/lang/ArithmeticException" then (if X.cc + 1 ≤ gCL ∧ X.ss + 6 ≤ gSL then gB X.ex (fun X3 => some (gR.i 2, X3)) else none) else none))) (fun x1 X1 => gB (X1.w 116 0 x1) (fun X4 => some (gR.i 0, X4)))
set_option maxHeartbeats 4000000 in
set_option maxRecDepth 100000 in
theorem K_Lw_prepare (l : Launch) (htr : l.stackTraces = false) (D : va_G) (tys : List (ClassId × FieldType)) (z sz : Nat) (ws : va_W) (h : gm_M) (hM : gm_S h ws) (t : Nat → ClassId) (ht : gTy t tys) (b : Nat → Nat) (X0 : gX) (hw : gw D t b X0 h) (hc0 : X0.cc ≤ gCL) (hs0 : X0.ss ≤ gSL) (o : gR × gX) (hf : f_Lw_prepare X0 = some o) : gx_Met l y_Lw_prepare [Cond.codeWith y_Lw_prepare b_Lw_prepare 3 (some .int) [(0, 8, 11, 15), (0, 8, 14, 29)]] { frames := 15, cells := gCL + 1 - X0.cc, slots := gSL + 6 - X0.ss, locals := 344 } (gx_P z sz D classes tys ws [Value.ref (b 0), Value.ref (b 116)]) (gx_Q D classes tys (va_A ws sz) (gPoA D t b X0 o)) (o.2.cc + gT o.1 - X0.cc) (o.2.ss + 6 * gT o.1 - X0.ss) (va_A ws sz) := by
  refine gx_ofWH (cc := b_Lw_prepare) (maxL := 3) (ret := (some .int)) (by decide) ?_
  intro p e s m args below meth c s₁ B hml htab hv
  obtain ⟨rfl, hsz, hz, hP, hK, hD0, hY⟩ := hv
  have hx := B.exec
  have hb := B.bytes
  have hr := B.returns
  have hts := hY.hts (#[Value.ref (b 0), Value.ref (b 116)] : Array Value)
  have hown : s.vm.findClass "CommitLedgerLaw" = some m.cls := findClass_of_methodNamed B.named
  have hlocks := B.notSynchronized
  subst hsz
  have hAz := gx_az hD0 hz
  have hD := hD0.self (sz := s.heap.size)
  have hA : ∀ q : Nat, s.heap.size ≤ q → va_A ws s.heap.size q := fun q h => Or.inr h
  generalize va_A ws s.heap.size = A at hD hA hAz ⊢
  have Y : gy D t b A s.heap X0 X0 s.heap [] := ⟨h, ⟨ws, hM, hP, hD, va_S.rf⟩, hw, gEq.rf⟩
  clear hP hD hM hD0 hw
  have hC : gC X0 b X0 b 0 0 := gC.rf hc0 hs0
  obtain ⟨ht0, ht1, ht2, ht3, ht4, ht5, ht6, ht7, ht8⟩ := id ht
  have hl := lv_entry ([Value.ref (b 0), Value.ref (b 116)]) (n := 3) (Nat.le_of_ble_eq_true rfl)
  rw [lg_entry_eq]
  generalize (lg_sl ([Value.ref (b 0), Value.ref (b 116)]) ++ List.replicate (3 - (lg_sl ([Value.ref (b 0), Value.ref (b 116)])).length) Slot.unset).toArray = ls at hl ⊢
  have hl : lv_has ls 3 [(0, Value.ref (b 0)), (1, Value.ref (b 116))] := hl
  unfold f_Lw_prepare at hf
  refine lv_aload_n hx hb d_Lw_prepare_0 rfl (lv_at hl 1 rfl) ?_
  refine lv_iconst (v := 0) hx hb d_Lw_prepare_1 (by decide) ?_
  refine lv_aload_n hx hb d_Lw_prepare_2 rfl (lv_at hl 0 rfl) ?_
  have hl : lv_has ls 3 [] := lv_sub hl [] rfl
  rcases gCit_el hf with ⟨x5, X5, hF5, hf⟩ | ⟨E5, X5, hF5, hf⟩
  rotate_left
  · by_cases hE5_11 : E5 = "java/lang/IllegalStateException"
    · replace hf := gp_t hE5_11 hf
      subst hE5_11
      refine gA_call (fr := 14) (lo := 324) (o1 := (gR.t "java/lang/IllegalStateException", X5)) (ig := .invokevirtual 47) (av := [Value.ref (b 0)]) hC Y ⟨Nat.le_refl _, Nat.le_refl _⟩ (fun hc9 hs9 ws h hS hw => K_Le_prepare l htr D tys z _ ws h hS t ht b X0 hw hc9 hs9 (gR.t "java/lang/IllegalStateException", X5) hF5) (gx_invV (As := []) (rest := [Value.int 0, Value.ref (b 116)]) hx hb hown hts km_Lw_47 kI_Le_prepare kV_Le_prepare kc_Le_prepare (by decide) (show (parseMethodDescriptor y_Le_prepare.desc).map (fun d => d.parameters.length) = some 0 by decide +kernel) (gy_recv (ci := 0) hK Y rfl gF_0) rfl rfl d_Lw_prepare_3) (gx_cwA hts kc_Le_prepare kN_Le ⟨Nat.le_of_ble_eq_true rfl, Nat.le_of_ble_eq_true rfl⟩) hb hml hz hK hY hAz hA hl.1 (lv_room (Nat.le_of_ble_eq_true rfl)) d_Lw_prepare_3 (fun vz9 b H locs cells slots e9 hb9 hC Y => ?_) (fun xz9 Ez9 ce b H locs cells slots e9 hce hC Y => ?_)
      · have e9 : (Sum.inl vz9 : Option Value ⊕ String) = Sum.inr "java/lang/IllegalStateException" := e9
        cases e9
      · have e9 : (Sum.inr Ez9 : Option Value ⊕ String) = Sum.inr "java/lang/IllegalStateException" := e9
        cases e9
        refine gx_catch (E := "java/lang/IllegalStateException") (hp := 11) hown htab (Or.inr ⟨⟨by show 0 ≤ 3; decide, by show 3 < 8; decide⟩, by decide, "java/lang/IllegalStateException", hts _ kk_Lw_15, Or.inl ⟨rfl, hts _ kB_IllegalStateException⟩⟩) hce ?_
        refine gA_exc hf hC Y (fun X6 cells slots hf hC Y => ?_)
        have hl : lv_has ls 3 [] := lv_sub hl [] rfl
        refine lv_astore_n (lv' := [(2, Value.ref xz9)]) hx hb d_Lw_prepare_11 rfl hl (by decide) rfl (fun ls hl => ?_)
        refine lv_iconst (v := 1) hx hb d_Lw_prepare_12 (by decide) ?_
        exact gA_iret hf hx hb hr hlocks hK hC Y d_Lw_prepare_13
    replace hf := gp_f hE5_11 hf
    by_cases hE5_14 : E5 = "java/lang/ArithmeticException"
    · replace hf := gp_t hE5_14 hf
      subst hE5_14
      refine gA_call (fr := 14) (lo := 324) (o1 := (gR.t "java/lang/ArithmeticException", X5)) (ig := .invokevirtual 47) (av := [Value.ref (b 0)]) hC Y ⟨Nat.le_refl _, Nat.le_refl _⟩ (fun hc9 hs9 ws h hS hw => K_Le_prepare l htr D tys z _ ws h hS t ht b X0 hw hc9 hs9 (gR.t "java/lang/ArithmeticException", X5) hF5) (gx_invV (As := []) (rest := [Value.int 0, Value.ref (b 116)]) hx hb hown hts km_Lw_47 kI_Le_prepare kV_Le_prepare kc_Le_prepare (by decide) (show (parseMethodDescriptor y_Le_prepare.desc).map (fun d => d.parameters.length) = some 0 by decide +kernel) (gy_recv (ci := 0) hK Y rfl gF_0) rfl rfl d_Lw_prepare_3) (gx_cwA hts kc_Le_prepare kN_Le ⟨Nat.le_of_ble_eq_true rfl, Nat.le_of_ble_eq_true rfl⟩) hb hml hz hK hY hAz hA hl.1 (lv_room (Nat.le_of_ble_eq_true rfl)) d_Lw_prepare_3 (fun vz9 b H locs cells slots e9 hb9 hC Y => ?_) (fun xz9 Ez9 ce b H locs cells slots e9 hce hC Y => ?_)
      · have e9 : (Sum.inl vz9 : Option Value ⊕ String) = Sum.inr "java/lang/ArithmeticException" := e9
        cases e9
      · have e9 : (Sum.inr Ez9 : Option Value ⊕ String) = Sum.inr "java/lang/ArithmeticException" := e9
        cases e9
        refine gx_catch (E := "java/lang/ArithmeticException") (hp := 14) hown htab (Or.inr ⟨⟨by show 0 ≤ 3; decide, by show 3 < 8; decide⟩, by decide, "java/lang/IllegalStateException", hts _ kk_Lw_15, Or.inr ⟨hts _ kZ_ArithmeticException_IllegalStateException, (Or.inr ⟨⟨by show 0 ≤ 3; decide, by show 3 < 8; decide⟩, by decide, "java/lang/ArithmeticException", hts _ kk_Lw_29, Or.inl ⟨rfl, hts _ kB_ArithmeticException⟩⟩)⟩⟩) hce ?_
        refine gA_exc hf hC Y (fun X7 cells slots hf hC Y => ?_)
        have hl : lv_has ls 3 [] := lv_sub hl [] rfl
        refine lv_astore_n (lv' := [(2, Value.ref xz9)]) hx hb d_Lw_prepare_14 rfl hl (by decide) rfl (fun ls hl => ?_)
        refine lv_iconst (v := 2) hx hb d_Lw_prepare_15 (by decide) ?_
        exact gA_iret hf hx hb hr hlocks hK hC Y d_Lw_prepare_16
    replace hf := gp_f hE5_14 hf
    cases hf
  refine gA_call (fr := 14) (lo := 324) (o1 := (gR.i x5, X5)) (ig := .invokevirtual 47) (av := [Value.ref (b 0)]) hC Y ⟨Nat.le_refl _, Nat.le_refl _⟩ (fun hc9 hs9 ws h hS hw => K_Le_prepare l htr D tys z _ ws h hS t ht b X0 hw hc9 hs9 (gR.i x5, X5) hF5) (gx_invV (As := []) (rest := [Value.int 0, Value.ref (b 116)]) hx hb hown hts km_Lw_47 kI_Le_prepare kV_Le_prepare kc_Le_prepare (by decide) (show (parseMethodDescriptor y_Le_prepare.desc).map (fun d => d.parameters.length) = some 0 by decide +kernel) (gy_recv (ci := 0) hK Y rfl gF_0) rfl rfl d_Lw_prepare_3) (gx_cwA hts kc_Le_prepare kN_Le ⟨Nat.le_of_ble_eq_true rfl, Nat.le_of_ble_eq_true rfl⟩) hb hml hz hK hY hAz hA hl.1 (lv_room (Nat.le_of_ble_eq_true rfl)) d_Lw_prepare_3 (fun vz9 b H locs cells slots e9 hb9 hC Y => ?_) (fun xz9 Ez9 ce b H locs cells slots e9 hce hC Y => ?_)
  rotate_left
  · have e9 : (Sum.inr Ez9 : Option Value ⊕ String) = Sum.inl (some (Value.int x5)) := e9
    cases e9
  have e9 : (Sum.inl vz9 : Option Value ⊕ String) = Sum.inl (some (Value.int x5)) := e9
  cases e9
  replace hl : lv_has ls 3 [] := by exact hl
  refine W.eq (g2 := F0 m 6 ls [Value.int x5, Value.int 0, Value.ref (b 116)]) (by rw [hb9 116 (gNm_s (by decide))]; rfl) ?_
  refine lv_i2l (v := x5.toInt64) hx hb d_Lw_prepare_6 rfl ?_
  refine gy_last hf hx hb hK Y gF_116 ht6 d_Lw_prepare_7 (fun X8 H locs hf Y => ?_)
  refine lv_goto (tgt := 17) hx hb d_Lw_prepare_8 (by decide) ?_
  refine lv_iconst (v := 0) hx hb d_Lw_prepare_17 (by decide) ?_
  exact gA_iret hf hx hb hr hlocks hK hC Y d_Lw_prepare_18

def f_Lw_commit (X0 : gX) : Option (gR × gX) := gCit (f_Le_commit X0) (fun E X => (if E = "java/lang/IllegalStateException" then (if X.cc + 1 ≤ gCL ∧ X.ss + 6 ≤ gSL then gB X.ex (fun X2 => some (gR.i 1, X2)) else none) else (if E = "java/lang/ArithmeticException" then (if X.cc + 1 ≤ gCL ∧ X.ss + 6 ≤ gSL then gB X.ex (fun X3 => some (gR.i 2, X3)) else none) else none))) (fun x1 X1 => gB (X1.w 116 0 x1) (fun X4 => some (gR.i 0, X4)))
set_option maxHeartbeats 4000000 in
set_option maxRecDepth 100000 in
theorem K_Lw_commit (l : Launch) (htr : l.stackTraces = false) (D : va_G) (tys : List (ClassId × FieldType)) (z sz : Nat) (ws : va_W) (h : gm_M) (hM : gm_S h ws) (t : Nat → ClassId) (ht : gTy t tys) (b : Nat → Nat) (X0 : gX) (hw : gw D t b X0 h) (hc0 : X0.cc ≤ gCL) (hs0 : X0.ss ≤ gSL) (o : gR × gX) (hf : f_Lw_commit X0 = some o) : gx_Met l y_Lw_commit [Cond.codeWith y_Lw_commit b_Lw_commit 3 (some .int) [(0, 8, 11, 15), (0, 8, 14, 29)]] { frames := 15, cells := gCL + 1 - X0.cc, slots := gSL + 6 - X0.ss, locals := 344 } (gx_P z sz D classes tys ws [Value.ref (b 0), Value.ref (b 116)]) (gx_Q D classes tys (va_A ws sz) (gPoA D t b X0 o)) (o.2.cc + gT o.1 - X0.cc) (o.2.ss + 6 * gT o.1 - X0.ss) (va_A ws sz) := by
  refine gx_ofWH (cc := b_Lw_commit) (maxL := 3) (ret := (some .int)) (by decide) ?_
  intro p e s m args below meth c s₁ B hml htab hv
  obtain ⟨rfl, hsz, hz, hP, hK, hD0, hY⟩ := hv
  have hx := B.exec
  have hb := B.bytes
  have hr := B.returns
  have hts := hY.hts (#[Value.ref (b 0), Value.ref (b 116)] : Array Value)
  have hown : s.vm.findClass "CommitLedgerLaw" = some m.cls := findClass_of_methodNamed B.named
  have hlocks := B.notSynchronized
  subst hsz
  have hAz := gx_az hD0 hz
  have hD := hD0.self (sz := s.heap.size)
  have hA : ∀ q : Nat, s.heap.size ≤ q → va_A ws s.heap.size q := fun q h => Or.inr h
  generalize va_A ws s.heap.size = A at hD hA hAz ⊢
  have Y : gy D t b A s.heap X0 X0 s.heap [] := ⟨h, ⟨ws, hM, hP, hD, va_S.rf⟩, hw, gEq.rf⟩
  clear hP hD hM hD0 hw
  have hC : gC X0 b X0 b 0 0 := gC.rf hc0 hs0
  obtain ⟨ht0, ht1, ht2, ht3, ht4, ht5, ht6, ht7, ht8⟩ := id ht
  have hl := lv_entry ([Value.ref (b 0), Value.ref (b 116)]) (n := 3) (Nat.le_of_ble_eq_true rfl)
  rw [lg_entry_eq]
  generalize (lg_sl ([Value.ref (b 0), Value.ref (b 116)]) ++ List.replicate (3 - (lg_sl ([Value.ref (b 0), Value.ref (b 116)])).length) Slot.unset).toArray = ls at hl ⊢
  have hl : lv_has ls 3 [(0, Value.ref (b 0)), (1, Value.ref (b 116))] := hl
  unfold f_Lw_commit at hf
  refine lv_aload_n hx hb d_Lw_commit_0 rfl (lv_at hl 1 rfl) ?_
  refine lv_iconst (v := 0) hx hb d_Lw_commit_1 (by decide) ?_
  refine lv_aload_n hx hb d_Lw_commit_2 rfl (lv_at hl 0 rfl) ?_
  have hl : lv_has ls 3 [] := lv_sub hl [] rfl
  rcases gCit_el hf with ⟨x5, X5, hF5, hf⟩ | ⟨E5, X5, hF5, hf⟩
  rotate_left
  · by_cases hE5_11 : E5 = "java/lang/IllegalStateException"
    · replace hf := gp_t hE5_11 hf
      subst hE5_11
      refine gA_call (fr := 14) (lo := 324) (o1 := (gR.t "java/lang/IllegalStateException", X5)) (ig := .invokevirtual 50) (av := [Value.ref (b 0)]) hC Y ⟨Nat.le_refl _, Nat.le_refl _⟩ (fun hc9 hs9 ws h hS hw => K_Le_commit l htr D tys z _ ws h hS t ht b X0 hw hc9 hs9 (gR.t "java/lang/IllegalStateException", X5) hF5) (gx_invV (As := []) (rest := [Value.int 0, Value.ref (b 116)]) hx hb hown hts km_Lw_50 kI_Le_commit kV_Le_commit kc_Le_commit (by decide) (show (parseMethodDescriptor y_Le_commit.desc).map (fun d => d.parameters.length) = some 0 by decide +kernel) (gy_recv (ci := 0) hK Y rfl gF_0) rfl rfl d_Lw_commit_3) (gx_cwA hts kc_Le_commit kN_Le ⟨Nat.le_of_ble_eq_true rfl, Nat.le_of_ble_eq_true rfl⟩) hb hml hz hK hY hAz hA hl.1 (lv_room (Nat.le_of_ble_eq_true rfl)) d_Lw_commit_3 (fun vz9 b H locs cells slots e9 hb9 hC Y => ?_) (fun xz9 Ez9 ce b H locs cells slots e9 hce hC Y => ?_)
      · have e9 : (Sum.inl vz9 : Option Value ⊕ String) = Sum.inr "java/lang/IllegalStateException" := e9
        cases e9
      · have e9 : (Sum.inr Ez9 : Option Value ⊕ String) = Sum.inr "java/lang/IllegalStateException" := e9
        cases e9
        refine gx_catch (E := "java/lang/IllegalStateException") (hp := 11) hown htab (Or.inr ⟨⟨by show 0 ≤ 3; decide, by show 3 < 8; decide⟩, by decide, "java/lang/IllegalStateException", hts _ kk_Lw_15, Or.inl ⟨rfl, hts _ kB_IllegalStateException⟩⟩) hce ?_
        refine gA_exc hf hC Y (fun X6 cells slots hf hC Y => ?_)
        have hl : lv_has ls 3 [] := lv_sub hl [] rfl
        refine lv_astore_n (lv' := [(2, Value.ref xz9)]) hx hb d_Lw_commit_11 rfl hl (by decide) rfl (fun ls hl => ?_)
        refine lv_iconst (v := 1) hx hb d_Lw_commit_12 (by decide) ?_
        exact gA_iret hf hx hb hr hlocks hK hC Y d_Lw_commit_13
    replace hf := gp_f hE5_11 hf
    by_cases hE5_14 : E5 = "java/lang/ArithmeticException"
    · replace hf := gp_t hE5_14 hf
      subst hE5_14
      refine gA_call (fr := 14) (lo := 324) (o1 := (gR.t "java/lang/ArithmeticException", X5)) (ig := .invokevirtual 50) (av := [Value.ref (b 0)]) hC Y ⟨Nat.le_refl _, Nat.le_refl _⟩ (fun hc9 hs9 ws h hS hw => K_Le_commit l htr D tys z _ ws h hS t ht b X0 hw hc9 hs9 (gR.t "java/lang/ArithmeticException", X5) hF5) (gx_invV (As := []) (rest := [Value.int 0, Value.ref (b 116)]) hx hb hown hts km_Lw_50 kI_Le_commit kV_Le_commit kc_Le_commit (by decide) (show (parseMethodDescriptor y_Le_commit.desc).map (fun d => d.parameters.length) = some 0 by decide +kernel) (gy_recv (ci := 0) hK Y rfl gF_0) rfl rfl d_Lw_commit_3) (gx_cwA hts kc_Le_commit kN_Le ⟨Nat.le_of_ble_eq_true rfl, Nat.le_of_ble_eq_true rfl⟩) hb hml hz hK hY hAz hA hl.1 (lv_room (Nat.le_of_ble_eq_true rfl)) d_Lw_commit_3 (fun vz9 b H locs cells slots e9 hb9 hC Y => ?_) (fun xz9 Ez9 ce b H locs cells slots e9 hce hC Y => ?_)
      · have e9 : (Sum.inl vz9 : Option Value ⊕ String) = Sum.inr "java/lang/ArithmeticException" := e9
        cases e9
      · have e9 : (Sum.inr Ez9 : Option Value ⊕ String) = Sum.inr "java/lang/ArithmeticException" := e9
        cases e9
        refine gx_catch (E := "java/lang/ArithmeticException") (hp := 14) hown htab (Or.inr ⟨⟨by show 0 ≤ 3; decide, by show 3 < 8; decide⟩, by decide, "java/lang/IllegalStateException", hts _ kk_Lw_15, Or.inr ⟨hts _ kZ_ArithmeticException_IllegalStateException, (Or.inr ⟨⟨by show 0 ≤ 3; decide, by show 3 < 8; decide⟩, by decide, "java/lang/ArithmeticException", hts _ kk_Lw_29, Or.inl ⟨rfl, hts _ kB_ArithmeticException⟩⟩)⟩⟩) hce ?_
        refine gA_exc hf hC Y (fun X7 cells slots hf hC Y => ?_)
        have hl : lv_has ls 3 [] := lv_sub hl [] rfl
        refine lv_astore_n (lv' := [(2, Value.ref xz9)]) hx hb d_Lw_commit_14 rfl hl (by decide) rfl (fun ls hl => ?_)
        refine lv_iconst (v := 2) hx hb d_Lw_commit_15 (by decide) ?_
        exact gA_iret hf hx hb hr hlocks hK hC Y d_Lw_commit_16
    replace hf := gp_f hE5_14 hf
    cases hf
  refine gA_call (fr := 14) (lo := 324) (o1 := (gR.i x5, X5)) (ig := .invokevirtual 50) (av := [Value.ref (b 0)]) hC Y ⟨Nat.le_refl _, Nat.le_refl _⟩ (fun hc9 hs9 ws h hS hw => K_Le_commit l htr D tys z _ ws h hS t ht b X0 hw hc9 hs9 (gR.i x5, X5) hF5) (gx_invV (As := []) (rest := [Value.int 0, Value.ref (b 116)]) hx hb hown hts km_Lw_50 kI_Le_commit kV_Le_commit kc_Le_commit (by decide) (show (parseMethodDescriptor y_Le_commit.desc).map (fun d => d.parameters.length) = some 0 by decide +kernel) (gy_recv (ci := 0) hK Y rfl gF_0) rfl rfl d_Lw_commit_3) (gx_cwA hts kc_Le_commit kN_Le ⟨Nat.le_of_ble_eq_true rfl, Nat.le_of_ble_eq_true rfl⟩) hb hml hz hK hY hAz hA hl.1 (lv_room (Nat.le_of_ble_eq_true rfl)) d_Lw_commit_3 (fun vz9 b H locs cells slots e9 hb9 hC Y => ?_) (fun xz9 Ez9 ce b H locs cells slots e9 hce hC Y => ?_)
  rotate_left
  · have e9 : (Sum.inr Ez9 : Option Value ⊕ String) = Sum.inl (some (Value.int x5)) := e9
    cases e9
  have e9 : (Sum.inl vz9 : Option Value ⊕ String) = Sum.inl (some (Value.int x5)) := e9
  cases e9
  replace hl : lv_has ls 3 [] := by exact hl
  refine W.eq (g2 := F0 m 6 ls [Value.int x5, Value.int 0, Value.ref (b 116)]) (by rw [hb9 116 (gNm_s (by decide))]; rfl) ?_
  refine lv_i2l (v := x5.toInt64) hx hb d_Lw_commit_6 rfl ?_
  refine gy_last hf hx hb hK Y gF_116 ht6 d_Lw_commit_7 (fun X8 H locs hf Y => ?_)
  refine lv_goto (tgt := 17) hx hb d_Lw_commit_8 (by decide) ?_
  refine lv_iconst (v := 0) hx hb d_Lw_commit_17 (by decide) ?_
  exact gA_iret hf hx hb hr hlocks hK hC Y d_Lw_commit_18

def f_Lw_rollback (X0 : gX) : Option (gR × gX) := gCvt (f_Le_rollback X0) (fun E X => (if E = "java/lang/IllegalStateException" then (if X.cc + 1 ≤ gCL ∧ X.ss + 6 ≤ gSL then gB X.ex (fun X2 => some (gR.i 1, X2)) else none) else none)) (fun X1 => some (gR.i 0, X1))
set_option maxHeartbeats 4000000 in
set_option maxRecDepth 100000 in
theorem K_Lw_rollback (l : Launch) (htr : l.stackTraces = false) (D : va_G) (tys : List (ClassId × FieldType)) (z sz : Nat) (ws : va_W) (h : gm_M) (hM : gm_S h ws) (t : Nat → ClassId) (ht : gTy t tys) (b : Nat → Nat) (X0 : gX) (hw : gw D t b X0 h) (hc0 : X0.cc ≤ gCL) (hs0 : X0.ss ≤ gSL) (o : gR × gX) (hf : f_Lw_rollback X0 = some o) : gx_Met l y_Lw_rollback [Cond.codeWith y_Lw_rollback b_Lw_rollback 2 (some .int) [(0, 4, 7, 15)]] { frames := 11, cells := gCL + 1 - X0.cc, slots := gSL + 6 - X0.ss, locals := 261 } (gx_P z sz D classes tys ws [Value.ref (b 0)]) (gx_Q D classes tys (va_A ws sz) (gPoA D t b X0 o)) (o.2.cc + gT o.1 - X0.cc) (o.2.ss + 6 * gT o.1 - X0.ss) (va_A ws sz) := by
  refine gx_ofWH (cc := b_Lw_rollback) (maxL := 2) (ret := (some .int)) (by decide) ?_
  intro p e s m args below meth c s₁ B hml htab hv
  obtain ⟨rfl, hsz, hz, hP, hK, hD0, hY⟩ := hv
  have hx := B.exec
  have hb := B.bytes
  have hr := B.returns
  have hts := hY.hts (#[Value.ref (b 0)] : Array Value)
  have hown : s.vm.findClass "CommitLedgerLaw" = some m.cls := findClass_of_methodNamed B.named
  have hlocks := B.notSynchronized
  subst hsz
  have hAz := gx_az hD0 hz
  have hD := hD0.self (sz := s.heap.size)
  have hA : ∀ q : Nat, s.heap.size ≤ q → va_A ws s.heap.size q := fun q h => Or.inr h
  generalize va_A ws s.heap.size = A at hD hA hAz ⊢
  have Y : gy D t b A s.heap X0 X0 s.heap [] := ⟨h, ⟨ws, hM, hP, hD, va_S.rf⟩, hw, gEq.rf⟩
  clear hP hD hM hD0 hw
  have hC : gC X0 b X0 b 0 0 := gC.rf hc0 hs0
  obtain ⟨ht0, ht1, ht2, ht3, ht4, ht5, ht6, ht7, ht8⟩ := id ht
  have hl := lv_entry ([Value.ref (b 0)]) (n := 2) (Nat.le_of_ble_eq_true rfl)
  rw [lg_entry_eq]
  generalize (lg_sl ([Value.ref (b 0)]) ++ List.replicate (2 - (lg_sl ([Value.ref (b 0)])).length) Slot.unset).toArray = ls at hl ⊢
  have hl : lv_has ls 2 [(0, Value.ref (b 0))] := hl
  unfold f_Lw_rollback at hf
  refine lv_aload_n hx hb d_Lw_rollback_0 rfl (lv_at hl 0 rfl) ?_
  have hl : lv_has ls 2 [] := lv_sub hl [] rfl
  rcases gCvt_el hf with ⟨X3, hF3, hf⟩ | ⟨E3, X3, hF3, hf⟩
  rotate_left
  · by_cases hE3_7 : E3 = "java/lang/IllegalStateException"
    · replace hf := gp_t hE3_7 hf
      subst hE3_7
      refine gA_call (fr := 10) (lo := 241) (o1 := (gR.t "java/lang/IllegalStateException", X3)) (ig := .invokevirtual 53) (av := [Value.ref (b 0)]) hC Y ⟨Nat.le_refl _, Nat.le_refl _⟩ (fun hc9 hs9 ws h hS hw => K_Le_rollback l htr D tys z _ ws h hS t ht b X0 hw hc9 hs9 (gR.t "java/lang/IllegalStateException", X3) hF3) (gx_invV (As := []) (rest := []) hx hb hown hts km_Lw_53 kI_Le_rollback kV_Le_rollback kc_Le_rollback (by decide) (show (parseMethodDescriptor y_Le_rollback.desc).map (fun d => d.parameters.length) = some 0 by decide +kernel) (gy_recv (ci := 0) hK Y rfl gF_0) rfl rfl d_Lw_rollback_1) (gx_cwA hts kc_Le_rollback kN_Le ⟨Nat.le_of_ble_eq_true rfl, Nat.le_of_ble_eq_true rfl⟩) hb hml hz hK hY hAz hA hl.1 (lv_room (Nat.le_of_ble_eq_true rfl)) d_Lw_rollback_1 (fun vz9 b H locs cells slots e9 hb9 hC Y => ?_) (fun xz9 Ez9 ce b H locs cells slots e9 hce hC Y => ?_)
      · have e9 : (Sum.inl vz9 : Option Value ⊕ String) = Sum.inr "java/lang/IllegalStateException" := e9
        cases e9
      · have e9 : (Sum.inr Ez9 : Option Value ⊕ String) = Sum.inr "java/lang/IllegalStateException" := e9
        cases e9
        refine gx_catch (E := "java/lang/IllegalStateException") (hp := 7) hown htab (Or.inr ⟨⟨by show 0 ≤ 1; decide, by show 1 < 4; decide⟩, by decide, "java/lang/IllegalStateException", hts _ kk_Lw_15, Or.inl ⟨rfl, hts _ kB_IllegalStateException⟩⟩) hce ?_
        refine gA_exc hf hC Y (fun X4 cells slots hf hC Y => ?_)
        have hl : lv_has ls 2 [] := lv_sub hl [] rfl
        refine lv_astore_n (lv' := [(1, Value.ref xz9)]) hx hb d_Lw_rollback_7 rfl hl (by decide) rfl (fun ls hl => ?_)
        refine lv_iconst (v := 1) hx hb d_Lw_rollback_8 (by decide) ?_
        exact gA_iret hf hx hb hr hlocks hK hC Y d_Lw_rollback_9
    replace hf := gp_f hE3_7 hf
    cases hf
  refine gA_call (fr := 10) (lo := 241) (o1 := (gR.v, X3)) (ig := .invokevirtual 53) (av := [Value.ref (b 0)]) hC Y ⟨Nat.le_refl _, Nat.le_refl _⟩ (fun hc9 hs9 ws h hS hw => K_Le_rollback l htr D tys z _ ws h hS t ht b X0 hw hc9 hs9 (gR.v, X3) hF3) (gx_invV (As := []) (rest := []) hx hb hown hts km_Lw_53 kI_Le_rollback kV_Le_rollback kc_Le_rollback (by decide) (show (parseMethodDescriptor y_Le_rollback.desc).map (fun d => d.parameters.length) = some 0 by decide +kernel) (gy_recv (ci := 0) hK Y rfl gF_0) rfl rfl d_Lw_rollback_1) (gx_cwA hts kc_Le_rollback kN_Le ⟨Nat.le_of_ble_eq_true rfl, Nat.le_of_ble_eq_true rfl⟩) hb hml hz hK hY hAz hA hl.1 (lv_room (Nat.le_of_ble_eq_true rfl)) d_Lw_rollback_1 (fun vz9 b H locs cells slots e9 hb9 hC Y => ?_) (fun xz9 Ez9 ce b H locs cells slots e9 hce hC Y => ?_)
  rotate_left
  · have e9 : (Sum.inr Ez9 : Option Value ⊕ String) = Sum.inl none := e9
    cases e9
  have e9 : (Sum.inl vz9 : Option Value ⊕ String) = Sum.inl none := e9
  cases e9
  replace hl : lv_has ls 2 [] := by exact hl
  refine W.eq (g2 := F0 m 4 ls []) (by rfl) ?_
  refine lv_goto (tgt := 10) hx hb d_Lw_rollback_4 (by decide) ?_
  refine lv_iconst (v := 0) hx hb d_Lw_rollback_10 (by decide) ?_
  exact gA_iret hf hx hb hr hlocks hK hC Y d_Lw_rollback_11

def f_Lw_close (X0 : gX) : Option (gR × gX) := gCit (f_Le_close X0) (fun E X => (if E = "java/lang/IllegalStateException" then (if X.cc + 1 ≤ gCL ∧ X.ss + 6 ≤ gSL then gB X.ex (fun X2 => some (gR.i 1, X2)) else none) else (if E = "java/lang/ArithmeticException" then (if X.cc + 1 ≤ gCL ∧ X.ss + 6 ≤ gSL then gB X.ex (fun X3 => some (gR.i 2, X3)) else none) else none))) (fun x1 X1 => gB (X1.w 116 0 x1) (fun X4 => some (gR.i 0, X4)))
set_option maxHeartbeats 4000000 in
set_option maxRecDepth 100000 in
theorem K_Lw_close (l : Launch) (htr : l.stackTraces = false) (D : va_G) (tys : List (ClassId × FieldType)) (z sz : Nat) (ws : va_W) (h : gm_M) (hM : gm_S h ws) (t : Nat → ClassId) (ht : gTy t tys) (b : Nat → Nat) (X0 : gX) (hw : gw D t b X0 h) (hc0 : X0.cc ≤ gCL) (hs0 : X0.ss ≤ gSL) (o : gR × gX) (hf : f_Lw_close X0 = some o) : gx_Met l y_Lw_close [Cond.codeWith y_Lw_close b_Lw_close 3 (some .int) [(0, 8, 11, 15), (0, 8, 14, 29)]] { frames := 15, cells := gCL + 1 - X0.cc, slots := gSL + 6 - X0.ss, locals := 345 } (gx_P z sz D classes tys ws [Value.ref (b 0), Value.ref (b 116)]) (gx_Q D classes tys (va_A ws sz) (gPoA D t b X0 o)) (o.2.cc + gT o.1 - X0.cc) (o.2.ss + 6 * gT o.1 - X0.ss) (va_A ws sz) := by
  refine gx_ofWH (cc := b_Lw_close) (maxL := 3) (ret := (some .int)) (by decide) ?_
  intro p e s m args below meth c s₁ B hml htab hv
  obtain ⟨rfl, hsz, hz, hP, hK, hD0, hY⟩ := hv
  have hx := B.exec
  have hb := B.bytes
  have hr := B.returns
  have hts := hY.hts (#[Value.ref (b 0), Value.ref (b 116)] : Array Value)
  have hown : s.vm.findClass "CommitLedgerLaw" = some m.cls := findClass_of_methodNamed B.named
  have hlocks := B.notSynchronized
  subst hsz
  have hAz := gx_az hD0 hz
  have hD := hD0.self (sz := s.heap.size)
  have hA : ∀ q : Nat, s.heap.size ≤ q → va_A ws s.heap.size q := fun q h => Or.inr h
  generalize va_A ws s.heap.size = A at hD hA hAz ⊢
  have Y : gy D t b A s.heap X0 X0 s.heap [] := ⟨h, ⟨ws, hM, hP, hD, va_S.rf⟩, hw, gEq.rf⟩
  clear hP hD hM hD0 hw
  have hC : gC X0 b X0 b 0 0 := gC.rf hc0 hs0
  obtain ⟨ht0, ht1, ht2, ht3, ht4, ht5, ht6, ht7, ht8⟩ := id ht
  have hl := lv_entry ([Value.ref (b 0), Value.ref (b 116)]) (n := 3) (Nat.le_of_ble_eq_true rfl)
  rw [lg_entry_eq]
  generalize (lg_sl ([Value.ref (b 0), Value.ref (b 116)]) ++ List.replicate (3 - (lg_sl ([Value.ref (b 0), Value.ref (b 116)])).length) Slot.unset).toArray = ls at hl ⊢
  have hl : lv_has ls 3 [(0, Value.ref (b 0)), (1, Value.ref (b 116))] := hl
  unfold f_Lw_close at hf
  refine lv_aload_n hx hb d_Lw_close_0 rfl (lv_at hl 1 rfl) ?_
  refine lv_iconst (v := 0) hx hb d_Lw_close_1 (by decide) ?_
  refine lv_aload_n hx hb d_Lw_close_2 rfl (lv_at hl 0 rfl) ?_
  have hl : lv_has ls 3 [] := lv_sub hl [] rfl
  rcases gCit_el hf with ⟨x5, X5, hF5, hf⟩ | ⟨E5, X5, hF5, hf⟩
  rotate_left
  · by_cases hE5_11 : E5 = "java/lang/IllegalStateException"
    · replace hf := gp_t hE5_11 hf
      subst hE5_11
      refine gA_call (fr := 14) (lo := 324) (o1 := (gR.t "java/lang/IllegalStateException", X5)) (ig := .invokevirtual 56) (av := [Value.ref (b 0)]) hC Y ⟨Nat.le_refl _, Nat.le_refl _⟩ (fun hc9 hs9 ws h hS hw => K_Le_close l htr D tys z _ ws h hS t ht b X0 hw hc9 hs9 (gR.t "java/lang/IllegalStateException", X5) hF5) (gx_invV (As := []) (rest := [Value.int 0, Value.ref (b 116)]) hx hb hown hts km_Lw_56 kI_Le_close kV_Le_close kc_Le_close (by decide) (show (parseMethodDescriptor y_Le_close.desc).map (fun d => d.parameters.length) = some 0 by decide +kernel) (gy_recv (ci := 0) hK Y rfl gF_0) rfl rfl d_Lw_close_3) (gx_cwA hts kc_Le_close kN_Le ⟨Nat.le_of_ble_eq_true rfl, Nat.le_of_ble_eq_true rfl⟩) hb hml hz hK hY hAz hA hl.1 (lv_room (Nat.le_of_ble_eq_true rfl)) d_Lw_close_3 (fun vz9 b H locs cells slots e9 hb9 hC Y => ?_) (fun xz9 Ez9 ce b H locs cells slots e9 hce hC Y => ?_)
      · have e9 : (Sum.inl vz9 : Option Value ⊕ String) = Sum.inr "java/lang/IllegalStateException" := e9
        cases e9
      · have e9 : (Sum.inr Ez9 : Option Value ⊕ String) = Sum.inr "java/lang/IllegalStateException" := e9
        cases e9
        refine gx_catch (E := "java/lang/IllegalStateException") (hp := 11) hown htab (Or.inr ⟨⟨by show 0 ≤ 3; decide, by show 3 < 8; decide⟩, by decide, "java/lang/IllegalStateException", hts _ kk_Lw_15, Or.inl ⟨rfl, hts _ kB_IllegalStateException⟩⟩) hce ?_
        refine gA_exc hf hC Y (fun X6 cells slots hf hC Y => ?_)
        have hl : lv_has ls 3 [] := lv_sub hl [] rfl
        refine lv_astore_n (lv' := [(2, Value.ref xz9)]) hx hb d_Lw_close_11 rfl hl (by decide) rfl (fun ls hl => ?_)
        refine lv_iconst (v := 1) hx hb d_Lw_close_12 (by decide) ?_
        exact gA_iret hf hx hb hr hlocks hK hC Y d_Lw_close_13
    replace hf := gp_f hE5_11 hf
    by_cases hE5_14 : E5 = "java/lang/ArithmeticException"
    · replace hf := gp_t hE5_14 hf
      subst hE5_14
      refine gA_call (fr := 14) (lo := 324) (o1 := (gR.t "java/lang/ArithmeticException", X5)) (ig := .invokevirtual 56) (av := [Value.ref (b 0)]) hC Y ⟨Nat.le_refl _, Nat.le_refl _⟩ (fun hc9 hs9 ws h hS hw => K_Le_close l htr D tys z _ ws h hS t ht b X0 hw hc9 hs9 (gR.t "java/lang/ArithmeticException", X5) hF5) (gx_invV (As := []) (rest := [Value.int 0, Value.ref (b 116)]) hx hb hown hts km_Lw_56 kI_Le_close kV_Le_close kc_Le_close (by decide) (show (parseMethodDescriptor y_Le_close.desc).map (fun d => d.parameters.length) = some 0 by decide +kernel) (gy_recv (ci := 0) hK Y rfl gF_0) rfl rfl d_Lw_close_3) (gx_cwA hts kc_Le_close kN_Le ⟨Nat.le_of_ble_eq_true rfl, Nat.le_of_ble_eq_true rfl⟩) hb hml hz hK hY hAz hA hl.1 (lv_room (Nat.le_of_ble_eq_true rfl)) d_Lw_close_3 (fun vz9 b H locs cells slots e9 hb9 hC Y => ?_) (fun xz9 Ez9 ce b H locs cells slots e9 hce hC Y => ?_)
      · have e9 : (Sum.inl vz9 : Option Value ⊕ String) = Sum.inr "java/lang/ArithmeticException" := e9
        cases e9
      · have e9 : (Sum.inr Ez9 : Option Value ⊕ String) = Sum.inr "java/lang/ArithmeticException" := e9
        cases e9
        refine gx_catch (E := "java/lang/ArithmeticException") (hp := 14) hown htab (Or.inr ⟨⟨by show 0 ≤ 3; decide, by show 3 < 8; decide⟩, by decide, "java/lang/IllegalStateException", hts _ kk_Lw_15, Or.inr ⟨hts _ kZ_ArithmeticException_IllegalStateException, (Or.inr ⟨⟨by show 0 ≤ 3; decide, by show 3 < 8; decide⟩, by decide, "java/lang/ArithmeticException", hts _ kk_Lw_29, Or.inl ⟨rfl, hts _ kB_ArithmeticException⟩⟩)⟩⟩) hce ?_
        refine gA_exc hf hC Y (fun X7 cells slots hf hC Y => ?_)
        have hl : lv_has ls 3 [] := lv_sub hl [] rfl
        refine lv_astore_n (lv' := [(2, Value.ref xz9)]) hx hb d_Lw_close_14 rfl hl (by decide) rfl (fun ls hl => ?_)
        refine lv_iconst (v := 2) hx hb d_Lw_close_15 (by decide) ?_
        exact gA_iret hf hx hb hr hlocks hK hC Y d_Lw_close_16
    replace hf := gp_f hE5_14 hf
    cases hf
  refine gA_call (fr := 14) (lo := 324) (o1 := (gR.i x5, X5)) (ig := .invokevirtual 56) (av := [Value.ref (b 0)]) hC Y ⟨Nat.le_refl _, Nat.le_refl _⟩ (fun hc9 hs9 ws h hS hw => K_Le_close l htr D tys z _ ws h hS t ht b X0 hw hc9 hs9 (gR.i x5, X5) hF5) (gx_invV (As := []) (rest := [Value.int 0, Value.ref (b 116)]) hx hb hown hts km_Lw_56 kI_Le_close kV_Le_close kc_Le_close (by decide) (show (parseMethodDescriptor y_Le_close.desc).map (fun d => d.parameters.length) = some 0 by decide +kernel) (gy_recv (ci := 0) hK Y rfl gF_0) rfl rfl d_Lw_close_3) (gx_cwA hts kc_Le_close kN_Le ⟨Nat.le_of_ble_eq_true rfl, Nat.le_of_ble_eq_true rfl⟩) hb hml hz hK hY hAz hA hl.1 (lv_room (Nat.le_of_ble_eq_true rfl)) d_Lw_close_3 (fun vz9 b H locs cells slots e9 hb9 hC Y => ?_) (fun xz9 Ez9 ce b H locs cells slots e9 hce hC Y => ?_)
  rotate_left
  · have e9 : (Sum.inr Ez9 : Option Value ⊕ String) = Sum.inl (some (Value.int x5)) := e9
    cases e9
  have e9 : (Sum.inl vz9 : Option Value ⊕ String) = Sum.inl (some (Value.int x5)) := e9
  cases e9
  replace hl : lv_has ls 3 [] := by exact hl
  refine W.eq (g2 := F0 m 6 ls [Value.int x5, Value.int 0, Value.ref (b 116)]) (by rw [hb9 116 (gNm_s (by decide))]; rfl) ?_
  refine lv_i2l (v := x5.toInt64) hx hb d_Lw_close_6 rfl ?_
  refine gy_last hf hx hb hK Y gF_116 ht6 d_Lw_close_7 (fun X8 H locs hf Y => ?_)
  refine lv_goto (tgt := 17) hx hb d_Lw_close_8 (by decide) ?_
  refine lv_iconst (v := 0) hx hb d_Lw_close_17 (by decide) ?_
  exact gA_iret hf hx hb hr hlocks hK hC Y d_Lw_close_18

def f_Lw_power (X0 : gX) (a1 : Int32) : Option (gR × gX) := gCvt (f_Le_power X0 a1) (fun E X => (if E = "java/lang/IllegalArgumentException" then (if X.cc + 1 ≤ gCL ∧ X.ss + 6 ≤ gSL then gB X.ex (fun X2 => some (gR.i 1, X2)) else none) else none)) (fun X1 => some (gR.i 0, X1))
set_option maxHeartbeats 4000000 in
set_option maxRecDepth 100000 in
theorem K_Lw_power (l : Launch) (htr : l.stackTraces = false) (D : va_G) (tys : List (ClassId × FieldType)) (z sz : Nat) (ws : va_W) (h : gm_M) (hM : gm_S h ws) (t : Nat → ClassId) (ht : gTy t tys) (b : Nat → Nat) (X0 : gX) (hw : gw D t b X0 h) (a1 : Int32) (hc0 : X0.cc ≤ gCL) (hs0 : X0.ss ≤ gSL) (o : gR × gX) (hf : f_Lw_power X0 a1 = some o) : gx_Met l y_Lw_power [Cond.codeWith y_Lw_power b_Lw_power 3 (some .int) [(0, 5, 8, 13)]] { frames := 8, cells := gCL + 1 - X0.cc, slots := gSL + 6 - X0.ss, locals := 125 } (gx_P z sz D classes tys ws [Value.ref (b 0), Value.int a1]) (gx_Q D classes tys (va_A ws sz) (gPoA D t b X0 o)) (o.2.cc + gT o.1 - X0.cc) (o.2.ss + 6 * gT o.1 - X0.ss) (va_A ws sz) := by
  refine gx_ofWH (cc := b_Lw_power) (maxL := 3) (ret := (some .int)) (by decide) ?_
  intro p e s m args below meth c s₁ B hml htab hv
  obtain ⟨rfl, hsz, hz, hP, hK, hD0, hY⟩ := hv
  have hx := B.exec
  have hb := B.bytes
  have hr := B.returns
  have hts := hY.hts (#[Value.ref (b 0), Value.int a1] : Array Value)
  have hown : s.vm.findClass "CommitLedgerLaw" = some m.cls := findClass_of_methodNamed B.named
  have hlocks := B.notSynchronized
  subst hsz
  have hAz := gx_az hD0 hz
  have hD := hD0.self (sz := s.heap.size)
  have hA : ∀ q : Nat, s.heap.size ≤ q → va_A ws s.heap.size q := fun q h => Or.inr h
  generalize va_A ws s.heap.size = A at hD hA hAz ⊢
  have Y : gy D t b A s.heap X0 X0 s.heap [] := ⟨h, ⟨ws, hM, hP, hD, va_S.rf⟩, hw, gEq.rf⟩
  clear hP hD hM hD0 hw
  have hC : gC X0 b X0 b 0 0 := gC.rf hc0 hs0
  obtain ⟨ht0, ht1, ht2, ht3, ht4, ht5, ht6, ht7, ht8⟩ := id ht
  have hl := lv_entry ([Value.ref (b 0), Value.int a1]) (n := 3) (Nat.le_of_ble_eq_true rfl)
  rw [lg_entry_eq]
  generalize (lg_sl ([Value.ref (b 0), Value.int a1]) ++ List.replicate (3 - (lg_sl ([Value.ref (b 0), Value.int a1])).length) Slot.unset).toArray = ls at hl ⊢
  have hl : lv_has ls 3 [(0, Value.ref (b 0)), (1, Value.int a1)] := hl
  unfold f_Lw_power at hf
  refine lv_aload_n hx hb d_Lw_power_0 rfl (lv_at hl 0 rfl) ?_
  refine lv_iload_n hx hb d_Lw_power_1 rfl (lv_at hl 1 rfl) ?_
  rcases gCvt_el hf with ⟨X3, hF3, hf⟩ | ⟨E3, X3, hF3, hf⟩
  rotate_left
  · by_cases hE3_8 : E3 = "java/lang/IllegalArgumentException"
    · replace hf := gp_t hE3_8 hf
      subst hE3_8
      refine gy_callT (rm := { frames := 7, cells := 1, slots := 6, locals := 104 }) (ig := .invokevirtual 59) (av := [Value.ref (b 0), Value.int a1]) Y (fun ws h hS hw => K_Le_power l htr D tys z _ ws h hS t ht b X0 hw a1 (gR.t "java/lang/IllegalArgumentException", X3) hF3) (gx_invV (As := [Value.int a1]) (rest := []) hx hb hown hts km_Lw_59 kI_Le_power kV_Le_power kc_Le_power (by decide) (show (parseMethodDescriptor y_Le_power.desc).map (fun d => d.parameters.length) = some 1 by decide +kernel) (gy_recv (ci := 0) hK Y rfl gF_0) rfl rfl d_Lw_power_2) (gx_cw (z := 0) hts kc_Le_power kN_Le rfl rfl ⟨Nat.le_of_ble_eq_true rfl, Nat.le_of_ble_eq_true rfl⟩) hb hml hz hK hY hAz hA hl.1 (lv_room (Nat.le_of_ble_eq_true rfl)) d_Lw_power_2 ⟨hC.rc (Nat.le_refl _), hC.rs (Nat.le_refl _)⟩ (fun xz9 ce H locs hce Y => ?_)
      refine gx_catch (E := "java/lang/IllegalArgumentException") (hp := 8) hown htab (Or.inr ⟨⟨by show 0 ≤ 2; decide, by show 2 < 5; decide⟩, by decide, "java/lang/IllegalArgumentException", hts _ kk_Lw_13, Or.inl ⟨rfl, hts _ kB_IllegalArgumentException⟩⟩) hce ?_
      refine gA_exc hf hC Y (fun X4 cells slots hf hC Y => ?_)
      have hl : lv_has ls 3 [] := lv_sub hl [] rfl
      refine lv_astore_n (lv' := [(2, Value.ref xz9)]) hx hb d_Lw_power_8 rfl hl (by decide) rfl (fun ls hl => ?_)
      refine lv_iconst (v := 1) hx hb d_Lw_power_9 (by decide) ?_
      exact gA_iret hf hx hb hr hlocks hK hC Y d_Lw_power_10
    replace hf := gp_f hE3_8 hf
    cases hf
  refine gy_callV (rm := { frames := 7, cells := 0, slots := 0, locals := 104 }) (ig := .invokevirtual 59) (av := [Value.ref (b 0), Value.int a1]) Y (fun ws h hS hw => K_Le_power l htr D tys z _ ws h hS t ht b X0 hw a1 (gR.v, X3) hF3) (gx_invV (As := [Value.int a1]) (rest := []) hx hb hown hts km_Lw_59 kI_Le_power kV_Le_power kc_Le_power (by decide) (show (parseMethodDescriptor y_Le_power.desc).map (fun d => d.parameters.length) = some 1 by decide +kernel) (gy_recv (ci := 0) hK Y rfl gF_0) rfl rfl d_Lw_power_2) (gx_cw (z := 0) hts kc_Le_power kN_Le rfl rfl ⟨Nat.le_of_ble_eq_true rfl, Nat.le_of_ble_eq_true rfl⟩) hb hml hz hK hY hAz hA hl.1 (lv_room (Nat.le_of_ble_eq_true rfl)) d_Lw_power_2 ⟨hC.rc0 (Nat.le_refl _), hC.rs0 (Nat.le_refl _)⟩ (fun H locs Y => ?_)
  refine lv_goto (tgt := 11) hx hb d_Lw_power_5 (by decide) ?_
  refine lv_iconst (v := 0) hx hb d_Lw_power_11 (by decide) ?_
  exact gA_iret hf hx hb hr hlocks hK hC Y d_Lw_power_12

def f_Lw_harm (X0 : gX) (a1 : Int32) (a2 : Int32) : Option (gR × gX) := gCvt (f_Le_harm X0 a1 a2) (fun E X => (if E = "java/lang/IllegalArgumentException" then (if X.cc + 1 ≤ gCL ∧ X.ss + 6 ≤ gSL then gB X.ex (fun X2 => some (gR.i 1, X2)) else none) else (if E = "java/lang/IllegalStateException" then (if X.cc + 1 ≤ gCL ∧ X.ss + 6 ≤ gSL then gB X.ex (fun X3 => some (gR.i 2, X3)) else none) else (if E = "java/util/NoSuchElementException" then (if X.cc + 1 ≤ gCL ∧ X.ss + 6 ≤ gSL then gB X.ex (fun X4 => some (gR.i 3, X4)) else none) else none)))) (fun X1 => some (gR.i 0, X1))
set_option maxHeartbeats 4000000 in
set_option maxRecDepth 100000 in
theorem K_Lw_harm (l : Launch) (htr : l.stackTraces = false) (D : va_G) (tys : List (ClassId × FieldType)) (z sz : Nat) (ws : va_W) (h : gm_M) (hM : gm_S h ws) (t : Nat → ClassId) (ht : gTy t tys) (b : Nat → Nat) (X0 : gX) (hw : gw D t b X0 h) (a1 : Int32) (a2 : Int32) (hc0 : X0.cc ≤ gCL) (hs0 : X0.ss ≤ gSL) (o : gR × gX) (hf : f_Lw_harm X0 a1 a2 = some o) : gx_Met l y_Lw_harm [Cond.codeWith y_Lw_harm b_Lw_harm 4 (some .int) [(0, 6, 9, 13), (0, 6, 12, 15), (0, 6, 15, 41)]] { frames := 7, cells := gCL + 1 - X0.cc, slots := gSL + 6 - X0.ss, locals := 121 } (gx_P z sz D classes tys ws [Value.ref (b 0), Value.int a1, Value.int a2]) (gx_Q D classes tys (va_A ws sz) (gPoA D t b X0 o)) (o.2.cc + gT o.1 - X0.cc) (o.2.ss + 6 * gT o.1 - X0.ss) (va_A ws sz) := by
  refine gx_ofWH (cc := b_Lw_harm) (maxL := 4) (ret := (some .int)) (by decide) ?_
  intro p e s m args below meth c s₁ B hml htab hv
  obtain ⟨rfl, hsz, hz, hP, hK, hD0, hY⟩ := hv
  have hx := B.exec
  have hb := B.bytes
  have hr := B.returns
  have hts := hY.hts (#[Value.ref (b 0), Value.int a1, Value.int a2] : Array Value)
  have hown : s.vm.findClass "CommitLedgerLaw" = some m.cls := findClass_of_methodNamed B.named
  have hlocks := B.notSynchronized
  subst hsz
  have hAz := gx_az hD0 hz
  have hD := hD0.self (sz := s.heap.size)
  have hA : ∀ q : Nat, s.heap.size ≤ q → va_A ws s.heap.size q := fun q h => Or.inr h
  generalize va_A ws s.heap.size = A at hD hA hAz ⊢
  have Y : gy D t b A s.heap X0 X0 s.heap [] := ⟨h, ⟨ws, hM, hP, hD, va_S.rf⟩, hw, gEq.rf⟩
  clear hP hD hM hD0 hw
  have hC : gC X0 b X0 b 0 0 := gC.rf hc0 hs0
  obtain ⟨ht0, ht1, ht2, ht3, ht4, ht5, ht6, ht7, ht8⟩ := id ht
  have hl := lv_entry ([Value.ref (b 0), Value.int a1, Value.int a2]) (n := 4) (Nat.le_of_ble_eq_true rfl)
  rw [lg_entry_eq]
  generalize (lg_sl ([Value.ref (b 0), Value.int a1, Value.int a2]) ++ List.replicate (4 - (lg_sl ([Value.ref (b 0), Value.int a1, Value.int a2])).length) Slot.unset).toArray = ls at hl ⊢
  have hl : lv_has ls 4 [(0, Value.ref (b 0)), (1, Value.int a1), (2, Value.int a2)] := hl
  unfold f_Lw_harm at hf
  refine lv_aload_n hx hb d_Lw_harm_0 rfl (lv_at hl 0 rfl) ?_
  refine lv_iload_n hx hb d_Lw_harm_1 rfl (lv_at hl 1 rfl) ?_
  refine lv_iload_n hx hb d_Lw_harm_2 rfl (lv_at hl 2 rfl) ?_
  rcases gCvt_el hf with ⟨X5, hF5, hf⟩ | ⟨E5, X5, hF5, hf⟩
  rotate_left
  · by_cases hE5_9 : E5 = "java/lang/IllegalArgumentException"
    · replace hf := gp_t hE5_9 hf
      subst hE5_9
      refine gy_callT (rm := { frames := 6, cells := 1, slots := 6, locals := 98 }) (ig := .invokevirtual 63) (av := [Value.ref (b 0), Value.int a1, Value.int a2]) Y (fun ws h hS hw => K_Le_harm l htr D tys z _ ws h hS t ht b X0 hw a1 a2 (gR.t "java/lang/IllegalArgumentException", X5) hF5) (gx_invV (As := [Value.int a1, Value.int a2]) (rest := []) hx hb hown hts km_Lw_63 kI_Le_harm kV_Le_harm kc_Le_harm (by decide) (show (parseMethodDescriptor y_Le_harm.desc).map (fun d => d.parameters.length) = some 2 by decide +kernel) (gy_recv (ci := 0) hK Y rfl gF_0) rfl rfl d_Lw_harm_3) (gx_cw (z := 0) hts kc_Le_harm kN_Le rfl rfl ⟨Nat.le_of_ble_eq_true rfl, Nat.le_of_ble_eq_true rfl⟩) hb hml hz hK hY hAz hA hl.1 (lv_room (Nat.le_of_ble_eq_true rfl)) d_Lw_harm_3 ⟨hC.rc (Nat.le_refl _), hC.rs (Nat.le_refl _)⟩ (fun xz9 ce H locs hce Y => ?_)
      refine gx_catch (E := "java/lang/IllegalArgumentException") (hp := 9) hown htab (Or.inr ⟨⟨by show 0 ≤ 3; decide, by show 3 < 6; decide⟩, by decide, "java/lang/IllegalArgumentException", hts _ kk_Lw_13, Or.inl ⟨rfl, hts _ kB_IllegalArgumentException⟩⟩) hce ?_
      refine gA_exc hf hC Y (fun X6 cells slots hf hC Y => ?_)
      have hl : lv_has ls 4 [] := lv_sub hl [] rfl
      refine lv_astore_n (lv' := [(3, Value.ref xz9)]) hx hb d_Lw_harm_9 rfl hl (by decide) rfl (fun ls hl => ?_)
      refine lv_iconst (v := 1) hx hb d_Lw_harm_10 (by decide) ?_
      exact gA_iret hf hx hb hr hlocks hK hC Y d_Lw_harm_11
    replace hf := gp_f hE5_9 hf
    by_cases hE5_12 : E5 = "java/lang/IllegalStateException"
    · replace hf := gp_t hE5_12 hf
      subst hE5_12
      refine gy_callT (rm := { frames := 6, cells := 1, slots := 6, locals := 98 }) (ig := .invokevirtual 63) (av := [Value.ref (b 0), Value.int a1, Value.int a2]) Y (fun ws h hS hw => K_Le_harm l htr D tys z _ ws h hS t ht b X0 hw a1 a2 (gR.t "java/lang/IllegalStateException", X5) hF5) (gx_invV (As := [Value.int a1, Value.int a2]) (rest := []) hx hb hown hts km_Lw_63 kI_Le_harm kV_Le_harm kc_Le_harm (by decide) (show (parseMethodDescriptor y_Le_harm.desc).map (fun d => d.parameters.length) = some 2 by decide +kernel) (gy_recv (ci := 0) hK Y rfl gF_0) rfl rfl d_Lw_harm_3) (gx_cw (z := 0) hts kc_Le_harm kN_Le rfl rfl ⟨Nat.le_of_ble_eq_true rfl, Nat.le_of_ble_eq_true rfl⟩) hb hml hz hK hY hAz hA hl.1 (lv_room (Nat.le_of_ble_eq_true rfl)) d_Lw_harm_3 ⟨hC.rc (Nat.le_refl _), hC.rs (Nat.le_refl _)⟩ (fun xz9 ce H locs hce Y => ?_)
      refine gx_catch (E := "java/lang/IllegalStateException") (hp := 12) hown htab (Or.inr ⟨⟨by show 0 ≤ 3; decide, by show 3 < 6; decide⟩, by decide, "java/lang/IllegalArgumentException", hts _ kk_Lw_13, Or.inr ⟨hts _ kZ_IllegalStateException_IllegalArgumentException, (Or.inr ⟨⟨by show 0 ≤ 3; decide, by show 3 < 6; decide⟩, by decide, "java/lang/IllegalStateException", hts _ kk_Lw_15, Or.inl ⟨rfl, hts _ kB_IllegalStateException⟩⟩)⟩⟩) hce ?_
      refine gA_exc hf hC Y (fun X7 cells slots hf hC Y => ?_)
      have hl : lv_has ls 4 [] := lv_sub hl [] rfl
      refine lv_astore_n (lv' := [(3, Value.ref xz9)]) hx hb d_Lw_harm_12 rfl hl (by decide) rfl (fun ls hl => ?_)
      refine lv_iconst (v := 2) hx hb d_Lw_harm_13 (by decide) ?_
      exact gA_iret hf hx hb hr hlocks hK hC Y d_Lw_harm_14
    replace hf := gp_f hE5_12 hf
    by_cases hE5_15 : E5 = "java/util/NoSuchElementException"
    · replace hf := gp_t hE5_15 hf
      subst hE5_15
      refine gy_callT (rm := { frames := 6, cells := 1, slots := 6, locals := 98 }) (ig := .invokevirtual 63) (av := [Value.ref (b 0), Value.int a1, Value.int a2]) Y (fun ws h hS hw => K_Le_harm l htr D tys z _ ws h hS t ht b X0 hw a1 a2 (gR.t "java/util/NoSuchElementException", X5) hF5) (gx_invV (As := [Value.int a1, Value.int a2]) (rest := []) hx hb hown hts km_Lw_63 kI_Le_harm kV_Le_harm kc_Le_harm (by decide) (show (parseMethodDescriptor y_Le_harm.desc).map (fun d => d.parameters.length) = some 2 by decide +kernel) (gy_recv (ci := 0) hK Y rfl gF_0) rfl rfl d_Lw_harm_3) (gx_cw (z := 0) hts kc_Le_harm kN_Le rfl rfl ⟨Nat.le_of_ble_eq_true rfl, Nat.le_of_ble_eq_true rfl⟩) hb hml hz hK hY hAz hA hl.1 (lv_room (Nat.le_of_ble_eq_true rfl)) d_Lw_harm_3 ⟨hC.rc (Nat.le_refl _), hC.rs (Nat.le_refl _)⟩ (fun xz9 ce H locs hce Y => ?_)
      refine gx_catch (E := "java/util/NoSuchElementException") (hp := 15) hown htab (Or.inr ⟨⟨by show 0 ≤ 3; decide, by show 3 < 6; decide⟩, by decide, "java/lang/IllegalArgumentException", hts _ kk_Lw_13, Or.inr ⟨hts _ kZ_NoSuchElementException_IllegalArgumentException, (Or.inr ⟨⟨by show 0 ≤ 3; decide, by show 3 < 6; decide⟩, by decide, "java/lang/IllegalStateException", hts _ kk_Lw_15, Or.inr ⟨hts _ kZ_NoSuchElementException_IllegalStateException, (Or.inr ⟨⟨by show 0 ≤ 3; decide, by show 3 < 6; decide⟩, by decide, "java/util/NoSuchElementException", hts _ kk_Lw_41, Or.inl ⟨rfl, hts _ kB_NoSuchElementException⟩⟩)⟩⟩)⟩⟩) hce ?_
      refine gA_exc hf hC Y (fun X8 cells slots hf hC Y => ?_)
      have hl : lv_has ls 4 [] := lv_sub hl [] rfl
      refine lv_astore_n (lv' := [(3, Value.ref xz9)]) hx hb d_Lw_harm_15 rfl hl (by decide) rfl (fun ls hl => ?_)
      refine lv_iconst (v := 3) hx hb d_Lw_harm_16 (by decide) ?_
      exact gA_iret hf hx hb hr hlocks hK hC Y d_Lw_harm_17
    replace hf := gp_f hE5_15 hf
    cases hf
  refine gy_callV (rm := { frames := 6, cells := 0, slots := 0, locals := 98 }) (ig := .invokevirtual 63) (av := [Value.ref (b 0), Value.int a1, Value.int a2]) Y (fun ws h hS hw => K_Le_harm l htr D tys z _ ws h hS t ht b X0 hw a1 a2 (gR.v, X5) hF5) (gx_invV (As := [Value.int a1, Value.int a2]) (rest := []) hx hb hown hts km_Lw_63 kI_Le_harm kV_Le_harm kc_Le_harm (by decide) (show (parseMethodDescriptor y_Le_harm.desc).map (fun d => d.parameters.length) = some 2 by decide +kernel) (gy_recv (ci := 0) hK Y rfl gF_0) rfl rfl d_Lw_harm_3) (gx_cw (z := 0) hts kc_Le_harm kN_Le rfl rfl ⟨Nat.le_of_ble_eq_true rfl, Nat.le_of_ble_eq_true rfl⟩) hb hml hz hK hY hAz hA hl.1 (lv_room (Nat.le_of_ble_eq_true rfl)) d_Lw_harm_3 ⟨hC.rc0 (Nat.le_refl _), hC.rs0 (Nat.le_refl _)⟩ (fun H locs Y => ?_)
  refine lv_goto (tgt := 18) hx hb d_Lw_harm_6 (by decide) ?_
  refine lv_iconst (v := 0) hx hb d_Lw_harm_18 (by decide) ?_
  exact gA_iret hf hx hb hr hlocks hK hC Y d_Lw_harm_19

def f_Lw_reader (X0 : gX) (a1 : Int32) : Option (gR × gX) := gCit (f_Le_reader X0 a1) (fun E X => (if E = "java/lang/IllegalArgumentException" then (if X.cc + 1 ≤ gCL ∧ X.ss + 6 ≤ gSL then gB X.ex (fun X2 => some (gR.i 1, X2)) else none) else (if E = "java/lang/IllegalStateException" then (if X.cc + 1 ≤ gCL ∧ X.ss + 6 ≤ gSL then gB X.ex (fun X3 => some (gR.i 2, X3)) else none) else (if E = "java/util/NoSuchElementException" then (if X.cc + 1 ≤ gCL ∧ X.ss + 6 ≤ gSL then gB X.ex (fun X4 => some (gR.i 3, X4)) else none) else (if E = "java/lang/UnsupportedOperationException" then (if X.cc + 1 ≤ gCL ∧ X.ss + 6 ≤ gSL then gB X.ex (fun X5 => some (gR.i 4, X5)) else none) else (if E = "java/lang/IndexOutOfBoundsException" then (if X.cc + 1 ≤ gCL ∧ X.ss + 6 ≤ gSL then gB X.ex (fun X6 => some (gR.i 5, X6)) else none) else (if E = "java/lang/ArithmeticException" then (if X.cc + 1 ≤ gCL ∧ X.ss + 6 ≤ gSL then gB X.ex (fun X7 => some (gR.i 6, X7)) else none) else none))))))) (fun x1 X1 => gB (X1.w 116 0 x1) (fun X8 => some (gR.i 0, X8)))
set_option maxHeartbeats 4000000 in
set_option maxRecDepth 100000 in
theorem K_Lw_reader (l : Launch) (htr : l.stackTraces = false) (D : va_G) (tys : List (ClassId × FieldType)) (z sz : Nat) (ws : va_W) (h : gm_M) (hM : gm_S h ws) (t : Nat → ClassId) (ht : gTy t tys) (b : Nat → Nat) (X0 : gX) (hw : gw D t b X0 h) (a1 : Int32) (hc0 : X0.cc ≤ gCL) (hs0 : X0.ss ≤ gSL) (o : gR × gX) (hf : f_Lw_reader X0 a1 = some o) : gx_Met l y_Lw_reader [Cond.codeWith y_Lw_reader b_Lw_reader 4 (some .int) [(0, 9, 12, 13), (0, 9, 15, 15), (0, 9, 18, 41), (0, 9, 21, 17), (0, 9, 24, 27), (0, 9, 27, 29)]] { frames := 13, cells := gCL + 1 - X0.cc, slots := gSL + 6 - X0.ss, locals := 304 } (gx_P z sz D classes tys ws [Value.ref (b 0), Value.int a1, Value.ref (b 116)]) (gx_Q D classes tys (va_A ws sz) (gPoA D t b X0 o)) (o.2.cc + gT o.1 - X0.cc) (o.2.ss + 6 * gT o.1 - X0.ss) (va_A ws sz) := by
  refine gx_ofWH (cc := b_Lw_reader) (maxL := 4) (ret := (some .int)) (by decide) ?_
  intro p e s m args below meth c s₁ B hml htab hv
  obtain ⟨rfl, hsz, hz, hP, hK, hD0, hY⟩ := hv
  have hx := B.exec
  have hb := B.bytes
  have hr := B.returns
  have hts := hY.hts (#[Value.ref (b 0), Value.int a1, Value.ref (b 116)] : Array Value)
  have hown : s.vm.findClass "CommitLedgerLaw" = some m.cls := findClass_of_methodNamed B.named
  have hlocks := B.notSynchronized
  subst hsz
  have hAz := gx_az hD0 hz
  have hD := hD0.self (sz := s.heap.size)
  have hA : ∀ q : Nat, s.heap.size ≤ q → va_A ws s.heap.size q := fun q h => Or.inr h
  generalize va_A ws s.heap.size = A at hD hA hAz ⊢
  have Y : gy D t b A s.heap X0 X0 s.heap [] := ⟨h, ⟨ws, hM, hP, hD, va_S.rf⟩, hw, gEq.rf⟩
  clear hP hD hM hD0 hw
  have hC : gC X0 b X0 b 0 0 := gC.rf hc0 hs0
  obtain ⟨ht0, ht1, ht2, ht3, ht4, ht5, ht6, ht7, ht8⟩ := id ht
  have hl := lv_entry ([Value.ref (b 0), Value.int a1, Value.ref (b 116)]) (n := 4) (Nat.le_of_ble_eq_true rfl)
  rw [lg_entry_eq]
  generalize (lg_sl ([Value.ref (b 0), Value.int a1, Value.ref (b 116)]) ++ List.replicate (4 - (lg_sl ([Value.ref (b 0), Value.int a1, Value.ref (b 116)])).length) Slot.unset).toArray = ls at hl ⊢
  have hl : lv_has ls 4 [(0, Value.ref (b 0)), (1, Value.int a1), (2, Value.ref (b 116))] := hl
  unfold f_Lw_reader at hf
  refine lv_aload_n hx hb d_Lw_reader_0 rfl (lv_at hl 2 rfl) ?_
  refine lv_iconst (v := 0) hx hb d_Lw_reader_1 (by decide) ?_
  refine lv_aload_n hx hb d_Lw_reader_2 rfl (lv_at hl 0 rfl) ?_
  refine lv_iload_n hx hb d_Lw_reader_3 rfl (lv_at hl 1 rfl) ?_
  have hl : lv_has ls 4 [] := lv_sub hl [] rfl
  rcases gCit_el hf with ⟨x9, X9, hF9, hf⟩ | ⟨E9, X9, hF9, hf⟩
  rotate_left
  · by_cases hE9_12 : E9 = "java/lang/IllegalArgumentException"
    · replace hf := gp_t hE9_12 hf
      subst hE9_12
      refine gA_call (fr := 12) (lo := 282) (o1 := (gR.t "java/lang/IllegalArgumentException", X9)) (ig := .invokevirtual 66) (av := [Value.ref (b 0), Value.int a1]) hC Y ⟨Nat.le_refl _, Nat.le_refl _⟩ (fun hc9 hs9 ws h hS hw => K_Le_reader l htr D tys z _ ws h hS t ht b X0 hw a1 hc9 hs9 (gR.t "java/lang/IllegalArgumentException", X9) hF9) (gx_invV (As := [Value.int a1]) (rest := [Value.int 0, Value.ref (b 116)]) hx hb hown hts km_Lw_66 kI_Le_reader kV_Le_reader kc_Le_reader (by decide) (show (parseMethodDescriptor y_Le_reader.desc).map (fun d => d.parameters.length) = some 1 by decide +kernel) (gy_recv (ci := 0) hK Y rfl gF_0) rfl rfl d_Lw_reader_4) (gx_cwA hts kc_Le_reader kN_Le ⟨Nat.le_of_ble_eq_true rfl, Nat.le_of_ble_eq_true rfl⟩) hb hml hz hK hY hAz hA hl.1 (lv_room (Nat.le_of_ble_eq_true rfl)) d_Lw_reader_4 (fun vz9 b H locs cells slots e9 hb9 hC Y => ?_) (fun xz9 Ez9 ce b H locs cells slots e9 hce hC Y => ?_)
      · have e9 : (Sum.inl vz9 : Option Value ⊕ String) = Sum.inr "java/lang/IllegalArgumentException" := e9
        cases e9
      · have e9 : (Sum.inr Ez9 : Option Value ⊕ String) = Sum.inr "java/lang/IllegalArgumentException" := e9
        cases e9
        refine gx_catch (E := "java/lang/IllegalArgumentException") (hp := 12) hown htab (Or.inr ⟨⟨by show 0 ≤ 4; decide, by show 4 < 9; decide⟩, by decide, "java/lang/IllegalArgumentException", hts _ kk_Lw_13, Or.inl ⟨rfl, hts _ kB_IllegalArgumentException⟩⟩) hce ?_
        refine gA_exc hf hC Y (fun X10 cells slots hf hC Y => ?_)
        have hl : lv_has ls 4 [] := lv_sub hl [] rfl
        refine lv_astore_n (lv' := [(3, Value.ref xz9)]) hx hb d_Lw_reader_12 rfl hl (by decide) rfl (fun ls hl => ?_)
        refine lv_iconst (v := 1) hx hb d_Lw_reader_13 (by decide) ?_
        exact gA_iret hf hx hb hr hlocks hK hC Y d_Lw_reader_14
    replace hf := gp_f hE9_12 hf
    by_cases hE9_15 : E9 = "java/lang/IllegalStateException"
    · replace hf := gp_t hE9_15 hf
      subst hE9_15
      refine gA_call (fr := 12) (lo := 282) (o1 := (gR.t "java/lang/IllegalStateException", X9)) (ig := .invokevirtual 66) (av := [Value.ref (b 0), Value.int a1]) hC Y ⟨Nat.le_refl _, Nat.le_refl _⟩ (fun hc9 hs9 ws h hS hw => K_Le_reader l htr D tys z _ ws h hS t ht b X0 hw a1 hc9 hs9 (gR.t "java/lang/IllegalStateException", X9) hF9) (gx_invV (As := [Value.int a1]) (rest := [Value.int 0, Value.ref (b 116)]) hx hb hown hts km_Lw_66 kI_Le_reader kV_Le_reader kc_Le_reader (by decide) (show (parseMethodDescriptor y_Le_reader.desc).map (fun d => d.parameters.length) = some 1 by decide +kernel) (gy_recv (ci := 0) hK Y rfl gF_0) rfl rfl d_Lw_reader_4) (gx_cwA hts kc_Le_reader kN_Le ⟨Nat.le_of_ble_eq_true rfl, Nat.le_of_ble_eq_true rfl⟩) hb hml hz hK hY hAz hA hl.1 (lv_room (Nat.le_of_ble_eq_true rfl)) d_Lw_reader_4 (fun vz9 b H locs cells slots e9 hb9 hC Y => ?_) (fun xz9 Ez9 ce b H locs cells slots e9 hce hC Y => ?_)
      · have e9 : (Sum.inl vz9 : Option Value ⊕ String) = Sum.inr "java/lang/IllegalStateException" := e9
        cases e9
      · have e9 : (Sum.inr Ez9 : Option Value ⊕ String) = Sum.inr "java/lang/IllegalStateException" := e9
        cases e9
        refine gx_catch (E := "java/lang/IllegalStateException") (hp := 15) hown htab (Or.inr ⟨⟨by show 0 ≤ 4; decide, by show 4 < 9; decide⟩, by decide, "java/lang/IllegalArgumentException", hts _ kk_Lw_13, Or.inr ⟨hts _ kZ_IllegalStateException_IllegalArgumentException, (Or.inr ⟨⟨by show 0 ≤ 4; decide, by show 4 < 9; decide⟩, by decide, "java/lang/IllegalStateException", hts _ kk_Lw_15, Or.inl ⟨rfl, hts _ kB_IllegalStateException⟩⟩)⟩⟩) hce ?_
        refine gA_exc hf hC Y (fun X11 cells slots hf hC Y => ?_)
        have hl : lv_has ls 4 [] := lv_sub hl [] rfl
        refine lv_astore_n (lv' := [(3, Value.ref xz9)]) hx hb d_Lw_reader_15 rfl hl (by decide) rfl (fun ls hl => ?_)
        refine lv_iconst (v := 2) hx hb d_Lw_reader_16 (by decide) ?_
        exact gA_iret hf hx hb hr hlocks hK hC Y d_Lw_reader_17
    replace hf := gp_f hE9_15 hf
    by_cases hE9_18 : E9 = "java/util/NoSuchElementException"
    · replace hf := gp_t hE9_18 hf
      subst hE9_18
      refine gA_call (fr := 12) (lo := 282) (o1 := (gR.t "java/util/NoSuchElementException", X9)) (ig := .invokevirtual 66) (av := [Value.ref (b 0), Value.int a1]) hC Y ⟨Nat.le_refl _, Nat.le_refl _⟩ (fun hc9 hs9 ws h hS hw => K_Le_reader l htr D tys z _ ws h hS t ht b X0 hw a1 hc9 hs9 (gR.t "java/util/NoSuchElementException", X9) hF9) (gx_invV (As := [Value.int a1]) (rest := [Value.int 0, Value.ref (b 116)]) hx hb hown hts km_Lw_66 kI_Le_reader kV_Le_reader kc_Le_reader (by decide) (show (parseMethodDescriptor y_Le_reader.desc).map (fun d => d.parameters.length) = some 1 by decide +kernel) (gy_recv (ci := 0) hK Y rfl gF_0) rfl rfl d_Lw_reader_4) (gx_cwA hts kc_Le_reader kN_Le ⟨Nat.le_of_ble_eq_true rfl, Nat.le_of_ble_eq_true rfl⟩) hb hml hz hK hY hAz hA hl.1 (lv_room (Nat.le_of_ble_eq_true rfl)) d_Lw_reader_4 (fun vz9 b H locs cells slots e9 hb9 hC Y => ?_) (fun xz9 Ez9 ce b H locs cells slots e9 hce hC Y => ?_)
      · have e9 : (Sum.inl vz9 : Option Value ⊕ String) = Sum.inr "java/util/NoSuchElementException" := e9
        cases e9
      · have e9 : (Sum.inr Ez9 : Option Value ⊕ String) = Sum.inr "java/util/NoSuchElementException" := e9
        cases e9
        refine gx_catch (E := "java/util/NoSuchElementException") (hp := 18) hown htab (Or.inr ⟨⟨by show 0 ≤ 4; decide, by show 4 < 9; decide⟩, by decide, "java/lang/IllegalArgumentException", hts _ kk_Lw_13, Or.inr ⟨hts _ kZ_NoSuchElementException_IllegalArgumentException, (Or.inr ⟨⟨by show 0 ≤ 4; decide, by show 4 < 9; decide⟩, by decide, "java/lang/IllegalStateException", hts _ kk_Lw_15, Or.inr ⟨hts _ kZ_NoSuchElementException_IllegalStateException, (Or.inr ⟨⟨by show 0 ≤ 4; decide, by show 4 < 9; decide⟩, by decide, "java/util/NoSuchElementException", hts _ kk_Lw_41, Or.inl ⟨rfl, hts _ kB_NoSuchElementException⟩⟩)⟩⟩)⟩⟩) hce ?_
        refine gA_exc hf hC Y (fun X12 cells slots hf hC Y => ?_)
        have hl : lv_has ls 4 [] := lv_sub hl [] rfl
        refine lv_astore_n (lv' := [(3, Value.ref xz9)]) hx hb d_Lw_reader_18 rfl hl (by decide) rfl (fun ls hl => ?_)
        refine lv_iconst (v := 3) hx hb d_Lw_reader_19 (by decide) ?_
        exact gA_iret hf hx hb hr hlocks hK hC Y d_Lw_reader_20
    replace hf := gp_f hE9_18 hf
    by_cases hE9_21 : E9 = "java/lang/UnsupportedOperationException"
    · replace hf := gp_t hE9_21 hf
      subst hE9_21
      refine gA_call (fr := 12) (lo := 282) (o1 := (gR.t "java/lang/UnsupportedOperationException", X9)) (ig := .invokevirtual 66) (av := [Value.ref (b 0), Value.int a1]) hC Y ⟨Nat.le_refl _, Nat.le_refl _⟩ (fun hc9 hs9 ws h hS hw => K_Le_reader l htr D tys z _ ws h hS t ht b X0 hw a1 hc9 hs9 (gR.t "java/lang/UnsupportedOperationException", X9) hF9) (gx_invV (As := [Value.int a1]) (rest := [Value.int 0, Value.ref (b 116)]) hx hb hown hts km_Lw_66 kI_Le_reader kV_Le_reader kc_Le_reader (by decide) (show (parseMethodDescriptor y_Le_reader.desc).map (fun d => d.parameters.length) = some 1 by decide +kernel) (gy_recv (ci := 0) hK Y rfl gF_0) rfl rfl d_Lw_reader_4) (gx_cwA hts kc_Le_reader kN_Le ⟨Nat.le_of_ble_eq_true rfl, Nat.le_of_ble_eq_true rfl⟩) hb hml hz hK hY hAz hA hl.1 (lv_room (Nat.le_of_ble_eq_true rfl)) d_Lw_reader_4 (fun vz9 b H locs cells slots e9 hb9 hC Y => ?_) (fun xz9 Ez9 ce b H locs cells slots e9 hce hC Y => ?_)
      · have e9 : (Sum.inl vz9 : Option Value ⊕ String) = Sum.inr "java/lang/UnsupportedOperationException" := e9
        cases e9
      · have e9 : (Sum.inr Ez9 : Option Value ⊕ String) = Sum.inr "java/lang/UnsupportedOperationException" := e9
        cases e9
        refine gx_catch (E := "java/lang/UnsupportedOperationException") (hp := 21) hown htab (Or.inr ⟨⟨by show 0 ≤ 4; decide, by show 4 < 9; decide⟩, by decide, "java/lang/IllegalArgumentException", hts _ kk_Lw_13, Or.inr ⟨hts _ kZ_UnsupportedOperationException_IllegalArgumentException, (Or.inr ⟨⟨by show 0 ≤ 4; decide, by show 4 < 9; decide⟩, by decide, "java/lang/IllegalStateException", hts _ kk_Lw_15, Or.inr ⟨hts _ kZ_UnsupportedOperationException_IllegalStateException, (Or.inr ⟨⟨by show 0 ≤ 4; decide, by show 4 < 9; decide⟩, by decide, "java/util/NoSuchElementException", hts _ kk_Lw_41, Or.inr ⟨hts _ kZ_UnsupportedOperationException_NoSuchElementException, (Or.inr ⟨⟨by show 0 ≤ 4; decide, by show 4 < 9; decide⟩, by decide, "java/lang/UnsupportedOperationException", hts _ kk_Lw_17, Or.inl ⟨rfl, hts _ kB_UnsupportedOperationException⟩⟩)⟩⟩)⟩⟩)⟩⟩) hce ?_
        refine gA_exc hf hC Y (fun X13 cells slots hf hC Y => ?_)
        have hl : lv_has ls 4 [] := lv_sub hl [] rfl
        refine lv_astore_n (lv' := [(3, Value.ref xz9)]) hx hb d_Lw_reader_21 rfl hl (by decide) rfl (fun ls hl => ?_)
        refine lv_iconst (v := 4) hx hb d_Lw_reader_22 (by decide) ?_
        exact gA_iret hf hx hb hr hlocks hK hC Y d_Lw_reader_23
    replace hf := gp_f hE9_21 hf
    by_cases hE9_24 : E9 = "java/lang/IndexOutOfBoundsException"
    · replace hf := gp_t hE9_24 hf
      subst hE9_24
      refine gA_call (fr := 12) (lo := 282) (o1 := (gR.t "java/lang/IndexOutOfBoundsException", X9)) (ig := .invokevirtual 66) (av := [Value.ref (b 0), Value.int a1]) hC Y ⟨Nat.le_refl _, Nat.le_refl _⟩ (fun hc9 hs9 ws h hS hw => K_Le_reader l htr D tys z _ ws h hS t ht b X0 hw a1 hc9 hs9 (gR.t "java/lang/IndexOutOfBoundsException", X9) hF9) (gx_invV (As := [Value.int a1]) (rest := [Value.int 0, Value.ref (b 116)]) hx hb hown hts km_Lw_66 kI_Le_reader kV_Le_reader kc_Le_reader (by decide) (show (parseMethodDescriptor y_Le_reader.desc).map (fun d => d.parameters.length) = some 1 by decide +kernel) (gy_recv (ci := 0) hK Y rfl gF_0) rfl rfl d_Lw_reader_4) (gx_cwA hts kc_Le_reader kN_Le ⟨Nat.le_of_ble_eq_true rfl, Nat.le_of_ble_eq_true rfl⟩) hb hml hz hK hY hAz hA hl.1 (lv_room (Nat.le_of_ble_eq_true rfl)) d_Lw_reader_4 (fun vz9 b H locs cells slots e9 hb9 hC Y => ?_) (fun xz9 Ez9 ce b H locs cells slots e9 hce hC Y => ?_)
      · have e9 : (Sum.inl vz9 : Option Value ⊕ String) = Sum.inr "java/lang/IndexOutOfBoundsException" := e9
        cases e9
      · have e9 : (Sum.inr Ez9 : Option Value ⊕ String) = Sum.inr "java/lang/IndexOutOfBoundsException" := e9
        cases e9
        refine gx_catch (E := "java/lang/IndexOutOfBoundsException") (hp := 24) hown htab (Or.inr ⟨⟨by show 0 ≤ 4; decide, by show 4 < 9; decide⟩, by decide, "java/lang/IllegalArgumentException", hts _ kk_Lw_13, Or.inr ⟨hts _ kZ_IndexOutOfBoundsException_IllegalArgumentException, (Or.inr ⟨⟨by show 0 ≤ 4; decide, by show 4 < 9; decide⟩, by decide, "java/lang/IllegalStateException", hts _ kk_Lw_15, Or.inr ⟨hts _ kZ_IndexOutOfBoundsException_IllegalStateException, (Or.inr ⟨⟨by show 0 ≤ 4; decide, by show 4 < 9; decide⟩, by decide, "java/util/NoSuchElementException", hts _ kk_Lw_41, Or.inr ⟨hts _ kZ_IndexOutOfBoundsException_NoSuchElementException, (Or.inr ⟨⟨by show 0 ≤ 4; decide, by show 4 < 9; decide⟩, by decide, "java/lang/UnsupportedOperationException", hts _ kk_Lw_17, Or.inr ⟨hts _ kZ_IndexOutOfBoundsException_UnsupportedOperationException, (Or.inr ⟨⟨by show 0 ≤ 4; decide, by show 4 < 9; decide⟩, by decide, "java/lang/IndexOutOfBoundsException", hts _ kk_Lw_27, Or.inl ⟨rfl, hts _ kB_IndexOutOfBoundsException⟩⟩)⟩⟩)⟩⟩)⟩⟩)⟩⟩) hce ?_
        refine gA_exc hf hC Y (fun X14 cells slots hf hC Y => ?_)
        have hl : lv_has ls 4 [] := lv_sub hl [] rfl
        refine lv_astore_n (lv' := [(3, Value.ref xz9)]) hx hb d_Lw_reader_24 rfl hl (by decide) rfl (fun ls hl => ?_)
        refine lv_iconst (v := 5) hx hb d_Lw_reader_25 (by decide) ?_
        exact gA_iret hf hx hb hr hlocks hK hC Y d_Lw_reader_26
    replace hf := gp_f hE9_24 hf
    by_cases hE9_27 : E9 = "java/lang/ArithmeticException"
    · replace hf := gp_t hE9_27 hf
      subst hE9_27
      refine gA_call (fr := 12) (lo := 282) (o1 := (gR.t "java/lang/ArithmeticException", X9)) (ig := .invokevirtual 66) (av := [Value.ref (b 0), Value.int a1]) hC Y ⟨Nat.le_refl _, Nat.le_refl _⟩ (fun hc9 hs9 ws h hS hw => K_Le_reader l htr D tys z _ ws h hS t ht b X0 hw a1 hc9 hs9 (gR.t "java/lang/ArithmeticException", X9) hF9) (gx_invV (As := [Value.int a1]) (rest := [Value.int 0, Value.ref (b 116)]) hx hb hown hts km_Lw_66 kI_Le_reader kV_Le_reader kc_Le_reader (by decide) (show (parseMethodDescriptor y_Le_reader.desc).map (fun d => d.parameters.length) = some 1 by decide +kernel) (gy_recv (ci := 0) hK Y rfl gF_0) rfl rfl d_Lw_reader_4) (gx_cwA hts kc_Le_reader kN_Le ⟨Nat.le_of_ble_eq_true rfl, Nat.le_of_ble_eq_true rfl⟩) hb hml hz hK hY hAz hA hl.1 (lv_room (Nat.le_of_ble_eq_true rfl)) d_Lw_reader_4 (fun vz9 b H locs cells slots e9 hb9 hC Y => ?_) (fun xz9 Ez9 ce b H locs cells slots e9 hce hC Y => ?_)
      · have e9 : (Sum.inl vz9 : Option Value ⊕ String) = Sum.inr "java/lang/ArithmeticException" := e9
        cases e9
      · have e9 : (Sum.inr Ez9 : Option Value ⊕ String) = Sum.inr "java/lang/ArithmeticException" := e9
        cases e9
        refine gx_catch (E := "java/lang/ArithmeticException") (hp := 27) hown htab (Or.inr ⟨⟨by show 0 ≤ 4; decide, by show 4 < 9; decide⟩, by decide, "java/lang/IllegalArgumentException", hts _ kk_Lw_13, Or.inr ⟨hts _ kZ_ArithmeticException_IllegalArgumentException, (Or.inr ⟨⟨by show 0 ≤ 4; decide, by show 4 < 9; decide⟩, by decide, "java/lang/IllegalStateException", hts _ kk_Lw_15, Or.inr ⟨hts _ kZ_ArithmeticException_IllegalStateException, (Or.inr ⟨⟨by show 0 ≤ 4; decide, by show 4 < 9; decide⟩, by decide, "java/util/NoSuchElementException", hts _ kk_Lw_41, Or.inr ⟨hts _ kZ_ArithmeticException_NoSuchElementException, (Or.inr ⟨⟨by show 0 ≤ 4; decide, by show 4 < 9; decide⟩, by decide, "java/lang/UnsupportedOperationException", hts _ kk_Lw_17, Or.inr ⟨hts _ kZ_ArithmeticException_UnsupportedOperationException, (Or.inr ⟨⟨by show 0 ≤ 4; decide, by show 4 < 9; decide⟩, by decide, "java/lang/IndexOutOfBoundsException", hts _ kk_Lw_27, Or.inr ⟨hts _ kZ_ArithmeticException_IndexOutOfBoundsException, (Or.inr ⟨⟨by show 0 ≤ 4; decide, by show 4 < 9; decide⟩, by decide, "java/lang/ArithmeticException", hts _ kk_Lw_29, Or.inl ⟨rfl, hts _ kB_ArithmeticException⟩⟩)⟩⟩)⟩⟩)⟩⟩)⟩⟩)⟩⟩) hce ?_
        refine gA_exc hf hC Y (fun X15 cells slots hf hC Y => ?_)
        have hl : lv_has ls 4 [] := lv_sub hl [] rfl
        refine lv_astore_n (lv' := [(3, Value.ref xz9)]) hx hb d_Lw_reader_27 rfl hl (by decide) rfl (fun ls hl => ?_)
        refine lv_bipush (v := 6) hx hb d_Lw_reader_28 (by decide) ?_
        exact gA_iret hf hx hb hr hlocks hK hC Y d_Lw_reader_30
    replace hf := gp_f hE9_27 hf
    cases hf
  refine gA_call (fr := 12) (lo := 282) (o1 := (gR.i x9, X9)) (ig := .invokevirtual 66) (av := [Value.ref (b 0), Value.int a1]) hC Y ⟨Nat.le_refl _, Nat.le_refl _⟩ (fun hc9 hs9 ws h hS hw => K_Le_reader l htr D tys z _ ws h hS t ht b X0 hw a1 hc9 hs9 (gR.i x9, X9) hF9) (gx_invV (As := [Value.int a1]) (rest := [Value.int 0, Value.ref (b 116)]) hx hb hown hts km_Lw_66 kI_Le_reader kV_Le_reader kc_Le_reader (by decide) (show (parseMethodDescriptor y_Le_reader.desc).map (fun d => d.parameters.length) = some 1 by decide +kernel) (gy_recv (ci := 0) hK Y rfl gF_0) rfl rfl d_Lw_reader_4) (gx_cwA hts kc_Le_reader kN_Le ⟨Nat.le_of_ble_eq_true rfl, Nat.le_of_ble_eq_true rfl⟩) hb hml hz hK hY hAz hA hl.1 (lv_room (Nat.le_of_ble_eq_true rfl)) d_Lw_reader_4 (fun vz9 b H locs cells slots e9 hb9 hC Y => ?_) (fun xz9 Ez9 ce b H locs cells slots e9 hce hC Y => ?_)
  rotate_left
  · have e9 : (Sum.inr Ez9 : Option Value ⊕ String) = Sum.inl (some (Value.int x9)) := e9
    cases e9
  have e9 : (Sum.inl vz9 : Option Value ⊕ String) = Sum.inl (some (Value.int x9)) := e9
  cases e9
  replace hl : lv_has ls 4 [] := by exact hl
  refine W.eq (g2 := F0 m 7 ls [Value.int x9, Value.int 0, Value.ref (b 116)]) (by rw [hb9 116 (gNm_s (by decide))]; rfl) ?_
  refine lv_i2l (v := x9.toInt64) hx hb d_Lw_reader_7 rfl ?_
  refine gy_last hf hx hb hK Y gF_116 ht6 d_Lw_reader_8 (fun X16 H locs hf Y => ?_)
  refine lv_goto (tgt := 31) hx hb d_Lw_reader_9 (by decide) ?_
  refine lv_iconst (v := 0) hx hb d_Lw_reader_31 (by decide) ?_
  exact gA_iret hf hx hb hr hlocks hK hC Y d_Lw_reader_32

def f_Lw_release (X0 : gX) (a1 : Int32) : Option (gR × gX) := gCvt (f_Le_release X0 a1) (fun E X => (if E = "java/util/NoSuchElementException" then (if X.cc + 1 ≤ gCL ∧ X.ss + 6 ≤ gSL then gB X.ex (fun X2 => some (gR.i 1, X2)) else none) else none)) (fun X1 => some (gR.i 0, X1))
set_option maxHeartbeats 4000000 in
set_option maxRecDepth 100000 in
theorem K_Lw_release (l : Launch) (htr : l.stackTraces = false) (D : va_G) (tys : List (ClassId × FieldType)) (z sz : Nat) (ws : va_W) (h : gm_M) (hM : gm_S h ws) (t : Nat → ClassId) (ht : gTy t tys) (b : Nat → Nat) (X0 : gX) (hw : gw D t b X0 h) (a1 : Int32) (hc0 : X0.cc ≤ gCL) (hs0 : X0.ss ≤ gSL) (o : gR × gX) (hf : f_Lw_release X0 a1 = some o) : gx_Met l y_Lw_release [Cond.codeWith y_Lw_release b_Lw_release 3 (some .int) [(0, 5, 8, 41)]] { frames := 11, cells := gCL + 1 - X0.cc, slots := gSL + 6 - X0.ss, locals := 262 } (gx_P z sz D classes tys ws [Value.ref (b 0), Value.int a1]) (gx_Q D classes tys (va_A ws sz) (gPoA D t b X0 o)) (o.2.cc + gT o.1 - X0.cc) (o.2.ss + 6 * gT o.1 - X0.ss) (va_A ws sz) := by
  refine gx_ofWH (cc := b_Lw_release) (maxL := 3) (ret := (some .int)) (by decide) ?_
  intro p e s m args below meth c s₁ B hml htab hv
  obtain ⟨rfl, hsz, hz, hP, hK, hD0, hY⟩ := hv
  have hx := B.exec
  have hb := B.bytes
  have hr := B.returns
  have hts := hY.hts (#[Value.ref (b 0), Value.int a1] : Array Value)
  have hown : s.vm.findClass "CommitLedgerLaw" = some m.cls := findClass_of_methodNamed B.named
  have hlocks := B.notSynchronized
  subst hsz
  have hAz := gx_az hD0 hz
  have hD := hD0.self (sz := s.heap.size)
  have hA : ∀ q : Nat, s.heap.size ≤ q → va_A ws s.heap.size q := fun q h => Or.inr h
  generalize va_A ws s.heap.size = A at hD hA hAz ⊢
  have Y : gy D t b A s.heap X0 X0 s.heap [] := ⟨h, ⟨ws, hM, hP, hD, va_S.rf⟩, hw, gEq.rf⟩
  clear hP hD hM hD0 hw
  have hC : gC X0 b X0 b 0 0 := gC.rf hc0 hs0
  obtain ⟨ht0, ht1, ht2, ht3, ht4, ht5, ht6, ht7, ht8⟩ := id ht
  have hl := lv_entry ([Value.ref (b 0), Value.int a1]) (n := 3) (Nat.le_of_ble_eq_true rfl)
  rw [lg_entry_eq]
  generalize (lg_sl ([Value.ref (b 0), Value.int a1]) ++ List.replicate (3 - (lg_sl ([Value.ref (b 0), Value.int a1])).length) Slot.unset).toArray = ls at hl ⊢
  have hl : lv_has ls 3 [(0, Value.ref (b 0)), (1, Value.int a1)] := hl
  unfold f_Lw_release at hf
  refine lv_aload_n hx hb d_Lw_release_0 rfl (lv_at hl 0 rfl) ?_
  refine lv_iload_n hx hb d_Lw_release_1 rfl (lv_at hl 1 rfl) ?_
  have hl : lv_has ls 3 [] := lv_sub hl [] rfl
  rcases gCvt_el hf with ⟨X3, hF3, hf⟩ | ⟨E3, X3, hF3, hf⟩
  rotate_left
  · by_cases hE3_8 : E3 = "java/util/NoSuchElementException"
    · replace hf := gp_t hE3_8 hf
      subst hE3_8
      refine gA_call (fr := 10) (lo := 241) (o1 := (gR.t "java/util/NoSuchElementException", X3)) (ig := .invokevirtual 69) (av := [Value.ref (b 0), Value.int a1]) hC Y ⟨Nat.le_refl _, Nat.le_refl _⟩ (fun hc9 hs9 ws h hS hw => K_Le_release l htr D tys z _ ws h hS t ht b X0 hw a1 hc9 hs9 (gR.t "java/util/NoSuchElementException", X3) hF3) (gx_invV (As := [Value.int a1]) (rest := []) hx hb hown hts km_Lw_69 kI_Le_release kV_Le_release kc_Le_release (by decide) (show (parseMethodDescriptor y_Le_release.desc).map (fun d => d.parameters.length) = some 1 by decide +kernel) (gy_recv (ci := 0) hK Y rfl gF_0) rfl rfl d_Lw_release_2) (gx_cwA hts kc_Le_release kN_Le ⟨Nat.le_of_ble_eq_true rfl, Nat.le_of_ble_eq_true rfl⟩) hb hml hz hK hY hAz hA hl.1 (lv_room (Nat.le_of_ble_eq_true rfl)) d_Lw_release_2 (fun vz9 b H locs cells slots e9 hb9 hC Y => ?_) (fun xz9 Ez9 ce b H locs cells slots e9 hce hC Y => ?_)
      · have e9 : (Sum.inl vz9 : Option Value ⊕ String) = Sum.inr "java/util/NoSuchElementException" := e9
        cases e9
      · have e9 : (Sum.inr Ez9 : Option Value ⊕ String) = Sum.inr "java/util/NoSuchElementException" := e9
        cases e9
        refine gx_catch (E := "java/util/NoSuchElementException") (hp := 8) hown htab (Or.inr ⟨⟨by show 0 ≤ 2; decide, by show 2 < 5; decide⟩, by decide, "java/util/NoSuchElementException", hts _ kk_Lw_41, Or.inl ⟨rfl, hts _ kB_NoSuchElementException⟩⟩) hce ?_
        refine gA_exc hf hC Y (fun X4 cells slots hf hC Y => ?_)
        have hl : lv_has ls 3 [] := lv_sub hl [] rfl
        refine lv_astore_n (lv' := [(2, Value.ref xz9)]) hx hb d_Lw_release_8 rfl hl (by decide) rfl (fun ls hl => ?_)
        refine lv_iconst (v := 1) hx hb d_Lw_release_9 (by decide) ?_
        exact gA_iret hf hx hb hr hlocks hK hC Y d_Lw_release_10
    replace hf := gp_f hE3_8 hf
    cases hf
  refine gA_call (fr := 10) (lo := 241) (o1 := (gR.v, X3)) (ig := .invokevirtual 69) (av := [Value.ref (b 0), Value.int a1]) hC Y ⟨Nat.le_refl _, Nat.le_refl _⟩ (fun hc9 hs9 ws h hS hw => K_Le_release l htr D tys z _ ws h hS t ht b X0 hw a1 hc9 hs9 (gR.v, X3) hF3) (gx_invV (As := [Value.int a1]) (rest := []) hx hb hown hts km_Lw_69 kI_Le_release kV_Le_release kc_Le_release (by decide) (show (parseMethodDescriptor y_Le_release.desc).map (fun d => d.parameters.length) = some 1 by decide +kernel) (gy_recv (ci := 0) hK Y rfl gF_0) rfl rfl d_Lw_release_2) (gx_cwA hts kc_Le_release kN_Le ⟨Nat.le_of_ble_eq_true rfl, Nat.le_of_ble_eq_true rfl⟩) hb hml hz hK hY hAz hA hl.1 (lv_room (Nat.le_of_ble_eq_true rfl)) d_Lw_release_2 (fun vz9 b H locs cells slots e9 hb9 hC Y => ?_) (fun xz9 Ez9 ce b H locs cells slots e9 hce hC Y => ?_)
  rotate_left
  · have e9 : (Sum.inr Ez9 : Option Value ⊕ String) = Sum.inl none := e9
    cases e9
  have e9 : (Sum.inl vz9 : Option Value ⊕ String) = Sum.inl none := e9
  cases e9
  replace hl : lv_has ls 3 [] := by exact hl
  refine W.eq (g2 := F0 m 5 ls []) (by rfl) ?_
  refine lv_goto (tgt := 11) hx hb d_Lw_release_5 (by decide) ?_
  refine lv_iconst (v := 0) hx hb d_Lw_release_11 (by decide) ?_
  exact gA_iret hf hx hb hr hlocks hK hC Y d_Lw_release_12

def f_Lw_value (X0 : gX) (a1 : Int32) (a2 : Int32) : Option (gR × gX) := gCit (f_Le_value X0 a1 a2) (fun E X => (if E = "java/util/NoSuchElementException" then (if X.cc + 1 ≤ gCL ∧ X.ss + 6 ≤ gSL then gB X.ex (fun X2 => some (gR.i 1, X2)) else none) else none)) (fun x1 X1 => gB (X1.w 116 0 x1) (fun X3 => some (gR.i 0, X3)))
set_option maxHeartbeats 4000000 in
set_option maxRecDepth 100000 in
theorem K_Lw_value (l : Launch) (htr : l.stackTraces = false) (D : va_G) (tys : List (ClassId × FieldType)) (z sz : Nat) (ws : va_W) (h : gm_M) (hM : gm_S h ws) (t : Nat → ClassId) (ht : gTy t tys) (b : Nat → Nat) (X0 : gX) (hw : gw D t b X0 h) (a1 : Int32) (a2 : Int32) (hc0 : X0.cc ≤ gCL) (hs0 : X0.ss ≤ gSL) (o : gR × gX) (hf : f_Lw_value X0 a1 a2 = some o) : gx_Met l y_Lw_value [Cond.codeWith y_Lw_value b_Lw_value 5 (some .int) [(0, 10, 13, 41)]] { frames := 8, cells := gCL + 1 - X0.cc, slots := gSL + 6 - X0.ss, locals := 128 } (gx_P z sz D classes tys ws [Value.ref (b 0), Value.int a1, Value.int a2, Value.ref (b 116)]) (gx_Q D classes tys (va_A ws sz) (gPoA D t b X0 o)) (o.2.cc + gT o.1 - X0.cc) (o.2.ss + 6 * gT o.1 - X0.ss) (va_A ws sz) := by
  refine gx_ofWH (cc := b_Lw_value) (maxL := 5) (ret := (some .int)) (by decide) ?_
  intro p e s m args below meth c s₁ B hml htab hv
  obtain ⟨rfl, hsz, hz, hP, hK, hD0, hY⟩ := hv
  have hx := B.exec
  have hb := B.bytes
  have hr := B.returns
  have hts := hY.hts (#[Value.ref (b 0), Value.int a1, Value.int a2, Value.ref (b 116)] : Array Value)
  have hown : s.vm.findClass "CommitLedgerLaw" = some m.cls := findClass_of_methodNamed B.named
  have hlocks := B.notSynchronized
  subst hsz
  have hAz := gx_az hD0 hz
  have hD := hD0.self (sz := s.heap.size)
  have hA : ∀ q : Nat, s.heap.size ≤ q → va_A ws s.heap.size q := fun q h => Or.inr h
  generalize va_A ws s.heap.size = A at hD hA hAz ⊢
  have Y : gy D t b A s.heap X0 X0 s.heap [] := ⟨h, ⟨ws, hM, hP, hD, va_S.rf⟩, hw, gEq.rf⟩
  clear hP hD hM hD0 hw
  have hC : gC X0 b X0 b 0 0 := gC.rf hc0 hs0
  obtain ⟨ht0, ht1, ht2, ht3, ht4, ht5, ht6, ht7, ht8⟩ := id ht
  have hl := lv_entry ([Value.ref (b 0), Value.int a1, Value.int a2, Value.ref (b 116)]) (n := 5) (Nat.le_of_ble_eq_true rfl)
  rw [lg_entry_eq]
  generalize (lg_sl ([Value.ref (b 0), Value.int a1, Value.int a2, Value.ref (b 116)]) ++ List.replicate (5 - (lg_sl ([Value.ref (b 0), Value.int a1, Value.int a2, Value.ref (b 116)])).length) Slot.unset).toArray = ls at hl ⊢
  have hl : lv_has ls 5 [(0, Value.ref (b 0)), (1, Value.int a1), (2, Value.int a2), (3, Value.ref (b 116))] := hl
  unfold f_Lw_value at hf
  refine lv_aload_n hx hb d_Lw_value_0 rfl (lv_at hl 3 rfl) ?_
  refine lv_iconst (v := 0) hx hb d_Lw_value_1 (by decide) ?_
  refine lv_aload_n hx hb d_Lw_value_2 rfl (lv_at hl 0 rfl) ?_
  refine lv_iload_n hx hb d_Lw_value_3 rfl (lv_at hl 1 rfl) ?_
  refine lv_iload_n hx hb d_Lw_value_4 rfl (lv_at hl 2 rfl) ?_
  rcases gCit_el hf with ⟨x4, X4, hF4, hf⟩ | ⟨E4, X4, hF4, hf⟩
  rotate_left
  · by_cases hE4_13 : E4 = "java/util/NoSuchElementException"
    · replace hf := gp_t hE4_13 hf
      subst hE4_13
      refine gy_callT (rm := { frames := 7, cells := 1, slots := 6, locals := 104 }) (ig := .invokevirtual 72) (av := [Value.ref (b 0), Value.int a1, Value.int a2]) Y (fun ws h hS hw => K_Le_value l htr D tys z _ ws h hS t ht b X0 hw a1 a2 (gR.t "java/util/NoSuchElementException", X4) hF4) (gx_invV (As := [Value.int a1, Value.int a2]) (rest := [Value.int 0, Value.ref (b 116)]) hx hb hown hts km_Lw_72 kI_Le_value kV_Le_value kc_Le_value (by decide) (show (parseMethodDescriptor y_Le_value.desc).map (fun d => d.parameters.length) = some 2 by decide +kernel) (gy_recv (ci := 0) hK Y rfl gF_0) rfl rfl d_Lw_value_5) (gx_cw (z := 0) hts kc_Le_value kN_Le rfl rfl ⟨Nat.le_of_ble_eq_true rfl, Nat.le_of_ble_eq_true rfl⟩) hb hml hz hK hY hAz hA hl.1 (lv_room (Nat.le_of_ble_eq_true rfl)) d_Lw_value_5 ⟨hC.rc (Nat.le_refl _), hC.rs (Nat.le_refl _)⟩ (fun xz9 ce H locs hce Y => ?_)
      refine gx_catch (E := "java/util/NoSuchElementException") (hp := 13) hown htab (Or.inr ⟨⟨by show 0 ≤ 5; decide, by show 5 < 10; decide⟩, by decide, "java/util/NoSuchElementException", hts _ kk_Lw_41, Or.inl ⟨rfl, hts _ kB_NoSuchElementException⟩⟩) hce ?_
      refine gA_exc hf hC Y (fun X5 cells slots hf hC Y => ?_)
      have hl : lv_has ls 5 [] := lv_sub hl [] rfl
      refine lv_astore (lv' := [(4, Value.ref xz9)]) hx hb d_Lw_value_13 hl (by decide) rfl (fun ls hl => ?_)
      refine lv_iconst (v := 1) hx hb d_Lw_value_15 (by decide) ?_
      exact gA_iret hf hx hb hr hlocks hK hC Y d_Lw_value_16
    replace hf := gp_f hE4_13 hf
    cases hf
  refine gy_callI (rm := { frames := 7, cells := 0, slots := 0, locals := 104 }) (ig := .invokevirtual 72) (av := [Value.ref (b 0), Value.int a1, Value.int a2]) Y (fun ws h hS hw => K_Le_value l htr D tys z _ ws h hS t ht b X0 hw a1 a2 (gR.i x4, X4) hF4) (gx_invV (As := [Value.int a1, Value.int a2]) (rest := [Value.int 0, Value.ref (b 116)]) hx hb hown hts km_Lw_72 kI_Le_value kV_Le_value kc_Le_value (by decide) (show (parseMethodDescriptor y_Le_value.desc).map (fun d => d.parameters.length) = some 2 by decide +kernel) (gy_recv (ci := 0) hK Y rfl gF_0) rfl rfl d_Lw_value_5) (gx_cw (z := 0) hts kc_Le_value kN_Le rfl rfl ⟨Nat.le_of_ble_eq_true rfl, Nat.le_of_ble_eq_true rfl⟩) hb hml hz hK hY hAz hA hl.1 (lv_room (Nat.le_of_ble_eq_true rfl)) d_Lw_value_5 ⟨hC.rc0 (Nat.le_refl _), hC.rs0 (Nat.le_refl _)⟩ (fun H locs Y => ?_)
  refine lv_i2l (v := x4.toInt64) hx hb d_Lw_value_8 rfl ?_
  refine gy_last hf hx hb hK Y gF_116 ht6 d_Lw_value_9 (fun X6 H locs hf Y => ?_)
  refine lv_goto (tgt := 17) hx hb d_Lw_value_10 (by decide) ?_
  refine lv_iconst (v := 0) hx hb d_Lw_value_17 (by decide) ?_
  exact gA_iret hf hx hb hr hlocks hK hC Y d_Lw_value_18

def f_Lw_many (X0 : gX) (a1 : Int32) (a2 : Int32) : Option (gR × gX) := gCit (f_Le_many X0 a1 a2) (fun E X => (if E = "java/util/NoSuchElementException" then (if X.cc + 1 ≤ gCL ∧ X.ss + 6 ≤ gSL then gB X.ex (fun X2 => some (gR.i 1, X2)) else none) else none)) (fun x1 X1 => gB (X1.w 116 0 x1) (fun X3 => some (gR.i 0, X3)))
set_option maxHeartbeats 4000000 in
set_option maxRecDepth 100000 in
theorem K_Lw_many (l : Launch) (htr : l.stackTraces = false) (D : va_G) (tys : List (ClassId × FieldType)) (z sz : Nat) (ws : va_W) (h : gm_M) (hM : gm_S h ws) (t : Nat → ClassId) (ht : gTy t tys) (b : Nat → Nat) (X0 : gX) (hw : gw D t b X0 h) (a1 : Int32) (a2 : Int32) (hc0 : X0.cc ≤ gCL) (hs0 : X0.ss ≤ gSL) (o : gR × gX) (hf : f_Lw_many X0 a1 a2 = some o) : gx_Met l y_Lw_many [Cond.codeWith y_Lw_many b_Lw_many 5 (some .int) [(0, 10, 13, 41)]] { frames := 8, cells := gCL + 1 - X0.cc, slots := gSL + 6 - X0.ss, locals := 129 } (gx_P z sz D classes tys ws [Value.ref (b 0), Value.int a1, Value.int a2, Value.ref (b 116)]) (gx_Q D classes tys (va_A ws sz) (gPoA D t b X0 o)) (o.2.cc + gT o.1 - X0.cc) (o.2.ss + 6 * gT o.1 - X0.ss) (va_A ws sz) := by
  refine gx_ofWH (cc := b_Lw_many) (maxL := 5) (ret := (some .int)) (by decide) ?_
  intro p e s m args below meth c s₁ B hml htab hv
  obtain ⟨rfl, hsz, hz, hP, hK, hD0, hY⟩ := hv
  have hx := B.exec
  have hb := B.bytes
  have hr := B.returns
  have hts := hY.hts (#[Value.ref (b 0), Value.int a1, Value.int a2, Value.ref (b 116)] : Array Value)
  have hown : s.vm.findClass "CommitLedgerLaw" = some m.cls := findClass_of_methodNamed B.named
  have hlocks := B.notSynchronized
  subst hsz
  have hAz := gx_az hD0 hz
  have hD := hD0.self (sz := s.heap.size)
  have hA : ∀ q : Nat, s.heap.size ≤ q → va_A ws s.heap.size q := fun q h => Or.inr h
  generalize va_A ws s.heap.size = A at hD hA hAz ⊢
  have Y : gy D t b A s.heap X0 X0 s.heap [] := ⟨h, ⟨ws, hM, hP, hD, va_S.rf⟩, hw, gEq.rf⟩
  clear hP hD hM hD0 hw
  have hC : gC X0 b X0 b 0 0 := gC.rf hc0 hs0
  obtain ⟨ht0, ht1, ht2, ht3, ht4, ht5, ht6, ht7, ht8⟩ := id ht
  have hl := lv_entry ([Value.ref (b 0), Value.int a1, Value.int a2, Value.ref (b 116)]) (n := 5) (Nat.le_of_ble_eq_true rfl)
  rw [lg_entry_eq]
  generalize (lg_sl ([Value.ref (b 0), Value.int a1, Value.int a2, Value.ref (b 116)]) ++ List.replicate (5 - (lg_sl ([Value.ref (b 0), Value.int a1, Value.int a2, Value.ref (b 116)])).length) Slot.unset).toArray = ls at hl ⊢
  have hl : lv_has ls 5 [(0, Value.ref (b 0)), (1, Value.int a1), (2, Value.int a2), (3, Value.ref (b 116))] := hl
  unfold f_Lw_many at hf
  refine lv_aload_n hx hb d_Lw_many_0 rfl (lv_at hl 3 rfl) ?_
  refine lv_iconst (v := 0) hx hb d_Lw_many_1 (by decide) ?_
  refine lv_aload_n hx hb d_Lw_many_2 rfl (lv_at hl 0 rfl) ?_
  refine lv_iload_n hx hb d_Lw_many_3 rfl (lv_at hl 1 rfl) ?_
  refine lv_iload_n hx hb d_Lw_many_4 rfl (lv_at hl 2 rfl) ?_
  rcases gCit_el hf with ⟨x4, X4, hF4, hf⟩ | ⟨E4, X4, hF4, hf⟩
  rotate_left
  · by_cases hE4_13 : E4 = "java/util/NoSuchElementException"
    · replace hf := gp_t hE4_13 hf
      subst hE4_13
      refine gy_callT (rm := { frames := 7, cells := 1, slots := 6, locals := 104 }) (ig := .invokevirtual 76) (av := [Value.ref (b 0), Value.int a1, Value.int a2]) Y (fun ws h hS hw => K_Le_many l htr D tys z _ ws h hS t ht b X0 hw a1 a2 (gR.t "java/util/NoSuchElementException", X4) hF4) (gx_invV (As := [Value.int a1, Value.int a2]) (rest := [Value.int 0, Value.ref (b 116)]) hx hb hown hts km_Lw_76 kI_Le_many kV_Le_many kc_Le_many (by decide) (show (parseMethodDescriptor y_Le_many.desc).map (fun d => d.parameters.length) = some 2 by decide +kernel) (gy_recv (ci := 0) hK Y rfl gF_0) rfl rfl d_Lw_many_5) (gx_cw (z := 0) hts kc_Le_many kN_Le rfl rfl ⟨Nat.le_of_ble_eq_true rfl, Nat.le_of_ble_eq_true rfl⟩) hb hml hz hK hY hAz hA hl.1 (lv_room (Nat.le_of_ble_eq_true rfl)) d_Lw_many_5 ⟨hC.rc (Nat.le_refl _), hC.rs (Nat.le_refl _)⟩ (fun xz9 ce H locs hce Y => ?_)
      refine gx_catch (E := "java/util/NoSuchElementException") (hp := 13) hown htab (Or.inr ⟨⟨by show 0 ≤ 5; decide, by show 5 < 10; decide⟩, by decide, "java/util/NoSuchElementException", hts _ kk_Lw_41, Or.inl ⟨rfl, hts _ kB_NoSuchElementException⟩⟩) hce ?_
      refine gA_exc hf hC Y (fun X5 cells slots hf hC Y => ?_)
      have hl : lv_has ls 5 [] := lv_sub hl [] rfl
      refine lv_astore (lv' := [(4, Value.ref xz9)]) hx hb d_Lw_many_13 hl (by decide) rfl (fun ls hl => ?_)
      refine lv_iconst (v := 1) hx hb d_Lw_many_15 (by decide) ?_
      exact gA_iret hf hx hb hr hlocks hK hC Y d_Lw_many_16
    replace hf := gp_f hE4_13 hf
    cases hf
  refine gy_callI (rm := { frames := 7, cells := 0, slots := 0, locals := 104 }) (ig := .invokevirtual 76) (av := [Value.ref (b 0), Value.int a1, Value.int a2]) Y (fun ws h hS hw => K_Le_many l htr D tys z _ ws h hS t ht b X0 hw a1 a2 (gR.i x4, X4) hF4) (gx_invV (As := [Value.int a1, Value.int a2]) (rest := [Value.int 0, Value.ref (b 116)]) hx hb hown hts km_Lw_76 kI_Le_many kV_Le_many kc_Le_many (by decide) (show (parseMethodDescriptor y_Le_many.desc).map (fun d => d.parameters.length) = some 2 by decide +kernel) (gy_recv (ci := 0) hK Y rfl gF_0) rfl rfl d_Lw_many_5) (gx_cw (z := 0) hts kc_Le_many kN_Le rfl rfl ⟨Nat.le_of_ble_eq_true rfl, Nat.le_of_ble_eq_true rfl⟩) hb hml hz hK hY hAz hA hl.1 (lv_room (Nat.le_of_ble_eq_true rfl)) d_Lw_many_5 ⟨hC.rc0 (Nat.le_refl _), hC.rs0 (Nat.le_refl _)⟩ (fun H locs Y => ?_)
  refine lv_i2l (v := x4.toInt64) hx hb d_Lw_many_8 rfl ?_
  refine gy_last hf hx hb hK Y gF_116 ht6 d_Lw_many_9 (fun X6 H locs hf Y => ?_)
  refine lv_goto (tgt := 17) hx hb d_Lw_many_10 (by decide) ?_
  refine lv_iconst (v := 0) hx hb d_Lw_many_17 (by decide) ?_
  exact gA_iret hf hx hb hr hlocks hK hC Y d_Lw_many_18

def f_Lw_serial (X0 : gX) (a1 : Int32) (a2 : Int32) : Option (gR × gX) := gCit (f_Le_serial X0 a1 a2) (fun E X => (if E = "java/util/NoSuchElementException" then (if X.cc + 1 ≤ gCL ∧ X.ss + 6 ≤ gSL then gB X.ex (fun X2 => some (gR.i 1, X2)) else none) else none)) (fun x1 X1 => gB (X1.w 116 0 x1) (fun X3 => some (gR.i 0, X3)))
set_option maxHeartbeats 4000000 in
set_option maxRecDepth 100000 in
theorem K_Lw_serial (l : Launch) (htr : l.stackTraces = false) (D : va_G) (tys : List (ClassId × FieldType)) (z sz : Nat) (ws : va_W) (h : gm_M) (hM : gm_S h ws) (t : Nat → ClassId) (ht : gTy t tys) (b : Nat → Nat) (X0 : gX) (hw : gw D t b X0 h) (a1 : Int32) (a2 : Int32) (hc0 : X0.cc ≤ gCL) (hs0 : X0.ss ≤ gSL) (o : gR × gX) (hf : f_Lw_serial X0 a1 a2 = some o) : gx_Met l y_Lw_serial [Cond.codeWith y_Lw_serial b_Lw_serial 5 (some .int) [(0, 10, 13, 41)]] { frames := 8, cells := gCL + 1 - X0.cc, slots := gSL + 6 - X0.ss, locals := 129 } (gx_P z sz D classes tys ws [Value.ref (b 0), Value.int a1, Value.int a2, Value.ref (b 116)]) (gx_Q D classes tys (va_A ws sz) (gPoA D t b X0 o)) (o.2.cc + gT o.1 - X0.cc) (o.2.ss + 6 * gT o.1 - X0.ss) (va_A ws sz) := by
  refine gx_ofWH (cc := b_Lw_serial) (maxL := 5) (ret := (some .int)) (by decide) ?_
  intro p e s m args below meth c s₁ B hml htab hv
  obtain ⟨rfl, hsz, hz, hP, hK, hD0, hY⟩ := hv
  have hx := B.exec
  have hb := B.bytes
  have hr := B.returns
  have hts := hY.hts (#[Value.ref (b 0), Value.int a1, Value.int a2, Value.ref (b 116)] : Array Value)
  have hown : s.vm.findClass "CommitLedgerLaw" = some m.cls := findClass_of_methodNamed B.named
  have hlocks := B.notSynchronized
  subst hsz
  have hAz := gx_az hD0 hz
  have hD := hD0.self (sz := s.heap.size)
  have hA : ∀ q : Nat, s.heap.size ≤ q → va_A ws s.heap.size q := fun q h => Or.inr h
  generalize va_A ws s.heap.size = A at hD hA hAz ⊢
  have Y : gy D t b A s.heap X0 X0 s.heap [] := ⟨h, ⟨ws, hM, hP, hD, va_S.rf⟩, hw, gEq.rf⟩
  clear hP hD hM hD0 hw
  have hC : gC X0 b X0 b 0 0 := gC.rf hc0 hs0
  obtain ⟨ht0, ht1, ht2, ht3, ht4, ht5, ht6, ht7, ht8⟩ := id ht
  have hl := lv_entry ([Value.ref (b 0), Value.int a1, Value.int a2, Value.ref (b 116)]) (n := 5) (Nat.le_of_ble_eq_true rfl)
  rw [lg_entry_eq]
  generalize (lg_sl ([Value.ref (b 0), Value.int a1, Value.int a2, Value.ref (b 116)]) ++ List.replicate (5 - (lg_sl ([Value.ref (b 0), Value.int a1, Value.int a2, Value.ref (b 116)])).length) Slot.unset).toArray = ls at hl ⊢
  have hl : lv_has ls 5 [(0, Value.ref (b 0)), (1, Value.int a1), (2, Value.int a2), (3, Value.ref (b 116))] := hl
  unfold f_Lw_serial at hf
  refine lv_aload_n hx hb d_Lw_serial_0 rfl (lv_at hl 3 rfl) ?_
  refine lv_iconst (v := 0) hx hb d_Lw_serial_1 (by decide) ?_
  refine lv_aload_n hx hb d_Lw_serial_2 rfl (lv_at hl 0 rfl) ?_
  refine lv_iload_n hx hb d_Lw_serial_3 rfl (lv_at hl 1 rfl) ?_
  refine lv_iload_n hx hb d_Lw_serial_4 rfl (lv_at hl 2 rfl) ?_
  rcases gCit_el hf with ⟨x4, X4, hF4, hf⟩ | ⟨E4, X4, hF4, hf⟩
  rotate_left
  · by_cases hE4_13 : E4 = "java/util/NoSuchElementException"
    · replace hf := gp_t hE4_13 hf
      subst hE4_13
      refine gy_callT (rm := { frames := 7, cells := 1, slots := 6, locals := 104 }) (ig := .invokevirtual 79) (av := [Value.ref (b 0), Value.int a1, Value.int a2]) Y (fun ws h hS hw => K_Le_serial l htr D tys z _ ws h hS t ht b X0 hw a1 a2 (gR.t "java/util/NoSuchElementException", X4) hF4) (gx_invV (As := [Value.int a1, Value.int a2]) (rest := [Value.int 0, Value.ref (b 116)]) hx hb hown hts km_Lw_79 kI_Le_serial kV_Le_serial kc_Le_serial (by decide) (show (parseMethodDescriptor y_Le_serial.desc).map (fun d => d.parameters.length) = some 2 by decide +kernel) (gy_recv (ci := 0) hK Y rfl gF_0) rfl rfl d_Lw_serial_5) (gx_cw (z := 0) hts kc_Le_serial kN_Le rfl rfl ⟨Nat.le_of_ble_eq_true rfl, Nat.le_of_ble_eq_true rfl⟩) hb hml hz hK hY hAz hA hl.1 (lv_room (Nat.le_of_ble_eq_true rfl)) d_Lw_serial_5 ⟨hC.rc (Nat.le_refl _), hC.rs (Nat.le_refl _)⟩ (fun xz9 ce H locs hce Y => ?_)
      refine gx_catch (E := "java/util/NoSuchElementException") (hp := 13) hown htab (Or.inr ⟨⟨by show 0 ≤ 5; decide, by show 5 < 10; decide⟩, by decide, "java/util/NoSuchElementException", hts _ kk_Lw_41, Or.inl ⟨rfl, hts _ kB_NoSuchElementException⟩⟩) hce ?_
      refine gA_exc hf hC Y (fun X5 cells slots hf hC Y => ?_)
      have hl : lv_has ls 5 [] := lv_sub hl [] rfl
      refine lv_astore (lv' := [(4, Value.ref xz9)]) hx hb d_Lw_serial_13 hl (by decide) rfl (fun ls hl => ?_)
      refine lv_iconst (v := 1) hx hb d_Lw_serial_15 (by decide) ?_
      exact gA_iret hf hx hb hr hlocks hK hC Y d_Lw_serial_16
    replace hf := gp_f hE4_13 hf
    cases hf
  refine gy_callI (rm := { frames := 7, cells := 0, slots := 0, locals := 104 }) (ig := .invokevirtual 79) (av := [Value.ref (b 0), Value.int a1, Value.int a2]) Y (fun ws h hS hw => K_Le_serial l htr D tys z _ ws h hS t ht b X0 hw a1 a2 (gR.i x4, X4) hF4) (gx_invV (As := [Value.int a1, Value.int a2]) (rest := [Value.int 0, Value.ref (b 116)]) hx hb hown hts km_Lw_79 kI_Le_serial kV_Le_serial kc_Le_serial (by decide) (show (parseMethodDescriptor y_Le_serial.desc).map (fun d => d.parameters.length) = some 2 by decide +kernel) (gy_recv (ci := 0) hK Y rfl gF_0) rfl rfl d_Lw_serial_5) (gx_cw (z := 0) hts kc_Le_serial kN_Le rfl rfl ⟨Nat.le_of_ble_eq_true rfl, Nat.le_of_ble_eq_true rfl⟩) hb hml hz hK hY hAz hA hl.1 (lv_room (Nat.le_of_ble_eq_true rfl)) d_Lw_serial_5 ⟨hC.rc0 (Nat.le_refl _), hC.rs0 (Nat.le_refl _)⟩ (fun H locs Y => ?_)
  refine lv_i2l (v := x4.toInt64) hx hb d_Lw_serial_8 rfl ?_
  refine gy_last hf hx hb hK Y gF_116 ht6 d_Lw_serial_9 (fun X6 H locs hf Y => ?_)
  refine lv_goto (tgt := 17) hx hb d_Lw_serial_10 (by decide) ?_
  refine lv_iconst (v := 0) hx hb d_Lw_serial_17 (by decide) ?_
  exact gA_iret hf hx hb hr hlocks hK hC Y d_Lw_serial_18

def f_Lw_seen (X0 : gX) (a1 : Int32) (a2 : Int32) : Option (gR × gX) := gCit (f_Le_seen X0 a1 a2) (fun E X => (if E = "java/lang/IllegalArgumentException" then (if X.cc + 1 ≤ gCL ∧ X.ss + 6 ≤ gSL then gB X.ex (fun X2 => some (gR.i 1, X2)) else none) else (if E = "java/util/NoSuchElementException" then (if X.cc + 1 ≤ gCL ∧ X.ss + 6 ≤ gSL then gB X.ex (fun X3 => some (gR.i 2, X3)) else none) else none))) (fun x1 X1 => gB (X1.w 116 0 x1) (fun X4 => some (gR.i 0, X4)))
set_option maxHeartbeats 4000000 in
set_option maxRecDepth 100000 in
theorem K_Lw_seen (l : Launch) (htr : l.stackTraces = false) (D : va_G) (tys : List (ClassId × FieldType)) (z sz : Nat) (ws : va_W) (h : gm_M) (hM : gm_S h ws) (t : Nat → ClassId) (ht : gTy t tys) (b : Nat → Nat) (X0 : gX) (hw : gw D t b X0 h) (a1 : Int32) (a2 : Int32) (hc0 : X0.cc ≤ gCL) (hs0 : X0.ss ≤ gSL) (o : gR × gX) (hf : f_Lw_seen X0 a1 a2 = some o) : gx_Met l y_Lw_seen [Cond.codeWith y_Lw_seen b_Lw_seen 5 (some .int) [(0, 10, 13, 13), (0, 10, 17, 41)]] { frames := 8, cells := gCL + 1 - X0.cc, slots := gSL + 6 - X0.ss, locals := 127 } (gx_P z sz D classes tys ws [Value.ref (b 0), Value.int a1, Value.int a2, Value.ref (b 116)]) (gx_Q D classes tys (va_A ws sz) (gPoA D t b X0 o)) (o.2.cc + gT o.1 - X0.cc) (o.2.ss + 6 * gT o.1 - X0.ss) (va_A ws sz) := by
  refine gx_ofWH (cc := b_Lw_seen) (maxL := 5) (ret := (some .int)) (by decide) ?_
  intro p e s m args below meth c s₁ B hml htab hv
  obtain ⟨rfl, hsz, hz, hP, hK, hD0, hY⟩ := hv
  have hx := B.exec
  have hb := B.bytes
  have hr := B.returns
  have hts := hY.hts (#[Value.ref (b 0), Value.int a1, Value.int a2, Value.ref (b 116)] : Array Value)
  have hown : s.vm.findClass "CommitLedgerLaw" = some m.cls := findClass_of_methodNamed B.named
  have hlocks := B.notSynchronized
  subst hsz
  have hAz := gx_az hD0 hz
  have hD := hD0.self (sz := s.heap.size)
  have hA : ∀ q : Nat, s.heap.size ≤ q → va_A ws s.heap.size q := fun q h => Or.inr h
  generalize va_A ws s.heap.size = A at hD hA hAz ⊢
  have Y : gy D t b A s.heap X0 X0 s.heap [] := ⟨h, ⟨ws, hM, hP, hD, va_S.rf⟩, hw, gEq.rf⟩
  clear hP hD hM hD0 hw
  have hC : gC X0 b X0 b 0 0 := gC.rf hc0 hs0
  obtain ⟨ht0, ht1, ht2, ht3, ht4, ht5, ht6, ht7, ht8⟩ := id ht
  have hl := lv_entry ([Value.ref (b 0), Value.int a1, Value.int a2, Value.ref (b 116)]) (n := 5) (Nat.le_of_ble_eq_true rfl)
  rw [lg_entry_eq]
  generalize (lg_sl ([Value.ref (b 0), Value.int a1, Value.int a2, Value.ref (b 116)]) ++ List.replicate (5 - (lg_sl ([Value.ref (b 0), Value.int a1, Value.int a2, Value.ref (b 116)])).length) Slot.unset).toArray = ls at hl ⊢
  have hl : lv_has ls 5 [(0, Value.ref (b 0)), (1, Value.int a1), (2, Value.int a2), (3, Value.ref (b 116))] := hl
  unfold f_Lw_seen at hf
  refine lv_aload_n hx hb d_Lw_seen_0 rfl (lv_at hl 3 rfl) ?_
  refine lv_iconst (v := 0) hx hb d_Lw_seen_1 (by decide) ?_
  refine lv_aload_n hx hb d_Lw_seen_2 rfl (lv_at hl 0 rfl) ?_
  refine lv_iload_n hx hb d_Lw_seen_3 rfl (lv_at hl 1 rfl) ?_
  refine lv_iload_n hx hb d_Lw_seen_4 rfl (lv_at hl 2 rfl) ?_
  rcases gCit_el hf with ⟨x5, X5, hF5, hf⟩ | ⟨E5, X5, hF5, hf⟩
  rotate_left
  · by_cases hE5_13 : E5 = "java/lang/IllegalArgumentException"
    · replace hf := gp_t hE5_13 hf
      subst hE5_13
      refine gy_callT (rm := { frames := 7, cells := 1, slots := 6, locals := 104 }) (ig := .invokevirtual 82) (av := [Value.ref (b 0), Value.int a1, Value.int a2]) Y (fun ws h hS hw => K_Le_seen l htr D tys z _ ws h hS t ht b X0 hw a1 a2 (gR.t "java/lang/IllegalArgumentException", X5) hF5) (gx_invV (As := [Value.int a1, Value.int a2]) (rest := [Value.int 0, Value.ref (b 116)]) hx hb hown hts km_Lw_82 kI_Le_seen kV_Le_seen kc_Le_seen (by decide) (show (parseMethodDescriptor y_Le_seen.desc).map (fun d => d.parameters.length) = some 2 by decide +kernel) (gy_recv (ci := 0) hK Y rfl gF_0) rfl rfl d_Lw_seen_5) (gx_cw (z := 0) hts kc_Le_seen kN_Le rfl rfl ⟨Nat.le_of_ble_eq_true rfl, Nat.le_of_ble_eq_true rfl⟩) hb hml hz hK hY hAz hA hl.1 (lv_room (Nat.le_of_ble_eq_true rfl)) d_Lw_seen_5 ⟨hC.rc (Nat.le_refl _), hC.rs (Nat.le_refl _)⟩ (fun xz9 ce H locs hce Y => ?_)
      refine gx_catch (E := "java/lang/IllegalArgumentException") (hp := 13) hown htab (Or.inr ⟨⟨by show 0 ≤ 5; decide, by show 5 < 10; decide⟩, by decide, "java/lang/IllegalArgumentException", hts _ kk_Lw_13, Or.inl ⟨rfl, hts _ kB_IllegalArgumentException⟩⟩) hce ?_
      refine gA_exc hf hC Y (fun X6 cells slots hf hC Y => ?_)
      have hl : lv_has ls 5 [] := lv_sub hl [] rfl
      refine lv_astore (lv' := [(4, Value.ref xz9)]) hx hb d_Lw_seen_13 hl (by decide) rfl (fun ls hl => ?_)
      refine lv_iconst (v := 1) hx hb d_Lw_seen_15 (by decide) ?_
      exact gA_iret hf hx hb hr hlocks hK hC Y d_Lw_seen_16
    replace hf := gp_f hE5_13 hf
    by_cases hE5_17 : E5 = "java/util/NoSuchElementException"
    · replace hf := gp_t hE5_17 hf
      subst hE5_17
      refine gy_callT (rm := { frames := 7, cells := 1, slots := 6, locals := 104 }) (ig := .invokevirtual 82) (av := [Value.ref (b 0), Value.int a1, Value.int a2]) Y (fun ws h hS hw => K_Le_seen l htr D tys z _ ws h hS t ht b X0 hw a1 a2 (gR.t "java/util/NoSuchElementException", X5) hF5) (gx_invV (As := [Value.int a1, Value.int a2]) (rest := [Value.int 0, Value.ref (b 116)]) hx hb hown hts km_Lw_82 kI_Le_seen kV_Le_seen kc_Le_seen (by decide) (show (parseMethodDescriptor y_Le_seen.desc).map (fun d => d.parameters.length) = some 2 by decide +kernel) (gy_recv (ci := 0) hK Y rfl gF_0) rfl rfl d_Lw_seen_5) (gx_cw (z := 0) hts kc_Le_seen kN_Le rfl rfl ⟨Nat.le_of_ble_eq_true rfl, Nat.le_of_ble_eq_true rfl⟩) hb hml hz hK hY hAz hA hl.1 (lv_room (Nat.le_of_ble_eq_true rfl)) d_Lw_seen_5 ⟨hC.rc (Nat.le_refl _), hC.rs (Nat.le_refl _)⟩ (fun xz9 ce H locs hce Y => ?_)
      refine gx_catch (E := "java/util/NoSuchElementException") (hp := 17) hown htab (Or.inr ⟨⟨by show 0 ≤ 5; decide, by show 5 < 10; decide⟩, by decide, "java/lang/IllegalArgumentException", hts _ kk_Lw_13, Or.inr ⟨hts _ kZ_NoSuchElementException_IllegalArgumentException, (Or.inr ⟨⟨by show 0 ≤ 5; decide, by show 5 < 10; decide⟩, by decide, "java/util/NoSuchElementException", hts _ kk_Lw_41, Or.inl ⟨rfl, hts _ kB_NoSuchElementException⟩⟩)⟩⟩) hce ?_
      refine gA_exc hf hC Y (fun X7 cells slots hf hC Y => ?_)
      have hl : lv_has ls 5 [] := lv_sub hl [] rfl
      refine lv_astore (lv' := [(4, Value.ref xz9)]) hx hb d_Lw_seen_17 hl (by decide) rfl (fun ls hl => ?_)
      refine lv_iconst (v := 2) hx hb d_Lw_seen_19 (by decide) ?_
      exact gA_iret hf hx hb hr hlocks hK hC Y d_Lw_seen_20
    replace hf := gp_f hE5_17 hf
    cases hf
  refine gy_callI (rm := { frames := 7, cells := 0, slots := 0, locals := 104 }) (ig := .invokevirtual 82) (av := [Value.ref (b 0), Value.int a1, Value.int a2]) Y (fun ws h hS hw => K_Le_seen l htr D tys z _ ws h hS t ht b X0 hw a1 a2 (gR.i x5, X5) hF5) (gx_invV (As := [Value.int a1, Value.int a2]) (rest := [Value.int 0, Value.ref (b 116)]) hx hb hown hts km_Lw_82 kI_Le_seen kV_Le_seen kc_Le_seen (by decide) (show (parseMethodDescriptor y_Le_seen.desc).map (fun d => d.parameters.length) = some 2 by decide +kernel) (gy_recv (ci := 0) hK Y rfl gF_0) rfl rfl d_Lw_seen_5) (gx_cw (z := 0) hts kc_Le_seen kN_Le rfl rfl ⟨Nat.le_of_ble_eq_true rfl, Nat.le_of_ble_eq_true rfl⟩) hb hml hz hK hY hAz hA hl.1 (lv_room (Nat.le_of_ble_eq_true rfl)) d_Lw_seen_5 ⟨hC.rc0 (Nat.le_refl _), hC.rs0 (Nat.le_refl _)⟩ (fun H locs Y => ?_)
  refine lv_i2l (v := x5.toInt64) hx hb d_Lw_seen_8 rfl ?_
  refine gy_last hf hx hb hK Y gF_116 ht6 d_Lw_seen_9 (fun X8 H locs hf Y => ?_)
  refine lv_goto (tgt := 21) hx hb d_Lw_seen_10 (by decide) ?_
  refine lv_iconst (v := 0) hx hb d_Lw_seen_21 (by decide) ?_
  exact gA_iret hf hx hb hr hlocks hK hC Y d_Lw_seen_22

def f_Lw_segment (X0 : gX) (a1 : Int32) (a2 : Int32) : Option (gR × gX) := gCit (f_Le_segment X0 a1 a2) (fun E X => (if E = "java/lang/IllegalArgumentException" then (if X.cc + 1 ≤ gCL ∧ X.ss + 6 ≤ gSL then gB X.ex (fun X2 => some (gR.i 1, X2)) else none) else (if E = "java/lang/IllegalStateException" then (if X.cc + 1 ≤ gCL ∧ X.ss + 6 ≤ gSL then gB X.ex (fun X3 => some (gR.i 2, X3)) else none) else (if E = "java/util/NoSuchElementException" then (if X.cc + 1 ≤ gCL ∧ X.ss + 6 ≤ gSL then gB X.ex (fun X4 => some (gR.i 3, X4)) else none) else none)))) (fun x1 X1 => gB (X1.w 116 0 x1) (fun X5 => some (gR.i 0, X5)))
set_option maxHeartbeats 4000000 in
set_option maxRecDepth 100000 in
theorem K_Lw_segment (l : Launch) (htr : l.stackTraces = false) (D : va_G) (tys : List (ClassId × FieldType)) (z sz : Nat) (ws : va_W) (h : gm_M) (hM : gm_S h ws) (t : Nat → ClassId) (ht : gTy t tys) (b : Nat → Nat) (X0 : gX) (hw : gw D t b X0 h) (a1 : Int32) (a2 : Int32) (hc0 : X0.cc ≤ gCL) (hs0 : X0.ss ≤ gSL) (o : gR × gX) (hf : f_Lw_segment X0 a1 a2 = some o) : gx_Met l y_Lw_segment [Cond.codeWith y_Lw_segment b_Lw_segment 5 (some .int) [(0, 10, 13, 13), (0, 10, 17, 15), (0, 10, 21, 41)]] { frames := 8, cells := gCL + 1 - X0.cc, slots := gSL + 6 - X0.ss, locals := 127 } (gx_P z sz D classes tys ws [Value.ref (b 0), Value.int a1, Value.int a2, Value.ref (b 116)]) (gx_Q D classes tys (va_A ws sz) (gPoA D t b X0 o)) (o.2.cc + gT o.1 - X0.cc) (o.2.ss + 6 * gT o.1 - X0.ss) (va_A ws sz) := by
  refine gx_ofWH (cc := b_Lw_segment) (maxL := 5) (ret := (some .int)) (by decide) ?_
  intro p e s m args below meth c s₁ B hml htab hv
  obtain ⟨rfl, hsz, hz, hP, hK, hD0, hY⟩ := hv
  have hx := B.exec
  have hb := B.bytes
  have hr := B.returns
  have hts := hY.hts (#[Value.ref (b 0), Value.int a1, Value.int a2, Value.ref (b 116)] : Array Value)
  have hown : s.vm.findClass "CommitLedgerLaw" = some m.cls := findClass_of_methodNamed B.named
  have hlocks := B.notSynchronized
  subst hsz
  have hAz := gx_az hD0 hz
  have hD := hD0.self (sz := s.heap.size)
  have hA : ∀ q : Nat, s.heap.size ≤ q → va_A ws s.heap.size q := fun q h => Or.inr h
  generalize va_A ws s.heap.size = A at hD hA hAz ⊢
  have Y : gy D t b A s.heap X0 X0 s.heap [] := ⟨h, ⟨ws, hM, hP, hD, va_S.rf⟩, hw, gEq.rf⟩
  clear hP hD hM hD0 hw
  have hC : gC X0 b X0 b 0 0 := gC.rf hc0 hs0
  obtain ⟨ht0, ht1, ht2, ht3, ht4, ht5, ht6, ht7, ht8⟩ := id ht
  have hl := lv_entry ([Value.ref (b 0), Value.int a1, Value.int a2, Value.ref (b 116)]) (n := 5) (Nat.le_of_ble_eq_true rfl)
  rw [lg_entry_eq]
  generalize (lg_sl ([Value.ref (b 0), Value.int a1, Value.int a2, Value.ref (b 116)]) ++ List.replicate (5 - (lg_sl ([Value.ref (b 0), Value.int a1, Value.int a2, Value.ref (b 116)])).length) Slot.unset).toArray = ls at hl ⊢
  have hl : lv_has ls 5 [(0, Value.ref (b 0)), (1, Value.int a1), (2, Value.int a2), (3, Value.ref (b 116))] := hl
  unfold f_Lw_segment at hf
  refine lv_aload_n hx hb d_Lw_segment_0 rfl (lv_at hl 3 rfl) ?_
  refine lv_iconst (v := 0) hx hb d_Lw_segment_1 (by decide) ?_
  refine lv_aload_n hx hb d_Lw_segment_2 rfl (lv_at hl 0 rfl) ?_
  refine lv_iload_n hx hb d_Lw_segment_3 rfl (lv_at hl 1 rfl) ?_
  refine lv_iload_n hx hb d_Lw_segment_4 rfl (lv_at hl 2 rfl) ?_
  rcases gCit_el hf with ⟨x6, X6, hF6, hf⟩ | ⟨E6, X6, hF6, hf⟩
  rotate_left
  · by_cases hE6_13 : E6 = "java/lang/IllegalArgumentException"
    · replace hf := gp_t hE6_13 hf
      subst hE6_13
      refine gy_callT (rm := { frames := 7, cells := 1, slots := 6, locals := 104 }) (ig := .invokevirtual 85) (av := [Value.ref (b 0), Value.int a1, Value.int a2]) Y (fun ws h hS hw => K_Le_segment l htr D tys z _ ws h hS t ht b X0 hw a1 a2 (gR.t "java/lang/IllegalArgumentException", X6) hF6) (gx_invV (As := [Value.int a1, Value.int a2]) (rest := [Value.int 0, Value.ref (b 116)]) hx hb hown hts km_Lw_85 kI_Le_segment kV_Le_segment kc_Le_segment (by decide) (show (parseMethodDescriptor y_Le_segment.desc).map (fun d => d.parameters.length) = some 2 by decide +kernel) (gy_recv (ci := 0) hK Y rfl gF_0) rfl rfl d_Lw_segment_5) (gx_cw (z := 0) hts kc_Le_segment kN_Le rfl rfl ⟨Nat.le_of_ble_eq_true rfl, Nat.le_of_ble_eq_true rfl⟩) hb hml hz hK hY hAz hA hl.1 (lv_room (Nat.le_of_ble_eq_true rfl)) d_Lw_segment_5 ⟨hC.rc (Nat.le_refl _), hC.rs (Nat.le_refl _)⟩ (fun xz9 ce H locs hce Y => ?_)
      refine gx_catch (E := "java/lang/IllegalArgumentException") (hp := 13) hown htab (Or.inr ⟨⟨by show 0 ≤ 5; decide, by show 5 < 10; decide⟩, by decide, "java/lang/IllegalArgumentException", hts _ kk_Lw_13, Or.inl ⟨rfl, hts _ kB_IllegalArgumentException⟩⟩) hce ?_
      refine gA_exc hf hC Y (fun X7 cells slots hf hC Y => ?_)
      have hl : lv_has ls 5 [] := lv_sub hl [] rfl
      refine lv_astore (lv' := [(4, Value.ref xz9)]) hx hb d_Lw_segment_13 hl (by decide) rfl (fun ls hl => ?_)
      refine lv_iconst (v := 1) hx hb d_Lw_segment_15 (by decide) ?_
      exact gA_iret hf hx hb hr hlocks hK hC Y d_Lw_segment_16
    replace hf := gp_f hE6_13 hf
    by_cases hE6_17 : E6 = "java/lang/IllegalStateException"
    · replace hf := gp_t hE6_17 hf
      subst hE6_17
      refine gy_callT (rm := { frames := 7, cells := 1, slots := 6, locals := 104 }) (ig := .invokevirtual 85) (av := [Value.ref (b 0), Value.int a1, Value.int a2]) Y (fun ws h hS hw => K_Le_segment l htr D tys z _ ws h hS t ht b X0 hw a1 a2 (gR.t "java/lang/IllegalStateException", X6) hF6) (gx_invV (As := [Value.int a1, Value.int a2]) (rest := [Value.int 0, Value.ref (b 116)]) hx hb hown hts km_Lw_85 kI_Le_segment kV_Le_segment kc_Le_segment (by decide) (show (parseMethodDescriptor y_Le_segment.desc).map (fun d => d.parameters.length) = some 2 by decide +kernel) (gy_recv (ci := 0) hK Y rfl gF_0) rfl rfl d_Lw_segment_5) (gx_cw (z := 0) hts kc_Le_segment kN_Le rfl rfl ⟨Nat.le_of_ble_eq_true rfl, Nat.le_of_ble_eq_true rfl⟩) hb hml hz hK hY hAz hA hl.1 (lv_room (Nat.le_of_ble_eq_true rfl)) d_Lw_segment_5 ⟨hC.rc (Nat.le_refl _), hC.rs (Nat.le_refl _)⟩ (fun xz9 ce H locs hce Y => ?_)
      refine gx_catch (E := "java/lang/IllegalStateException") (hp := 17) hown htab (Or.inr ⟨⟨by show 0 ≤ 5; decide, by show 5 < 10; decide⟩, by decide, "java/lang/IllegalArgumentException", hts _ kk_Lw_13, Or.inr ⟨hts _ kZ_IllegalStateException_IllegalArgumentException, (Or.inr ⟨⟨by show 0 ≤ 5; decide, by show 5 < 10; decide⟩, by decide, "java/lang/IllegalStateException", hts _ kk_Lw_15, Or.inl ⟨rfl, hts _ kB_IllegalStateException⟩⟩)⟩⟩) hce ?_
      refine gA_exc hf hC Y (fun X8 cells slots hf hC Y => ?_)
      have hl : lv_has ls 5 [] := lv_sub hl [] rfl
      refine lv_astore (lv' := [(4, Value.ref xz9)]) hx hb d_Lw_segment_17 hl (by decide) rfl (fun ls hl => ?_)
      refine lv_iconst (v := 2) hx hb d_Lw_segment_19 (by decide) ?_
      exact gA_iret hf hx hb hr hlocks hK hC Y d_Lw_segment_20
    replace hf := gp_f hE6_17 hf
    by_cases hE6_21 : E6 = "java/util/NoSuchElementException"
    · replace hf := gp_t hE6_21 hf
      subst hE6_21
      refine gy_callT (rm := { frames := 7, cells := 1, slots := 6, locals := 104 }) (ig := .invokevirtual 85) (av := [Value.ref (b 0), Value.int a1, Value.int a2]) Y (fun ws h hS hw => K_Le_segment l htr D tys z _ ws h hS t ht b X0 hw a1 a2 (gR.t "java/util/NoSuchElementException", X6) hF6) (gx_invV (As := [Value.int a1, Value.int a2]) (rest := [Value.int 0, Value.ref (b 116)]) hx hb hown hts km_Lw_85 kI_Le_segment kV_Le_segment kc_Le_segment (by decide) (show (parseMethodDescriptor y_Le_segment.desc).map (fun d => d.parameters.length) = some 2 by decide +kernel) (gy_recv (ci := 0) hK Y rfl gF_0) rfl rfl d_Lw_segment_5) (gx_cw (z := 0) hts kc_Le_segment kN_Le rfl rfl ⟨Nat.le_of_ble_eq_true rfl, Nat.le_of_ble_eq_true rfl⟩) hb hml hz hK hY hAz hA hl.1 (lv_room (Nat.le_of_ble_eq_true rfl)) d_Lw_segment_5 ⟨hC.rc (Nat.le_refl _), hC.rs (Nat.le_refl _)⟩ (fun xz9 ce H locs hce Y => ?_)
      refine gx_catch (E := "java/util/NoSuchElementException") (hp := 21) hown htab (Or.inr ⟨⟨by show 0 ≤ 5; decide, by show 5 < 10; decide⟩, by decide, "java/lang/IllegalArgumentException", hts _ kk_Lw_13, Or.inr ⟨hts _ kZ_NoSuchElementException_IllegalArgumentException, (Or.inr ⟨⟨by show 0 ≤ 5; decide, by show 5 < 10; decide⟩, by decide, "java/lang/IllegalStateException", hts _ kk_Lw_15, Or.inr ⟨hts _ kZ_NoSuchElementException_IllegalStateException, (Or.inr ⟨⟨by show 0 ≤ 5; decide, by show 5 < 10; decide⟩, by decide, "java/util/NoSuchElementException", hts _ kk_Lw_41, Or.inl ⟨rfl, hts _ kB_NoSuchElementException⟩⟩)⟩⟩)⟩⟩) hce ?_
      refine gA_exc hf hC Y (fun X9 cells slots hf hC Y => ?_)
      have hl : lv_has ls 5 [] := lv_sub hl [] rfl
      refine lv_astore (lv' := [(4, Value.ref xz9)]) hx hb d_Lw_segment_21 hl (by decide) rfl (fun ls hl => ?_)
      refine lv_iconst (v := 3) hx hb d_Lw_segment_23 (by decide) ?_
      exact gA_iret hf hx hb hr hlocks hK hC Y d_Lw_segment_24
    replace hf := gp_f hE6_21 hf
    cases hf
  refine gy_callI (rm := { frames := 7, cells := 0, slots := 0, locals := 104 }) (ig := .invokevirtual 85) (av := [Value.ref (b 0), Value.int a1, Value.int a2]) Y (fun ws h hS hw => K_Le_segment l htr D tys z _ ws h hS t ht b X0 hw a1 a2 (gR.i x6, X6) hF6) (gx_invV (As := [Value.int a1, Value.int a2]) (rest := [Value.int 0, Value.ref (b 116)]) hx hb hown hts km_Lw_85 kI_Le_segment kV_Le_segment kc_Le_segment (by decide) (show (parseMethodDescriptor y_Le_segment.desc).map (fun d => d.parameters.length) = some 2 by decide +kernel) (gy_recv (ci := 0) hK Y rfl gF_0) rfl rfl d_Lw_segment_5) (gx_cw (z := 0) hts kc_Le_segment kN_Le rfl rfl ⟨Nat.le_of_ble_eq_true rfl, Nat.le_of_ble_eq_true rfl⟩) hb hml hz hK hY hAz hA hl.1 (lv_room (Nat.le_of_ble_eq_true rfl)) d_Lw_segment_5 ⟨hC.rc0 (Nat.le_refl _), hC.rs0 (Nat.le_refl _)⟩ (fun H locs Y => ?_)
  refine lv_i2l (v := x6.toInt64) hx hb d_Lw_segment_8 rfl ?_
  refine gy_last hf hx hb hK Y gF_116 ht6 d_Lw_segment_9 (fun X10 H locs hf Y => ?_)
  refine lv_goto (tgt := 25) hx hb d_Lw_segment_10 (by decide) ?_
  refine lv_iconst (v := 0) hx hb d_Lw_segment_25 (by decide) ?_
  exact gA_iret hf hx hb hr hlocks hK hC Y d_Lw_segment_26
