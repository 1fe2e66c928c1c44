/-! THE THIRD LAYER, the ledger: files and lists: programs of numbers and the proof that the machine does what they say; printed by an own text program -/
def f_Al_grow0 (X0 : gX) (n : Nat) : Option (gR × gX) := gCa (f_Al_grow1 X0 n ((X0.I n 1) + 1)) (fun x1 X1 => (if x1 = some (n + 124) then some (gR.a (some (n + 124)), X1) else none))
set_option maxHeartbeats 4000000 in
set_option maxRecDepth 100000 in
theorem K_Al_grow0 (l : Launch) (htr : l.stackTraces = false) (D : va_G) (tys : List (ClassId × FieldType)) (z sz : Nat) (ws : va_W) (h : gm_M) (hM : gm_S h ws) (t : Nat → ClassId) (ht : gTy t tys) (b : Nat → Nat) (X0 : gX) (hw : gw D t b X0 h) (n : Nat) (hn : gLis n = true) (hc0 : X0.cc ≤ gCL) (hs0 : X0.ss ≤ gSL) (o : gR × gX) (hf : f_Al_grow0 X0 n = some o) : gx_Met l y_Al_grow0 [Cond.code y_Al_grow0 b_Al_grow0 1 (some (.array (.object "java/lang/Object")))] { frames := 5, cells := gCL + 1 - X0.cc, slots := gSL + 6 - X0.ss, locals := 133 } (gx_P z sz D classes tys ws [Value.ref (b n)]) (gx_Q D classes tys (va_A ws sz) (gPoA D t b X0 o)) (o.2.cc + gT o.1 - X0.cc) (o.2.ss + 6 * gT o.1 - X0.ss) (va_A ws sz) := by
  refine gx_ofW (cc := b_Al_grow0) (maxL := 1) (ret := (some (.array (.object "java/lang/Object")))) (by decide) rfl ?_
  intro p e s m args below meth c s₁ B hml hv
  obtain ⟨rfl, hsz, hz, hP, hK, hD0, hY⟩ := hv
  have hx := B.exec
  have hb := B.bytes
  have hr := B.returns
  have hts := hY.hts (#[Value.ref (b n)] : Array Value)
  have hown : s.vm.findClass "java/util/ArrayList" = some m.cls := findClass_of_methodNamed B.named
  have hlocks := B.notSynchronized
  subst hsz
  have hAz := gx_az hD0 hz
  have hD := hD0.self (sz := s.heap.size)
  have hA : ∀ q : Nat, s.heap.size ≤ q → va_A ws s.heap.size q := fun q h => Or.inr h
  generalize va_A ws s.heap.size = A at hD hA hAz ⊢
  have Y : gy D t b A s.heap X0 X0 s.heap [] := ⟨h, ⟨ws, hM, hP, hD, va_S.rf⟩, hw, gEq.rf⟩
  clear hP hD hM hD0 hw
  have hC : gC X0 b X0 b 0 0 := gC.rf hc0 hs0
  obtain ⟨ht0, ht1, ht2, ht3, ht4, ht5, ht6, ht7, ht8⟩ := id ht
  have hl := lv_entry ([Value.ref (b n)]) (n := 1) (Nat.le_of_ble_eq_true rfl)
  rw [lg_entry_eq]
  generalize (lg_sl ([Value.ref (b n)]) ++ List.replicate (1 - (lg_sl ([Value.ref (b n)])).length) Slot.unset).toArray = ls at hl ⊢
  have hl : lv_has ls 1 [(0, Value.ref (b n))] := hl
  unfold f_Al_grow0 at hf
  refine lv_aload_n hx hb d_Al_grow0_0 rfl (lv_at hl 0 rfl) ?_
  refine lv_aload_n hx hb d_Al_grow0_1 rfl (lv_at hl 0 rfl) ?_
  refine gy_get (ci := 3) (v := Value.int (X0.I n 1)) (C := "java/util/ArrayList") (T := F_Al) (N := 3) hx hb hts i_Al hown hK Y (gF_Li hn) rfl 1 (by decide) kf_Al_48 rfl d_Al_grow0_2 ?_
  refine lv_iconst (v := 1) hx hb d_Al_grow0_5 (by decide) ?_
  refine lv_iadd hx hb d_Al_grow0_6 ?_
  have hl : lv_has ls 1 [] := lv_sub hl [] rfl
  obtain ⟨x2, X2, hF2, hf⟩ := gCa_el hf
  refine gA_call (fr := 4) (lo := 110) (o1 := (gR.a x2, X2)) (ig := .invokevirtual 69) (av := [Value.ref (b n), Value.int ((X0.I n 1) + 1)]) hC Y ⟨Nat.le_refl _, Nat.le_refl _⟩ (fun hc9 hs9 ws h hS hw => K_Al_grow1 l htr D tys z _ ws h hS t ht b X0 hw n hn ((X0.I n 1) + 1) hc9 hs9 (gR.a x2, X2) hF2) (gx_invV (As := [Value.int ((X0.I n 1) + 1)]) (rest := []) hx hb hown hts km_Al_69 kI_Al_grow1 kV_Al_grow1 kc_Al_grow1 (by decide) (show (parseMethodDescriptor y_Al_grow1.desc).map (fun d => d.parameters.length) = some 1 by decide +kernel) (gy_recv (ci := 3) hK Y rfl (gF_Li hn)) rfl rfl d_Al_grow0_7) (gx_cwA hts kc_Al_grow1 kN_Al ⟨Nat.le_of_ble_eq_true rfl, Nat.le_of_ble_eq_true rfl⟩) hb hml hz hK hY hAz hA hl.1 (lv_room (Nat.le_of_ble_eq_true rfl)) d_Al_grow0_7 (fun vz9 b H locs cells slots e9 hb9 hC Y => ?_) (fun xz9 Ez9 ce b H locs cells slots e9 hce hC Y => ?_)
  rotate_left
  · have e9 : (Sum.inr Ez9 : Option Value ⊕ String) = Sum.inl (some (va_rf (Option.map b x2))) := e9
    cases e9
  have e9 : (Sum.inl vz9 : Option Value ⊕ String) = Sum.inl (some (va_rf (Option.map b x2))) := e9
  cases e9
  replace hl : lv_has ls 1 [] := by exact hl
  obtain ⟨hx2, hf⟩ := gp_g hf
  refine W.eq (g2 := F0 m 10 ls [Value.ref (b (n + 124))]) (by rw [hx2]; rfl) ?_
  exact gA_aretA (x := (some (n + 124))) hf hx hb hr hlocks hK hC Y d_Al_grow0_10

def f_Al_add1 (X0 : gX) (n : Nat) (m1 : Option Nat) (a3 : Int32) : Option (gR × gX) := (if a3 = (nI (X0.L (n + 124))) then (if gOk X0.N (some n) then (if gOk X0.N m1 then gCa (f_Al_grow0 X0 n) (fun x6 X6 => (if x6 = some (n + 124) then (if ¬ X6.L (n + 124) = 0 then (if gIn a3 (X6.L (n + 124)) then (if gOf X6.N m1 then gB (X6.g (n + 124) (gn a3) m1) (fun X10 => gB (X10.w n 1 (a3 + 1)) (fun X11 => some (gR.v, X11))) else none) else none) else none) else none)) else none) else none) else (if ¬ X0.L (n + 124) = 0 then (if ¬ X0.L (n + 124) = 0 then (if gIn a3 (X0.L (n + 124)) then (if gOf X0.N m1 then gB (X0.g (n + 124) (gn a3) m1) (fun X4 => gB (X4.w n 1 (a3 + 1)) (fun X5 => some (gR.v, X5))) else none) else none) else none) else none))
set_option maxHeartbeats 4000000 in
set_option maxRecDepth 100000 in
theorem K_Al_add1 (l : Launch) (htr : l.stackTraces = false) (D : va_G) (tys : List (ClassId × FieldType)) (z sz : Nat) (ws : va_W) (h : gm_M) (hM : gm_S h ws) (t : Nat → ClassId) (ht : gTy t tys) (b : Nat → Nat) (X0 : gX) (hw : gw D t b X0 h) (n : Nat) (hn : gLis n = true) (m1 : Option Nat) (a3 : Int32) (hc0 : X0.cc ≤ gCL) (hs0 : X0.ss ≤ gSL) (o : gR × gX) (hf : f_Al_add1 X0 n m1 a3 = some o) : gx_Met l y_Al_add1 [Cond.code y_Al_add1 b_Al_add1 4 none] { frames := 6, cells := gCL + 1 - X0.cc, slots := gSL + 6 - X0.ss, locals := 153 } (gx_P z sz D classes tys ws [Value.ref (b n), va_rf (Option.map b m1), Value.ref (if X0.L (n + 124) = 0 then gx_av D else b (n + 124)), Value.int a3]) (gx_Q D classes tys (va_A ws sz) (gPoA D t b X0 o)) (o.2.cc + gT o.1 - X0.cc) (o.2.ss + 6 * gT o.1 - X0.ss) (va_A ws sz) := by
  refine gx_ofW (cc := b_Al_add1) (maxL := 4) (ret := none) (by decide) rfl ?_
  intro p e s m args below meth c s₁ B hml hv
  obtain ⟨rfl, hsz, hz, hP, hK, hD0, hY⟩ := hv
  have hx := B.exec
  have hb := B.bytes
  have hr := B.returns
  have hts := hY.hts (#[Value.ref (b n), va_rf (Option.map b m1), Value.ref (if X0.L (n + 124) = 0 then gx_av D else b (n + 124)), Value.int a3] : Array Value)
  have hown : s.vm.findClass "java/util/ArrayList" = some m.cls := findClass_of_methodNamed B.named
  have hlocks := B.notSynchronized
  subst hsz
  have hAz := gx_az hD0 hz
  have hD := hD0.self (sz := s.heap.size)
  have hA : ∀ q : Nat, s.heap.size ≤ q → va_A ws s.heap.size q := fun q h => Or.inr h
  generalize va_A ws s.heap.size = A at hD hA hAz ⊢
  have Y : gy D t b A s.heap X0 X0 s.heap [] := ⟨h, ⟨ws, hM, hP, hD, va_S.rf⟩, hw, gEq.rf⟩
  clear hP hD hM hD0 hw
  have hC : gC X0 b X0 b 0 0 := gC.rf hc0 hs0
  obtain ⟨ht0, ht1, ht2, ht3, ht4, ht5, ht6, ht7, ht8⟩ := id ht
  have hl := lv_entry ([Value.ref (b n), va_rf (Option.map b m1), Value.ref (if X0.L (n + 124) = 0 then gx_av D else b (n + 124)), Value.int a3]) (n := 4) (by cases m1 <;> exact Nat.le_of_ble_eq_true rfl)
  rw [lg_entry_eq]
  generalize (lg_sl ([Value.ref (b n), va_rf (Option.map b m1), Value.ref (if X0.L (n + 124) = 0 then gx_av D else b (n + 124)), Value.int a3]) ++ List.replicate (4 - (lg_sl ([Value.ref (b n), va_rf (Option.map b m1), Value.ref (if X0.L (n + 124) = 0 then gx_av D else b (n + 124)), Value.int a3])).length) Slot.unset).toArray = ls at hl ⊢
  have hl : lv_has ls 4 [(0, Value.ref (b n)), (1, va_rf (Option.map b m1)), (2, Value.ref (if X0.L (n + 124) = 0 then gx_av D else b (n + 124))), (3, Value.int a3)] := by cases m1 <;> exact hl
  unfold f_Al_add1 at hf
  refine lv_iload_n hx hb d_Al_add1_0 rfl (lv_at hl 3 rfl) ?_
  refine lv_aload_n hx hb d_Al_add1_1 rfl (lv_at hl 2 rfl) ?_
  refine gy_alenL hn hx hb hK hY hz hAz Y ht7 d_Al_add1_2 ?_
  refine lv_icmp_ne (tgt := 11) hx hb d_Al_add1_3 (by decide) (fun c3_12 => ?_) (fun c3_12 => ?_)
  · replace hf := gp_f c3_12 hf
    refine lv_aload_n hx hb d_Al_add1_11 rfl (lv_at hl 2 rfl) ?_
    refine lv_iload_n hx hb d_Al_add1_12 rfl (lv_at hl 3 rfl) ?_
    refine lv_aload_nO hx hb d_Al_add1_13 rfl (lv_at hl 1 rfl) ?_
    obtain ⟨hv13, hf⟩ := gp_g hf
    refine W.eq (g2 := F0 m 14 ls [va_rf (Option.map b m1), Value.int a3, Value.ref (b (n + 124))]) (by rw [if_neg hv13]) ?_
    obtain ⟨hv14, hf⟩ := gp_g hf
    refine gy_aastL (x := m1) hf hx hb hts hK Y 7 (fun _ => (gF_LA hn hv14)) ht7 d_Al_add1_14 (fun X15 H locs hf Y => ?_)
    refine lv_aload_n hx hb d_Al_add1_15 rfl (lv_at hl 0 rfl) ?_
    refine lv_iload_n hx hb d_Al_add1_16 rfl (lv_at hl 3 rfl) ?_
    refine lv_iconst (v := 1) hx hb d_Al_add1_17 (by decide) ?_
    refine lv_iadd hx hb d_Al_add1_18 ?_
    refine gy_put hf (ci := 3) (ty := .int) (C := "java/util/ArrayList") (T := F_Al) (N := 3) hx hb hts i_Al t_Al_ok n_Al hown hK Y (gF_Li hn) rfl (by decide) kf_Al_48 rfl (by decide +kernel) rfl rfl (Nat.le_of_ble_eq_true rfl) (gF_Li hn) d_Al_add1_19 (fun X16 H locs hf Y => ?_)
    exact gA_vret hf hx hb hr hlocks hK hC Y d_Al_add1_22
  · replace hf := gp_t c3_12 hf
    refine lv_aload_n hx hb d_Al_add1_6 rfl (lv_at hl 0 rfl) ?_
    have hl : lv_has ls 4 [(0, Value.ref (b n)), (1, va_rf (Option.map b m1)), (3, Value.int a3)] := lv_sub hl [0, 1, 3] rfl
    obtain ⟨hg18, hf⟩ := gp_g hf
    obtain ⟨hg19, hf⟩ := gp_g hf
    obtain ⟨x17, X17, hF17, hf⟩ := gCa_el hf
    refine gA_call (fr := 5) (lo := 133) (o1 := (gR.a x17, X17)) (ig := .invokevirtual 129) (av := [Value.ref (b n)]) hC Y ⟨Nat.le_refl _, Nat.le_refl _⟩ (fun hc9 hs9 ws h hS hw => K_Al_grow0 l htr D tys z _ ws h hS t ht b X0 hw n hn hc9 hs9 (gR.a x17, X17) hF17) (gx_invV (As := []) (rest := []) hx hb hown hts km_Al_129 kI_Al_grow0 kV_Al_grow0 kc_Al_grow0 (by decide) (show (parseMethodDescriptor y_Al_grow0.desc).map (fun d => d.parameters.length) = some 0 by decide +kernel) (gy_recv (ci := 3) hK Y rfl (gF_Li hn)) rfl rfl d_Al_add1_7) (gx_cwA hts kc_Al_grow0 kN_Al ⟨Nat.le_of_ble_eq_true rfl, Nat.le_of_ble_eq_true rfl⟩) hb hml hz hK hY hAz hA hl.1 (lv_room (Nat.le_of_ble_eq_true rfl)) d_Al_add1_7 (fun vz9 b H locs cells slots e9 hb9 hC Y => ?_) (fun xz9 Ez9 ce b H locs cells slots e9 hce hC Y => ?_)
    rotate_left
    · have e9 : (Sum.inr Ez9 : Option Value ⊕ String) = Sum.inl (some (va_rf (Option.map b x17))) := e9
      cases e9
    have e9 : (Sum.inl vz9 : Option Value ⊕ String) = Sum.inl (some (va_rf (Option.map b x17))) := e9
    cases e9
    replace hl : lv_has ls 4 [(0, Value.ref (b n)), (1, va_rf (Option.map b m1)), (3, Value.int a3)] := by rw [hb9 n (gOk.of hg18 _ rfl)]; rw [gOk_map hg19 hb9]; exact hl
    obtain ⟨hx17, hf⟩ := gp_g hf
    refine W.eq (g2 := F0 m 10 ls [Value.ref (b (n + 124))]) (by rw [hx17]; rfl) ?_
    refine lv_astore_n (lv' := [(2, Value.ref (b (n + 124))), (0, Value.ref (b n)), (1, va_rf (Option.map b m1)), (3, Value.int a3)]) hx hb d_Al_add1_10 rfl hl (by decide) (by generalize Option.map b m1 = z9; cases z9 <;> rfl) (fun ls hl => ?_)
    refine lv_aload_n hx hb d_Al_add1_11 rfl (lv_at hl 0 rfl) ?_
    refine lv_iload_n hx hb d_Al_add1_12 rfl (lv_at hl 3 rfl) ?_
    refine lv_aload_nO hx hb d_Al_add1_13 rfl (lv_at hl 2 rfl) ?_
    obtain ⟨hv20, hf⟩ := gp_g hf
    refine gy_aastL (x := m1) hf hx hb hts hK Y 7 (fun _ => (gF_LA hn hv20)) ht7 d_Al_add1_14 (fun X21 H locs hf Y => ?_)
    refine lv_aload_n hx hb d_Al_add1_15 rfl (lv_at hl 1 rfl) ?_
    refine lv_iload_n hx hb d_Al_add1_16 rfl (lv_at hl 3 rfl) ?_
    refine lv_iconst (v := 1) hx hb d_Al_add1_17 (by decide) ?_
    refine lv_iadd hx hb d_Al_add1_18 ?_
    refine gy_put hf (ci := 3) (ty := .int) (C := "java/util/ArrayList") (T := F_Al) (N := 3) hx hb hts i_Al t_Al_ok n_Al hown hK Y (gF_Li hn) rfl (by decide) kf_Al_48 rfl (by decide +kernel) rfl rfl (Nat.le_of_ble_eq_true rfl) (gF_Li hn) d_Al_add1_19 (fun X22 H locs hf Y => ?_)
    exact gA_vret hf hx hb hr hlocks hK hC Y d_Al_add1_22

def f_Al_add0 (X0 : gX) (n : Nat) (m1 : Option Nat) : Option (gR × gX) := gB (X0.w n 2 ((X0.I n 2) + 1)) (fun X1 => gCv (f_Al_add1 X1 n m1 (X1.I n 1)) (fun X2 => some (gR.i 1, X2)))
set_option maxHeartbeats 4000000 in
set_option maxRecDepth 100000 in
theorem K_Al_add0 (l : Launch) (htr : l.stackTraces = false) (D : va_G) (tys : List (ClassId × FieldType)) (z sz : Nat) (ws : va_W) (h : gm_M) (hM : gm_S h ws) (t : Nat → ClassId) (ht : gTy t tys) (b : Nat → Nat) (X0 : gX) (hw : gw D t b X0 h) (n : Nat) (hn : gLis n = true) (m1 : Option Nat) (hc0 : X0.cc ≤ gCL) (hs0 : X0.ss ≤ gSL) (o : gR × gX) (hf : f_Al_add0 X0 n m1 = some o) : gx_Met l y_Al_add0 [Cond.code y_Al_add0 b_Al_add0 2 (some .boolean)] { frames := 7, cells := gCL + 1 - X0.cc, slots := gSL + 6 - X0.ss, locals := 176 } (gx_P z sz D classes tys ws [Value.ref (b n), va_rf (Option.map b m1)]) (gx_Q D classes tys (va_A ws sz) (gPoA D t b X0 o)) (o.2.cc + gT o.1 - X0.cc) (o.2.ss + 6 * gT o.1 - X0.ss) (va_A ws sz) := by
  refine gx_ofW (cc := b_Al_add0) (maxL := 2) (ret := (some .boolean)) (by decide) rfl ?_
  intro p e s m args below meth c s₁ B hml hv
  obtain ⟨rfl, hsz, hz, hP, hK, hD0, hY⟩ := hv
  have hx := B.exec
  have hb := B.bytes
  have hr := B.returns
  have hts := hY.hts (#[Value.ref (b n), va_rf (Option.map b m1)] : Array Value)
  have hown : s.vm.findClass "java/util/ArrayList" = some m.cls := findClass_of_methodNamed B.named
  have hlocks := B.notSynchronized
  subst hsz
  have hAz := gx_az hD0 hz
  have hD := hD0.self (sz := s.heap.size)
  have hA : ∀ q : Nat, s.heap.size ≤ q → va_A ws s.heap.size q := fun q h => Or.inr h
  generalize va_A ws s.heap.size = A at hD hA hAz ⊢
  have Y : gy D t b A s.heap X0 X0 s.heap [] := ⟨h, ⟨ws, hM, hP, hD, va_S.rf⟩, hw, gEq.rf⟩
  clear hP hD hM hD0 hw
  have hC : gC X0 b X0 b 0 0 := gC.rf hc0 hs0
  obtain ⟨ht0, ht1, ht2, ht3, ht4, ht5, ht6, ht7, ht8⟩ := id ht
  have hl := lv_entry ([Value.ref (b n), va_rf (Option.map b m1)]) (n := 2) (by cases m1 <;> exact Nat.le_of_ble_eq_true rfl)
  rw [lg_entry_eq]
  generalize (lg_sl ([Value.ref (b n), va_rf (Option.map b m1)]) ++ List.replicate (2 - (lg_sl ([Value.ref (b n), va_rf (Option.map b m1)])).length) Slot.unset).toArray = ls at hl ⊢
  have hl : lv_has ls 2 [(0, Value.ref (b n)), (1, va_rf (Option.map b m1))] := by cases m1 <;> exact hl
  unfold f_Al_add0 at hf
  refine lv_aload_n hx hb d_Al_add0_0 rfl (lv_at hl 0 rfl) ?_
  refine lv_dup hx hb d_Al_add0_1 rfl ?_
  refine gy_getI (ci := 3) (v := Value.int (X0.I n 2)) (C := "java/util/ArrayList") (T := F_Al) (N := 3) hx hb hts i_Al hown hK Y (gF_Li hn) rfl 2 (by decide) kf_Al_63 kW_mod rfl d_Al_add0_2 ?_
  refine lv_iconst (v := 1) hx hb d_Al_add0_5 (by decide) ?_
  refine lv_iadd hx hb d_Al_add0_6 ?_
  refine gy_putI hf (ci := 3) (ty := .int) (C := "java/util/ArrayList") (T := F_Al) (N := 3) hx hb hts i_Al t_Al_ok n_Al hown hK Y (gF_Li hn) rfl (by decide) kf_Al_63 kW_mod rfl (by decide +kernel) rfl rfl (Nat.le_of_ble_eq_true rfl) (gF_Li hn) d_Al_add0_7 (fun X3 H locs hf Y => ?_)
  refine lv_aload_n hx hb d_Al_add0_10 rfl (lv_at hl 0 rfl) ?_
  refine lv_aload_nO hx hb d_Al_add0_11 rfl (lv_at hl 1 rfl) ?_
  refine lv_aload_n hx hb d_Al_add0_12 rfl (lv_at hl 0 rfl) ?_
  refine gy_get (ci := 3) (v := Value.ref (if X3.L (n + 124) = 0 then gx_av D else b (n + 124))) (C := "java/util/ArrayList") (T := F_Al) (N := 3) hx hb hts i_Al hown hK Y (gF_Li hn) rfl 0 (by decide) kf_Al_9 rfl d_Al_add0_13 ?_
  refine lv_aload_n hx hb d_Al_add0_16 rfl (lv_at hl 0 rfl) ?_
  refine gy_get (ci := 3) (v := Value.int (X3.I n 1)) (C := "java/util/ArrayList") (T := F_Al) (N := 3) hx hb hts i_Al hown hK Y (gF_Li hn) rfl 1 (by decide) kf_Al_48 rfl d_Al_add0_17 ?_
  have hl : lv_has ls 2 [] := lv_sub hl [] rfl
  obtain ⟨X4, hF4, hf⟩ := gCv_el hf
  refine gA_call (fr := 6) (lo := 153) (o1 := (gR.v, X4)) (ig := .invokevirtual 131) (av := [Value.ref (b n), va_rf (Option.map b m1), Value.ref (if X3.L (n + 124) = 0 then gx_av D else b (n + 124)), Value.int (X3.I n 1)]) hC Y ⟨Nat.le_refl _, Nat.le_refl _⟩ (fun hc9 hs9 ws h hS hw => K_Al_add1 l htr D tys z _ ws h hS t ht b X3 hw n hn m1 (X3.I n 1) hc9 hs9 (gR.v, X4) hF4) (gx_invV (As := [va_rf (Option.map b m1), Value.ref (if X3.L (n + 124) = 0 then gx_av D else b (n + 124)), Value.int (X3.I n 1)]) (rest := []) hx hb hown hts km_Al_131 kI_Al_add1 kV_Al_add1 kc_Al_add1 (by decide) (show (parseMethodDescriptor y_Al_add1.desc).map (fun d => d.parameters.length) = some 3 by decide +kernel) (gy_recv (ci := 3) hK Y rfl (gF_Li hn)) rfl rfl d_Al_add0_20) (gx_cwA hts kc_Al_add1 kN_Al ⟨Nat.le_of_ble_eq_true rfl, Nat.le_of_ble_eq_true rfl⟩) hb hml hz hK hY hAz hA hl.1 (lv_room (Nat.le_of_ble_eq_true rfl)) d_Al_add0_20 (fun vz9 b H locs cells slots e9 hb9 hC Y => ?_) (fun xz9 Ez9 ce b H locs cells slots e9 hce hC Y => ?_)
  rotate_left
  · have e9 : (Sum.inr Ez9 : Option Value ⊕ String) = Sum.inl none := e9
    cases e9
  have e9 : (Sum.inl vz9 : Option Value ⊕ String) = Sum.inl none := e9
  cases e9
  replace hl : lv_has ls 2 [] := by exact hl
  refine W.eq (g2 := F0 m 23 ls []) (by rfl) ?_
  refine lv_iconst (v := 1) hx hb d_Al_add0_23 (by decide) ?_
  exact gA_zret hf hx hb hr hlocks hK hC Y rfl d_Al_add0_24

def f_Fi_init (X0 : gX) (n : Nat) : Option (gR × gX) := some (gR.v, X0)
set_option maxHeartbeats 4000000 in
set_option maxRecDepth 100000 in
theorem K_Fi_init (l : Launch) (htr : l.stackTraces = false) (D : va_G) (tys : List (ClassId × FieldType)) (z sz : Nat) (ws : va_W) (h : gm_M) (hM : gm_S h ws) (t : Nat → ClassId) (ht : gTy t tys) (b : Nat → Nat) (X0 : gX) (hw : gw D t b X0 h) (n : Nat) (hn : gFile X0.N n = true) (o : gR × gX) (hf : f_Fi_init X0 n = some o) : gx_Met l y_Fi_init [Cond.code y_Fi_init b_Fi_init 1 none] { frames := 1, cells := 0, slots := 0, locals := 20 } (gx_P z sz D classes tys ws [Value.ref (b n)]) (gx_Q D classes tys (va_A ws sz) (gPo D t b X0 o)) (0) (0) (va_A ws sz) := by
  refine gx_ofW (cc := b_Fi_init) (maxL := 1) (ret := none) (by decide) rfl ?_
  intro p e s m args below meth c s₁ B hml hv
  obtain ⟨rfl, hsz, hz, hP, hK, hD0, hY⟩ := hv
  have hx := B.exec
  have hb := B.bytes
  have hr := B.returns
  have hts := hY.hts (#[Value.ref (b n)] : Array Value)
  have hown : s.vm.findClass "CommitLedger$LedgerFile" = some m.cls := findClass_of_methodNamed B.named
  have hlocks := B.notSynchronized
  subst hsz
  have hAz := gx_az hD0 hz
  have hD := hD0.self (sz := s.heap.size)
  have hA : ∀ q : Nat, s.heap.size ≤ q → va_A ws s.heap.size q := fun q h => Or.inr h
  generalize va_A ws s.heap.size = A at hD hA hAz ⊢
  have Y : gy D t b A s.heap X0 X0 s.heap [] := ⟨h, ⟨ws, hM, hP, hD, va_S.rf⟩, hw, gEq.rf⟩
  clear hP hD hM hD0 hw
  obtain ⟨ht0, ht1, ht2, ht3, ht4, ht5, ht6, ht7, ht8⟩ := id ht
  have hl := lv_entry ([Value.ref (b n)]) (n := 1) (Nat.le_of_ble_eq_true rfl)
  rw [lg_entry_eq]
  generalize (lg_sl ([Value.ref (b n)]) ++ List.replicate (1 - (lg_sl ([Value.ref (b n)])).length) Slot.unset).toArray = ls at hl ⊢
  have hl : lv_has ls 1 [(0, Value.ref (b n))] := hl
  unfold f_Fi_init at hf
  refine lv_aload_n hx hb d_Fi_init_0 rfl (lv_at hl 0 rfl) ?_
  refine W.objInit hx hb hown (hts _ km_Fi_1) (hts _ kI_Object_init) (hts _ kc_Object_init) rfl (by rw [hml]; exact hl.1) rfl d_Fi_init_1 (Nat.le_of_ble_eq_true rfl) (Nat.le_of_ble_eq_true rfl) ?_
  refine W.eq (g2 := F0 m 4 ls []) rfl ?_
  exact gy_vret hf hx hb hr hlocks hK Y (Nat.zero_le _) (Nat.zero_le _) d_Fi_init_4

def f_Di_newFile_39 (X : gX) (i1 : Int32) (n1000 : Nat) : Option (gR × gX) := (if gFile X.N n1000 then gB (X.w n1000 0 (X.I 5 2)) (fun X8 => (if gFile X8.N n1000 then gB (X8.w n1000 1 0) (fun X10 => (if gFile X10.N n1000 then gB (X10.w n1000 2 0) (fun X12 => (if gFile X12.N n1000 then gB (X12.w n1000 3 1) (fun X14 => (if gFile X14.N n1000 then gB (X14.w n1000 4 i1) (fun X16 => (if gFile X16.N n1000 then gB (X16.w n1000 5 0) (fun X18 => (if gFile X18.N n1000 then gB (X18.w n1000 6 0) (fun X20 => gB (X20.w 5 2 ((X20.I 5 2) + 1)) (fun X21 => (if gOk X21.N (some n1000) then gCi (f_Al_add0 X21 6 (some n1000)) (fun x22 X22 => some (gR.a (some n1000), X22)) else none))) else none)) else none)) else none)) else none)) else none)) else none)) else none)
def f_Di_newFile (X0 : gX) (a1 : Int32) : Option (gR × gX) := gCi (f_Al_isEmpty X0 7) (fun x1 X1 => (if x1 = (0 : Int32) then gCi (f_Al_size X1 7) (fun x3 X3 => gCa (f_Al_remove X3 7 (x3 - 1)) (fun x4 X4 => gM x4 (fun n5 => (if gFile X4.N n5 then f_Di_newFile_39 X4 a1 n5 else none)))) else (if X1.cc + 1 ≤ gCL ∧ X1.ss + 7 ≤ gSL then gB X1.nf (fun X24 => (if gFile X24.N (1000 + X1.N) then gCv (f_Fi_init X24 (1000 + X1.N)) (fun X26 => f_Di_newFile_39 X26 a1 (1000 + X1.N)) else none)) else none)))
set_option maxHeartbeats 4000000 in
set_option maxRecDepth 100000 in
theorem K_Di_newFile (l : Launch) (htr : l.stackTraces = false) (D : va_G) (tys : List (ClassId × FieldType)) (z sz : Nat) (ws : va_W) (h : gm_M) (hM : gm_S h ws) (t : Nat → ClassId) (ht : gTy t tys) (b : Nat → Nat) (X0 : gX) (hw : gw D t b X0 h) (a1 : Int32) (hc0 : X0.cc ≤ gCL) (hs0 : X0.ss ≤ gSL) (o : gR × gX) (hf : f_Di_newFile X0 a1 = some o) : gx_Met l y_Di_newFile [Cond.code y_Di_newFile b_Di_newFile 3 (some (.object "CommitLedger$LedgerFile"))] { frames := 8, cells := gCL + 1 - X0.cc, slots := gSL + 6 - X0.ss, locals := 197 } (gx_P z sz D classes tys ws [Value.ref (b 5), Value.int a1]) (gx_Q D classes tys (va_A ws sz) (gPoA D t b X0 o)) (o.2.cc + gT o.1 - X0.cc) (o.2.ss + 6 * gT o.1 - X0.ss) (va_A ws sz) := by
  refine gx_ofW (cc := b_Di_newFile) (maxL := 3) (ret := (some (.object "CommitLedger$LedgerFile"))) (by decide) rfl ?_
  intro p e s m args below meth c s₁ B hml hv
  obtain ⟨rfl, hsz, hz, hP, hK, hD0, hY⟩ := hv
  have hx := B.exec
  have hb := B.bytes
  have hr := B.returns
  have hts := hY.hts (#[Value.ref (b 5), Value.int a1] : Array Value)
  have hown : s.vm.findClass "CommitLedger$Directory" = some m.cls := findClass_of_methodNamed B.named
  have hlocks := B.notSynchronized
  subst hsz
  have hAz := gx_az hD0 hz
  have hD := hD0.self (sz := s.heap.size)
  have hA : ∀ q : Nat, s.heap.size ≤ q → va_A ws s.heap.size q := fun q h => Or.inr h
  generalize va_A ws s.heap.size = A at hD hA hAz ⊢
  have Y : gy D t b A s.heap X0 X0 s.heap [] := ⟨h, ⟨ws, hM, hP, hD, va_S.rf⟩, hw, gEq.rf⟩
  clear hP hD hM hD0 hw
  have hC : gC X0 b X0 b 0 0 := gC.rf hc0 hs0
  obtain ⟨ht0, ht1, ht2, ht3, ht4, ht5, ht6, ht7, ht8⟩ := id ht
  have hl := lv_entry ([Value.ref (b 5), Value.int a1]) (n := 3) (Nat.le_of_ble_eq_true rfl)
  rw [lg_entry_eq]
  generalize (lg_sl ([Value.ref (b 5), Value.int a1]) ++ List.replicate (3 - (lg_sl ([Value.ref (b 5), Value.int a1])).length) Slot.unset).toArray = ls at hl ⊢
  have hl : lv_has ls 3 [(0, Value.ref (b 5)), (1, Value.int a1)] := hl
  refine gA_cut (pcJ := 39) hC Y (fun s : gX × Nat => f_Di_newFile_39 s.1 a1 s.2) o (fun s => s.1) (fun s b ls => lv_has ls 3 [(0, Value.ref (b 5)), (1, Value.int a1)]) (fun s b => [Value.ref (b s.2)]) ?_ (fun J39 => ?_)
  · rintro ⟨X27, n1000_27⟩ b H locs ls cells slots hf hl hC Y
    have hl : lv_has ls 3 [(0, Value.ref (b 5)), (1, Value.int a1)] := hl
    have hC : gC X0 _ X27 b cells slots := hC
    have Y : gy D t b A s.heap X27 X27 H locs := Y
    have hf : f_Di_newFile_39 X27 a1 n1000_27 = some o := hf
    unfold f_Di_newFile_39 at hf
    refine W.eq (g2 := F0 m 39 ls [Value.ref (b n1000_27)]) rfl ?_
    refine lv_astore_n (lv' := [(2, Value.ref (b n1000_27)), (0, Value.ref (b 5)), (1, Value.int a1)]) hx hb d_Di_newFile_39 rfl hl (by decide) rfl (fun ls hl => ?_)
    refine lv_aload_n hx hb d_Di_newFile_40 rfl (lv_at hl 0 rfl) ?_
    refine lv_aload_n hx hb d_Di_newFile_41 rfl (lv_at hl 1 rfl) ?_
    refine gy_get (ci := 2) (v := Value.int (X27.I 5 2)) (C := "CommitLedger$Directory") (T := F_Di) (N := 4) hx hb hts i_Di hown hK Y gF_5 rfl 2 (by decide) kf_Di_34 rfl d_Di_newFile_42 ?_
    obtain ⟨hv28, hf⟩ := gp_g hf
    refine gy_put hf (ci := 7) (ty := .int) (C := "CommitLedger$LedgerFile") (T := F_Fi) (N := 7) hx hb hts i_Fi t_Fi_ok n_Fi hown hK Y (gF_Fi hv28) rfl (by decide) kf_Di_38 rfl (by decide +kernel) rfl rfl (Nat.le_of_ble_eq_true rfl) (gF_Fi hv28) d_Di_newFile_45 (fun X29 H locs hf Y => ?_)
    refine lv_aload_n hx hb d_Di_newFile_48 rfl (lv_at hl 0 rfl) ?_
    refine lv_iconst (v := 0) hx hb d_Di_newFile_49 (by decide) ?_
    obtain ⟨hv30, hf⟩ := gp_g hf
    refine gy_put hf (ci := 7) (ty := .boolean) (C := "CommitLedger$LedgerFile") (T := F_Fi) (N := 7) hx hb hts i_Fi t_Fi_ok n_Fi hown hK Y (gF_Fi hv30) rfl (by decide) kf_Di_41 rfl (by decide +kernel) rfl rfl (Nat.le_of_ble_eq_true rfl) (gF_Fi hv30) d_Di_newFile_50 (fun X31 H locs hf Y => ?_)
    refine lv_aload_n hx hb d_Di_newFile_53 rfl (lv_at hl 0 rfl) ?_
    refine lv_iconst (v := 0) hx hb d_Di_newFile_54 (by decide) ?_
    obtain ⟨hv32, hf⟩ := gp_g hf
    refine gy_put hf (ci := 7) (ty := .boolean) (C := "CommitLedger$LedgerFile") (T := F_Fi) (N := 7) hx hb hts i_Fi t_Fi_ok n_Fi hown hK Y (gF_Fi hv32) rfl (by decide) kf_Di_45 rfl (by decide +kernel) rfl rfl (Nat.le_of_ble_eq_true rfl) (gF_Fi hv32) d_Di_newFile_55 (fun X33 H locs hf Y => ?_)
    refine lv_aload_n hx hb d_Di_newFile_58 rfl (lv_at hl 0 rfl) ?_
    refine lv_iconst (v := 1) hx hb d_Di_newFile_59 (by decide) ?_
    obtain ⟨hv34, hf⟩ := gp_g hf
    refine gy_put hf (ci := 7) (ty := .boolean) (C := "CommitLedger$LedgerFile") (T := F_Fi) (N := 7) hx hb hts i_Fi t_Fi_ok n_Fi hown hK Y (gF_Fi hv34) rfl (by decide) kf_Di_48 rfl (by decide +kernel) rfl rfl (Nat.le_of_ble_eq_true rfl) (gF_Fi hv34) d_Di_newFile_60 (fun X35 H locs hf Y => ?_)
    refine lv_aload_n hx hb d_Di_newFile_63 rfl (lv_at hl 0 rfl) ?_
    refine lv_iload_n hx hb d_Di_newFile_64 rfl (lv_at hl 2 rfl) ?_
    obtain ⟨hv36, hf⟩ := gp_g hf
    refine gy_put hf (ci := 7) (ty := .int) (C := "CommitLedger$LedgerFile") (T := F_Fi) (N := 7) hx hb hts i_Fi t_Fi_ok n_Fi hown hK Y (gF_Fi hv36) rfl (by decide) kf_Di_51 rfl (by decide +kernel) rfl rfl (Nat.le_of_ble_eq_true rfl) (gF_Fi hv36) d_Di_newFile_65 (fun X37 H locs hf Y => ?_)
    refine lv_aload_n hx hb d_Di_newFile_68 rfl (lv_at hl 0 rfl) ?_
    refine lv_iconst (v := 0) hx hb d_Di_newFile_69 (by decide) ?_
    obtain ⟨hv38, hf⟩ := gp_g hf
    refine gy_put hf (ci := 7) (ty := .int) (C := "CommitLedger$LedgerFile") (T := F_Fi) (N := 7) hx hb hts i_Fi t_Fi_ok n_Fi hown hK Y (gF_Fi hv38) rfl (by decide) kf_Di_54 rfl (by decide +kernel) rfl rfl (Nat.le_of_ble_eq_true rfl) (gF_Fi hv38) d_Di_newFile_70 (fun X39 H locs hf Y => ?_)
    refine lv_aload_n hx hb d_Di_newFile_73 rfl (lv_at hl 0 rfl) ?_
    refine lv_iconst (v := 0) hx hb d_Di_newFile_74 (by decide) ?_
    obtain ⟨hv40, hf⟩ := gp_g hf
    refine gy_put hf (ci := 7) (ty := .int) (C := "CommitLedger$LedgerFile") (T := F_Fi) (N := 7) hx hb hts i_Fi t_Fi_ok n_Fi hown hK Y (gF_Fi hv40) rfl (by decide) kf_Di_57 rfl (by decide +kernel) rfl rfl (Nat.le_of_ble_eq_true rfl) (gF_Fi hv40) d_Di_newFile_75 (fun X41 H locs hf Y => ?_)
    refine lv_aload_n hx hb d_Di_newFile_78 rfl (lv_at hl 1 rfl) ?_
    refine lv_dup hx hb d_Di_newFile_79 rfl ?_
    refine gy_get (ci := 2) (v := Value.int (X41.I 5 2)) (C := "CommitLedger$Directory") (T := F_Di) (N := 4) hx hb hts i_Di hown hK Y gF_5 rfl 2 (by decide) kf_Di_34 rfl d_Di_newFile_80 ?_
    refine lv_iconst (v := 1) hx hb d_Di_newFile_83 (by decide) ?_
    refine lv_iadd hx hb d_Di_newFile_84 ?_
    refine gy_put hf (ci := 2) (ty := .int) (C := "CommitLedger$Directory") (T := F_Di) (N := 4) hx hb hts i_Di t_Di_ok n_Di hown hK Y gF_5 rfl (by decide) kf_Di_34 rfl (by decide +kernel) rfl rfl (Nat.le_of_ble_eq_true rfl) gF_5 d_Di_newFile_85 (fun X42 H locs hf Y => ?_)
    refine lv_aload_n hx hb d_Di_newFile_88 rfl (lv_at hl 1 rfl) ?_
    refine gy_get (ci := 2) (v := Value.ref (b 6)) (C := "CommitLedger$Directory") (T := F_Di) (N := 4) hx hb hts i_Di hown hK Y gF_5 rfl 0 (by decide) kf_Di_10 rfl d_Di_newFile_89 ?_
    refine lv_aload_n hx hb d_Di_newFile_92 rfl (lv_at hl 0 rfl) ?_
    have hl : lv_has ls 3 [(2, Value.ref (b n1000_27))] := lv_sub hl [0] rfl
    obtain ⟨hg44, hf⟩ := gp_g hf
    obtain ⟨x43, X43, hF43, hf⟩ := gCi_el hf
    refine gA_call (fr := 7) (lo := 176) (o1 := (gR.i x43, X43)) (ig := .invokevirtual 60) (av := [Value.ref (b 6), Value.ref (b n1000_27)]) hC Y ⟨Nat.le_refl _, Nat.le_refl _⟩ (fun hc9 hs9 ws h hS hw => K_Al_add0 l htr D tys z _ ws h hS t ht b X42 hw 6 (by decide) (some n1000_27) hc9 hs9 (gR.i x43, X43) hF43) (gx_invV (As := [Value.ref (b n1000_27)]) (rest := []) hx hb hown hts km_Di_60 kI_Al_add0 kV_Al_add0 kc_Al_add0 (by decide) (show (parseMethodDescriptor y_Al_add0.desc).map (fun d => d.parameters.length) = some 1 by decide +kernel) (gy_recv (ci := 3) hK Y rfl gF_6) rfl rfl d_Di_newFile_93) (gx_cwA hts kc_Al_add0 kN_Al ⟨Nat.le_of_ble_eq_true rfl, Nat.le_of_ble_eq_true rfl⟩) hb hml hz hK hY hAz hA hl.1 (lv_room (Nat.le_of_ble_eq_true rfl)) d_Di_newFile_93 (fun vz9 b H locs cells slots e9 hb9 hC Y => ?_) (fun xz9 Ez9 ce b H locs cells slots e9 hce hC Y => ?_)
    rotate_left
    · have e9 : (Sum.inr Ez9 : Option Value ⊕ String) = Sum.inl (some (Value.int x43)) := e9
      cases e9
    have e9 : (Sum.inl vz9 : Option Value ⊕ String) = Sum.inl (some (Value.int x43)) := e9
    cases e9
    replace hl : lv_has ls 3 [(2, Value.ref (b n1000_27))] := by rw [hb9 n1000_27 (gOk.of hg44 _ rfl)]; exact hl
    refine W.eq (g2 := F0 m 96 ls [Value.int x43]) (by rfl) ?_
    refine lv_pop hx hb d_Di_newFile_96 rfl ?_
    refine lv_aload_n hx hb d_Di_newFile_97 rfl (lv_at hl 0 rfl) ?_
    exact gA_aret (x := (some n1000_27)) hf hx hb hr hlocks hK hC Y d_Di_newFile_98
  unfold f_Di_newFile at hf
  refine lv_aload_n hx hb d_Di_newFile_0 rfl (lv_at hl 0 rfl) ?_
  refine gy_get (ci := 2) (v := Value.ref (b 7)) (C := "CommitLedger$Directory") (T := F_Di) (N := 4) hx hb hts i_Di hown hK Y gF_5 rfl 1 (by decide) kf_Di_16 rfl d_Di_newFile_1 ?_
  obtain ⟨x45, X45, hF45, hf⟩ := gCi_el hf
  refine gy_callI (rm := { frames := 1, cells := 0, slots := 0, locals := 12 }) (ig := .invokevirtual 19) (av := [Value.ref (b 7)]) Y (fun ws h hS hw => K_Al_isEmpty l htr D tys z _ ws h hS t ht b X0 hw 7 (by decide) (gR.i x45, X45) hF45) (gx_invV (As := []) (rest := []) hx hb hown hts km_Di_19 kI_Al_isEmpty kV_Al_isEmpty kc_Al_isEmpty (by decide) (show (parseMethodDescriptor y_Al_isEmpty.desc).map (fun d => d.parameters.length) = some 0 by decide +kernel) (gy_recv (ci := 3) hK Y rfl gF_7) rfl rfl d_Di_newFile_4) (gx_cw (z := 0) hts kc_Al_isEmpty kN_Al rfl rfl ⟨Nat.le_of_ble_eq_true rfl, Nat.le_of_ble_eq_true rfl⟩) hb hml hz hK hY hAz hA hl.1 (lv_room (Nat.le_of_ble_eq_true rfl)) d_Di_newFile_4 ⟨hC.rc0 (Nat.le_refl _), hC.rs0 (Nat.le_refl _)⟩ (fun H locs Y => ?_)
  refine lv_if_eq (tgt := 20) hx hb d_Di_newFile_7 (by decide) (fun c7_46 => ?_) (fun c7_46 => ?_)
  · replace hf := gp_t c7_46 hf
    refine lv_aload_n hx hb d_Di_newFile_20 rfl (lv_at hl 0 rfl) ?_
    refine gy_get (ci := 2) (v := Value.ref (b 7)) (C := "CommitLedger$Directory") (T := F_Di) (N := 4) hx hb hts i_Di hown hK Y gF_5 rfl 1 (by decide) kf_Di_16 rfl d_Di_newFile_21 ?_
    refine lv_aload_n hx hb d_Di_newFile_24 rfl (lv_at hl 0 rfl) ?_
    refine gy_get (ci := 2) (v := Value.ref (b 7)) (C := "CommitLedger$Directory") (T := F_Di) (N := 4) hx hb hts i_Di hown hK Y gF_5 rfl 1 (by decide) kf_Di_16 rfl d_Di_newFile_25 ?_
    obtain ⟨x47, X47, hF47, hf⟩ := gCi_el hf
    refine gy_callI (rm := { frames := 1, cells := 0, slots := 0, locals := 12 }) (ig := .invokevirtual 26) (av := [Value.ref (b 7)]) Y (fun ws h hS hw => K_Al_size l htr D tys z _ ws h hS t ht b X45 hw 7 (by decide) (gR.i x47, X47) hF47) (gx_invV (As := []) (rest := [Value.ref (b 7)]) hx hb hown hts km_Di_26 kI_Al_size kV_Al_size kc_Al_size (by decide) (show (parseMethodDescriptor y_Al_size.desc).map (fun d => d.parameters.length) = some 0 by decide +kernel) (gy_recv (ci := 3) hK Y rfl gF_7) rfl rfl d_Di_newFile_28) (gx_cw (z := 0) hts kc_Al_size kN_Al rfl rfl ⟨Nat.le_of_ble_eq_true rfl, Nat.le_of_ble_eq_true rfl⟩) hb hml hz hK hY hAz hA hl.1 (lv_room (Nat.le_of_ble_eq_true rfl)) d_Di_newFile_28 ⟨hC.rc0 (Nat.le_refl _), hC.rs0 (Nat.le_refl _)⟩ (fun H locs Y => ?_)
    refine lv_iconst (v := 1) hx hb d_Di_newFile_31 (by decide) ?_
    refine lv_isub hx hb d_Di_newFile_32 ?_
    obtain ⟨x48, X48, hF48, hf⟩ := gCa_el hf
    refine gy_callA (rm := { frames := 3, cells := 0, slots := 0, locals := 55 }) (ig := .invokevirtual 30) (av := [Value.ref (b 7), Value.int (x47 - 1)]) Y (fun ws h hS hw => K_Al_remove l htr D tys z _ ws h hS t ht b X47 hw 7 (by decide) (x47 - 1) (gR.a x48, X48) hF48) (gx_invV (As := [Value.int (x47 - 1)]) (rest := []) hx hb hown hts km_Di_30 kI_Al_remove kV_Al_remove kc_Al_remove (by decide) (show (parseMethodDescriptor y_Al_remove.desc).map (fun d => d.parameters.length) = some 1 by decide +kernel) (gy_recv (ci := 3) hK Y rfl gF_7) rfl rfl d_Di_newFile_33) (gx_cw (z := 0) hts kc_Al_remove kN_Al rfl rfl ⟨Nat.le_of_ble_eq_true rfl, Nat.le_of_ble_eq_true rfl⟩) hb hml hz hK hY hAz hA hl.1 (lv_room (Nat.le_of_ble_eq_true rfl)) d_Di_newFile_33 ⟨hC.rc0 (Nat.le_refl _), hC.rs0 (Nat.le_refl _)⟩ (fun H locs Y => ?_)
    obtain ⟨n49, e49, hf⟩ := gM_el hf
    refine W.eq (g2 := F0 m 36 ls [Value.ref (b n49)]) (by rw [e49] <;> rfl) ?_
    obtain ⟨hv50, hf⟩ := gp_g hf
    refine va_castY (C := "CommitLedger$LedgerFile") hx hb hown (hts _ kk_Di_23) (va_Nw.of rfl (hts _ kW_FiFi)) (gy_recv (ci := 7) hK Y rfl (gF_Fi hv50)) d_Di_newFile_36 ?_
    exact J39 (X48, n49) _ _ _ _ _ _ hf (lv_sub hl [0, 1] rfl) (hC.mv Y) Y.rb
  · replace hf := gp_f c7_46 hf
    have hl : lv_has ls 3 [(0, Value.ref (b 5)), (1, Value.int a1)] := lv_sub hl [0, 1] rfl
    refine gA_new hf hx hb hts hown kk_Di_23 kX_Fi kN_Fi hK hC Y ⟨Nat.le_refl _, Nat.le_refl _⟩ hA d_Di_newFile_10 (fun X51 b H cells slots hf hb9 hC Y => ?_)
    replace hl : lv_has ls 3 [(0, Value.ref (b 5)), (1, Value.int a1)] := by rw [hb9 5 (gNm_s (by decide))]; exact hl
    refine lv_dup hx hb d_Di_newFile_13 rfl ?_
    obtain ⟨hv52, hf⟩ := gp_g hf
    obtain ⟨X53, hF53, hf⟩ := gCv_el hf
    refine gy_callV (rm := { frames := 1, cells := 0, slots := 0, locals := 20 }) (ig := .invokespecial 25) (av := [Value.ref (b (1000 + X45.N))]) Y (fun ws h hS hw => K_Fi_init l htr D tys z _ ws h hS t ht b X51 hw (1000 + X45.N) hv52 (gR.v, X53) hF53) (gx_invIN (As := []) (rest := [Value.ref (b (1000 + X45.N))]) hx hb hown hts km_Di_25 kI_Fi_init kc_Fi_init (by decide) rfl (show (parseMethodDescriptor y_Fi_init.desc).map (fun d => d.parameters.length) = some 0 by decide +kernel) rfl rfl d_Di_newFile_14) (gx_cw (z := 0) hts kc_Fi_init kN_Fi rfl rfl ⟨Nat.le_of_ble_eq_true rfl, Nat.le_of_ble_eq_true rfl⟩) hb hml hz hK hY hAz hA hl.1 (lv_room (Nat.le_of_ble_eq_true rfl)) d_Di_newFile_14 ⟨hC.rc0 (Nat.le_refl _), hC.rs0 (Nat.le_refl _)⟩ (fun H locs Y => ?_)
    refine lv_goto (tgt := 39) hx hb d_Di_newFile_17 (by decide) ?_
    exact J39 (X53, 1000 + X45.N) _ _ _ _ _ _ hf (lv_sub hl [0, 1] rfl) (hC.mv Y) Y.rb

def f_Di_dropUnneeded_75 (X : gX) (i1 : Int32) (i2 : Int32) : Option ((gX × Int32) ⊕ (gR × gX)) := (if i2 < i1 then gLf (some (gR.v, X)) else gCa (f_Al_remove X 6 i2) (fun x7 X7 => some (Sum.inl (X7, i2 + (-1)))))
def f_Di_dropUnneeded_59 (X : gX) (i1 : Int32) (i2 : Int32) : Option ((gX × Int32 × Int32) ⊕ (gR × gX)) := some (Sum.inl (X, i1, i2 + 1))
def f_Di_dropUnneeded_4 (X : gX) (i1 : Int32) (i2 : Int32) : Option ((gX × Int32 × Int32) ⊕ (gR × gX)) := gCi (f_Al_size X 6) (fun x2 X2 => (if x2 ≤ i2 then gCi (f_Al_size X2 6) (fun x4 X4 => gLf (gI (fun s : gX × Int32 => f_Di_dropUnneeded_75 s.1 i1 s.2) gK (X4, x4 - 1))) else gCa (f_Al_get X2 6 i2) (fun x10 X10 => gM x10 (fun n11 => (if gFile X10.N n11 then (if (X10.I n11 3) = (0 : Int32) then gCi (f_Al_add0 X10 7 (some n11)) (fun x14 X14 => f_Di_dropUnneeded_59 X14 i1 i2) else gCa (f_Al_set X10 6 i1 (some n11)) (fun x15 X15 => f_Di_dropUnneeded_59 X15 (i1 + 1) i2)) else none)))))
def f_Di_dropUnneeded (X0 : gX) : Option (gR × gX) := gI (fun s : gX × Int32 × Int32 => f_Di_dropUnneeded_4 s.1 s.2.1 s.2.2) gK (X0, 0, 0)
set_option maxHeartbeats 4000000 in
set_option maxRecDepth 100000 in
theorem K_Di_dropUnneeded (l : Launch) (htr : l.stackTraces = false) (D : va_G) (tys : List (ClassId × FieldType)) (z sz : Nat) (ws : va_W) (h : gm_M) (hM : gm_S h ws) (t : Nat → ClassId) (ht : gTy t tys) (b : Nat → Nat) (X0 : gX) (hw : gw D t b X0 h) (hc0 : X0.cc ≤ gCL) (hs0 : X0.ss ≤ gSL) (o : gR × gX) (hf : f_Di_dropUnneeded X0 = some o) : gx_Met l y_Di_dropUnneeded [Cond.code y_Di_dropUnneeded b_Di_dropUnneeded 4 none] { frames := 8, cells := gCL + 1 - X0.cc, slots := gSL + 6 - X0.ss, locals := 197 } (gx_P z sz D classes tys ws [Value.ref (b 5)]) (gx_Q D classes tys (va_A ws sz) (gPoA D t b X0 o)) (o.2.cc + gT o.1 - X0.cc) (o.2.ss + 6 * gT o.1 - X0.ss) (va_A ws sz) := by
  refine gx_ofW (cc := b_Di_dropUnneeded) (maxL := 4) (ret := none) (by decide) rfl ?_
  intro p e s m args below meth c s₁ B hml hv
  obtain ⟨rfl, hsz, hz, hP, hK, hD0, hY⟩ := hv
  have hx := B.exec
  have hb := B.bytes
  have hr := B.returns
  have hts := hY.hts (#[Value.ref (b 5)] : Array Value)
  have hown : s.vm.findClass "CommitLedger$Directory" = some m.cls := findClass_of_methodNamed B.named
  have hlocks := B.notSynchronized
  subst hsz
  have hAz := gx_az hD0 hz
  have hD := hD0.self (sz := s.heap.size)
  have hA : ∀ q : Nat, s.heap.size ≤ q → va_A ws s.heap.size q := fun q h => Or.inr h
  generalize va_A ws s.heap.size = A at hD hA hAz ⊢
  have Y : gy D t b A s.heap X0 X0 s.heap [] := ⟨h, ⟨ws, hM, hP, hD, va_S.rf⟩, hw, gEq.rf⟩
  clear hP hD hM hD0 hw
  have hC : gC X0 b X0 b 0 0 := gC.rf hc0 hs0
  obtain ⟨ht0, ht1, ht2, ht3, ht4, ht5, ht6, ht7, ht8⟩ := id ht
  have hl := lv_entry ([Value.ref (b 5)]) (n := 4) (Nat.le_of_ble_eq_true rfl)
  rw [lg_entry_eq]
  generalize (lg_sl ([Value.ref (b 5)]) ++ List.replicate (4 - (lg_sl ([Value.ref (b 5)])).length) Slot.unset).toArray = ls at hl ⊢
  have hl : lv_has ls 4 [(0, Value.ref (b 5))] := hl
  unfold f_Di_dropUnneeded at hf
  refine lv_iconst (v := 0) hx hb d_Di_dropUnneeded_0 (by decide) ?_
  refine lv_istore_n (lv' := [(1, Value.int 0), (0, Value.ref (b 5))]) hx hb d_Di_dropUnneeded_1 rfl hl (by decide) rfl (fun ls hl => ?_)
  refine lv_iconst (v := 0) hx hb d_Di_dropUnneeded_2 (by decide) ?_
  refine lv_istore_n (lv' := [(2, Value.int 0), (1, Value.int 0), (0, Value.ref (b 5))]) hx hb d_Di_dropUnneeded_3 rfl hl (by decide) rfl (fun ls hl => ?_)
  refine gA_iter (fun s : gX × Int32 × Int32 => s.1) (fun (s : gX × Int32 × Int32) b ls => lv_has ls 4 [(1, Value.int s.2.1), (2, Value.int s.2.2), (0, Value.ref (b 5))]) ?_ gK (X0, 0, 0) _ _ _ _ _ _ hf (lv_sub hl [1, 0, 2] rfl) (hC.mv Y) Y.rb
  rintro ⟨X29, i1_29, i2_29⟩ u29 b H locs ls cells slots hf hl hC Y hk29 ho29
  have hl : lv_has ls 4 [(1, Value.int i1_29), (2, Value.int i2_29), (0, Value.ref (b 5))] := hl
  have hC : gC X0 _ X29 b cells slots := hC
  have Y : gy D t b A s.heap X29 X29 H locs := Y
  have hf : f_Di_dropUnneeded_4 X29 i1_29 i2_29 = some u29 := hf
  refine gA_cut (pcJ := 59) hC Y (fun s : gX × Int32 × Int32 => f_Di_dropUnneeded_59 s.1 s.2.1 s.2.2) u29 (fun s => s.1) (fun s b ls => lv_has ls 4 [(1, Value.int s.2.1), (2, Value.int s.2.2), (0, Value.ref (b 5))]) (fun s b => []) ?_ (fun J59 => ?_)
  · rintro ⟨X30, i1_30, i2_30⟩ b H locs ls cells slots hf hl hC Y
    have hl : lv_has ls 4 [(1, Value.int i1_30), (2, Value.int i2_30), (0, Value.ref (b 5))] := hl
    have hC : gC X0 _ X30 b cells slots := hC
    have Y : gy D t b A s.heap X30 X30 H locs := Y
    have hf : f_Di_dropUnneeded_59 X30 i1_30 i2_30 = some u29 := hf
    unfold f_Di_dropUnneeded_59 at hf
    refine lv_iinc (v := i2_30 + 1) (lv' := [(2, Value.int (i2_30 + 1)), (1, Value.int i1_30), (0, Value.ref (b 5))]) hx hb d_Di_dropUnneeded_59 hl (k := 1) rfl (rfl) (by decide) rfl (fun ls hl => ?_)
    refine lv_goto (tgt := 4) hx hb d_Di_dropUnneeded_62 (by decide) ?_
    exact hk29 _ _ _ _ _ _ _ hf (lv_sub hl [1, 0, 2] rfl) (hC.mv Y) Y.rb
  unfold f_Di_dropUnneeded_4 at hf
  refine lv_iload_n hx hb d_Di_dropUnneeded_4 rfl (lv_at hl 1 rfl) ?_
  refine lv_aload_n hx hb d_Di_dropUnneeded_5 rfl (lv_at hl 2 rfl) ?_
  refine gy_get (ci := 2) (v := Value.ref (b 6)) (C := "CommitLedger$Directory") (T := F_Di) (N := 4) hx hb hts i_Di hown hK Y gF_5 rfl 0 (by decide) kf_Di_10 rfl d_Di_dropUnneeded_6 ?_
  obtain ⟨x31, X31, hF31, hf⟩ := gCi_el hf
  refine gy_callI (rm := { frames := 1, cells := 0, slots := 0, locals := 12 }) (ig := .invokevirtual 26) (av := [Value.ref (b 6)]) Y (fun ws h hS hw => K_Al_size l htr D tys z _ ws h hS t ht b X29 hw 6 (by decide) (gR.i x31, X31) hF31) (gx_invV (As := []) (rest := [Value.int i2_29]) hx hb hown hts km_Di_26 kI_Al_size kV_Al_size kc_Al_size (by decide) (show (parseMethodDescriptor y_Al_size.desc).map (fun d => d.parameters.length) = some 0 by decide +kernel) (gy_recv (ci := 3) hK Y rfl gF_6) rfl rfl d_Di_dropUnneeded_9) (gx_cw (z := 0) hts kc_Al_size kN_Al rfl rfl ⟨Nat.le_of_ble_eq_true rfl, Nat.le_of_ble_eq_true rfl⟩) hb hml hz hK hY hAz hA hl.1 (lv_room (Nat.le_of_ble_eq_true rfl)) d_Di_dropUnneeded_9 ⟨hC.rc0 (Nat.le_refl _), hC.rs0 (Nat.le_refl _)⟩ (fun H locs Y => ?_)
  refine lv_icmp_ge (tgt := 65) hx hb d_Di_dropUnneeded_12 (by decide) (fun c12_32 => ?_) (fun c12_32 => ?_)
  · replace hf := gp_t c12_32 hf
    refine lv_aload_n hx hb d_Di_dropUnneeded_65 rfl (lv_at hl 2 rfl) ?_
    refine gy_get (ci := 2) (v := Value.ref (b 6)) (C := "CommitLedger$Directory") (T := F_Di) (N := 4) hx hb hts i_Di hown hK Y gF_5 rfl 0 (by decide) kf_Di_10 rfl d_Di_dropUnneeded_66 ?_
    obtain ⟨x33, X33, hF33, hf⟩ := gCi_el hf
    refine gy_callI (rm := { frames := 1, cells := 0, slots := 0, locals := 12 }) (ig := .invokevirtual 26) (av := [Value.ref (b 6)]) Y (fun ws h hS hw => K_Al_size l htr D tys z _ ws h hS t ht b X31 hw 6 (by decide) (gR.i x33, X33) hF33) (gx_invV (As := []) (rest := []) hx hb hown hts km_Di_26 kI_Al_size kV_Al_size kc_Al_size (by decide) (show (parseMethodDescriptor y_Al_size.desc).map (fun d => d.parameters.length) = some 0 by decide +kernel) (gy_recv (ci := 3) hK Y rfl gF_6) rfl rfl d_Di_dropUnneeded_69) (gx_cw (z := 0) hts kc_Al_size kN_Al rfl rfl ⟨Nat.le_of_ble_eq_true rfl, Nat.le_of_ble_eq_true rfl⟩) hb hml hz hK hY hAz hA hl.1 (lv_room (Nat.le_of_ble_eq_true rfl)) d_Di_dropUnneeded_69 ⟨hC.rc0 (Nat.le_refl _), hC.rs0 (Nat.le_refl _)⟩ (fun H locs Y => ?_)
    refine lv_iconst (v := 1) hx hb d_Di_dropUnneeded_72 (by decide) ?_
    refine lv_isub hx hb d_Di_dropUnneeded_73 ?_
    refine lv_istore_n (lv' := [(2, Value.int (x33 - 1)), (1, Value.int i1_29), (0, Value.ref (b 5))]) hx hb d_Di_dropUnneeded_74 rfl hl (by decide) rfl (fun ls hl => ?_)
    replace hf := gU hf ho29
    refine gA_iter (fun s : gX × Int32 => s.1) (fun (s : gX × Int32) b ls => lv_has ls 4 [(2, Value.int s.2), (0, Value.ref (b 5)), (1, Value.int i1_29)]) ?_ gK (X33, x33 - 1) _ _ _ _ _ _ hf (lv_sub hl [0, 2, 1] rfl) (hC.mv Y) Y.rb
    rintro ⟨X34, i2_34⟩ u34 b H locs ls cells slots hf hl hC Y hk34 ho34
    have hl : lv_has ls 4 [(2, Value.int i2_34), (0, Value.ref (b 5)), (1, Value.int i1_29)] := hl
    have hC : gC X0 _ X34 b cells slots := hC
    have Y : gy D t b A s.heap X34 X34 H locs := Y
    have hf : f_Di_dropUnneeded_75 X34 i1_29 i2_34 = some u34 := hf
    unfold f_Di_dropUnneeded_75 at hf
    refine lv_iload_n hx hb d_Di_dropUnneeded_75 rfl (lv_at hl 0 rfl) ?_
    refine lv_iload_n hx hb d_Di_dropUnneeded_76 rfl (lv_at hl 2 rfl) ?_
    refine lv_icmp_lt (tgt := 95) hx hb d_Di_dropUnneeded_77 (by decide) (fun c77_35 => ?_) (fun c77_35 => ?_)
    · replace hf := gp_t c77_35 hf
      replace hf := gU hf ho34
      exact gA_vret hf hx hb hr hlocks hK hC Y d_Di_dropUnneeded_95
    · replace hf := gp_f c77_35 hf
      refine lv_aload_n hx hb d_Di_dropUnneeded_80 rfl (lv_at hl 1 rfl) ?_
      refine gy_get (ci := 2) (v := Value.ref (b 6)) (C := "CommitLedger$Directory") (T := F_Di) (N := 4) hx hb hts i_Di hown hK Y gF_5 rfl 0 (by decide) kf_Di_10 rfl d_Di_dropUnneeded_81 ?_
      refine lv_iload_n hx hb d_Di_dropUnneeded_84 rfl (lv_at hl 0 rfl) ?_
      obtain ⟨x36, X36, hF36, hf⟩ := gCa_el hf
      refine gy_callA (rm := { frames := 3, cells := 0, slots := 0, locals := 55 }) (ig := .invokevirtual 30) (av := [Value.ref (b 6), Value.int i2_34]) Y (fun ws h hS hw => K_Al_remove l htr D tys z _ ws h hS t ht b X34 hw 6 (by decide) i2_34 (gR.a x36, X36) hF36) (gx_invV (As := [Value.int i2_34]) (rest := []) hx hb hown hts km_Di_30 kI_Al_remove kV_Al_remove kc_Al_remove (by decide) (show (parseMethodDescriptor y_Al_remove.desc).map (fun d => d.parameters.length) = some 1 by decide +kernel) (gy_recv (ci := 3) hK Y rfl gF_6) rfl rfl d_Di_dropUnneeded_85) (gx_cw (z := 0) hts kc_Al_remove kN_Al rfl rfl ⟨Nat.le_of_ble_eq_true rfl, Nat.le_of_ble_eq_true rfl⟩) hb hml hz hK hY hAz hA hl.1 (lv_room (Nat.le_of_ble_eq_true rfl)) d_Di_dropUnneeded_85 ⟨hC.rc0 (Nat.le_refl _), hC.rs0 (Nat.le_refl _)⟩ (fun H locs Y => ?_)
      refine lv_pop hx hb d_Di_dropUnneeded_88 (by generalize Option.map b x36 = z9; cases z9 <;> rfl) ?_
      refine lv_iinc (v := i2_34 + (-1)) (lv' := [(2, Value.int (i2_34 + (-1))), (0, Value.ref (b 5)), (1, Value.int i1_29)]) hx hb d_Di_dropUnneeded_89 hl (k := 0) rfl (rfl) (by decide) rfl (fun ls hl => ?_)
      refine lv_goto (tgt := 75) hx hb d_Di_dropUnneeded_92 (by decide) ?_
      exact hk34 _ _ _ _ _ _ _ hf (lv_sub hl [0, 1, 2] rfl) (hC.mv Y) Y.rb
  · replace hf := gp_f c12_32 hf
    refine lv_aload_n hx hb d_Di_dropUnneeded_15 rfl (lv_at hl 2 rfl) ?_
    refine gy_get (ci := 2) (v := Value.ref (b 6)) (C := "CommitLedger$Directory") (T := F_Di) (N := 4) hx hb hts i_Di hown hK Y gF_5 rfl 0 (by decide) kf_Di_10 rfl d_Di_dropUnneeded_16 ?_
    refine lv_iload_n hx hb d_Di_dropUnneeded_19 rfl (lv_at hl 1 rfl) ?_
    obtain ⟨x37, X37, hF37, hf⟩ := gCa_el hf
    refine gy_callA (rm := { frames := 3, cells := 0, slots := 0, locals := 55 }) (ig := .invokevirtual 64) (av := [Value.ref (b 6), Value.int i2_29]) Y (fun ws h hS hw => K_Al_get l htr D tys z _ ws h hS t ht b X31 hw 6 (by decide) i2_29 (gR.a x37, X37) hF37) (gx_invV (As := [Value.int i2_29]) (rest := []) hx hb hown hts km_Di_64 kI_Al_get kV_Al_get kc_Al_get (by decide) (show (parseMethodDescriptor y_Al_get.desc).map (fun d => d.parameters.length) = some 1 by decide +kernel) (gy_recv (ci := 3) hK Y rfl gF_6) rfl rfl d_Di_dropUnneeded_20) (gx_cw (z := 0) hts kc_Al_get kN_Al rfl rfl ⟨Nat.le_of_ble_eq_true rfl, Nat.le_of_ble_eq_true rfl⟩) hb hml hz hK hY hAz hA hl.1 (lv_room (Nat.le_of_ble_eq_true rfl)) d_Di_dropUnneeded_20 ⟨hC.rc0 (Nat.le_refl _), hC.rs0 (Nat.le_refl _)⟩ (fun H locs Y => ?_)
    obtain ⟨n38, e38, hf⟩ := gM_el hf
    refine W.eq (g2 := F0 m 23 ls [Value.ref (b n38)]) (by rw [e38] <;> rfl) ?_
    obtain ⟨hv39, hf⟩ := gp_g hf
    refine va_castY (C := "CommitLedger$LedgerFile") hx hb hown (hts _ kk_Di_23) (va_Nw.of rfl (hts _ kW_FiFi)) (gy_recv (ci := 7) hK Y rfl (gF_Fi hv39)) d_Di_dropUnneeded_23 ?_
    refine lv_astore_n (lv' := [(3, Value.ref (b n38)), (1, Value.int i1_29), (2, Value.int i2_29), (0, Value.ref (b 5))]) hx hb d_Di_dropUnneeded_26 rfl hl (by decide) rfl (fun ls hl => ?_)
    refine lv_aload_n hx hb d_Di_dropUnneeded_27 rfl (lv_at hl 0 rfl) ?_
    refine gy_get (ci := 7) (v := Value.int (X37.I n38 3)) (C := "CommitLedger$LedgerFile") (T := F_Fi) (N := 7) hx hb hts i_Fi hown hK Y (gF_Fi hv39) rfl 3 (by decide) kf_Di_48 rfl d_Di_dropUnneeded_28 ?_
    refine lv_if_eq (tgt := 50) hx hb d_Di_dropUnneeded_31 (by decide) (fun c31_40 => ?_) (fun c31_40 => ?_)
    · replace hf := gp_t c31_40 hf
      refine lv_aload_n hx hb d_Di_dropUnneeded_50 rfl (lv_at hl 3 rfl) ?_
      refine gy_get (ci := 2) (v := Value.ref (b 7)) (C := "CommitLedger$Directory") (T := F_Di) (N := 4) hx hb hts i_Di hown hK Y gF_5 rfl 1 (by decide) kf_Di_16 rfl d_Di_dropUnneeded_51 ?_
      refine lv_aload_n hx hb d_Di_dropUnneeded_54 rfl (lv_at hl 0 rfl) ?_
      have hl : lv_has ls 4 [(1, Value.int i1_29), (2, Value.int i2_29), (0, Value.ref (b 5))] := lv_sub hl [1, 2, 3] rfl
      obtain ⟨x41, X41, hF41, hf⟩ := gCi_el hf
      refine gA_call (fr := 7) (lo := 176) (o1 := (gR.i x41, X41)) (ig := .invokevirtual 60) (av := [Value.ref (b 7), Value.ref (b n38)]) hC Y ⟨Nat.le_refl _, Nat.le_refl _⟩ (fun hc9 hs9 ws h hS hw => K_Al_add0 l htr D tys z _ ws h hS t ht b X37 hw 7 (by decide) (some n38) hc9 hs9 (gR.i x41, X41) hF41) (gx_invV (As := [Value.ref (b n38)]) (rest := []) hx hb hown hts km_Di_60 kI_Al_add0 kV_Al_add0 kc_Al_add0 (by decide) (show (parseMethodDescriptor y_Al_add0.desc).map (fun d => d.parameters.length) = some 1 by decide +kernel) (gy_recv (ci := 3) hK Y rfl gF_7) rfl rfl d_Di_dropUnneeded_55) (gx_cwA hts kc_Al_add0 kN_Al ⟨Nat.le_of_ble_eq_true rfl, Nat.le_of_ble_eq_true rfl⟩) hb hml hz hK hY hAz hA hl.1 (lv_room (Nat.le_of_ble_eq_true rfl)) d_Di_dropUnneeded_55 (fun vz9 b H locs cells slots e9 hb9 hC Y => ?_) (fun xz9 Ez9 ce b H locs cells slots e9 hce hC Y => ?_)
      rotate_left
      · have e9 : (Sum.inr Ez9 : Option Value ⊕ String) = Sum.inl (some (Value.int x41)) := e9
        cases e9
      have e9 : (Sum.inl vz9 : Option Value ⊕ String) = Sum.inl (some (Value.int x41)) := e9
      cases e9
      replace hl : lv_has ls 4 [(1, Value.int i1_29), (2, Value.int i2_29), (0, Value.ref (b 5))] := by rw [hb9 5 (gNm_s (by decide))]; exact hl
      refine W.eq (g2 := F0 m 58 ls [Value.int x41]) (by rfl) ?_
      refine lv_pop hx hb d_Di_dropUnneeded_58 rfl ?_
      exact J59 (X41, i1_29, i2_29) _ _ _ _ _ _ hf (lv_sub hl [0, 1, 2] rfl) (hC.mv Y) Y.rb
    · replace hf := gp_f c31_40 hf
      refine lv_aload_n hx hb d_Di_dropUnneeded_34 rfl (lv_at hl 3 rfl) ?_
      refine gy_get (ci := 2) (v := Value.ref (b 6)) (C := "CommitLedger$Directory") (T := F_Di) (N := 4) hx hb hts i_Di hown hK Y gF_5 rfl 0 (by decide) kf_Di_10 rfl d_Di_dropUnneeded_35 ?_
      refine lv_iload_n hx hb d_Di_dropUnneeded_38 rfl (lv_at hl 1 rfl) ?_
      refine lv_aload_n hx hb d_Di_dropUnneeded_39 rfl (lv_at hl 0 rfl) ?_
      obtain ⟨x42, X42, hF42, hf⟩ := gCa_el hf
      refine gy_callA (rm := { frames := 3, cells := 0, slots := 0, locals := 55 }) (ig := .invokevirtual 67) (av := [Value.ref (b 6), Value.int i1_29, Value.ref (b n38)]) Y (fun ws h hS hw => K_Al_set l htr D tys z _ ws h hS t ht b X37 hw 6 (by decide) i1_29 (some n38) (gR.a x42, X42) hF42) (gx_invV (As := [Value.int i1_29, Value.ref (b n38)]) (rest := []) hx hb hown hts km_Di_67 kI_Al_set kV_Al_set kc_Al_set (by decide) (show (parseMethodDescriptor y_Al_set.desc).map (fun d => d.parameters.length) = some 2 by decide +kernel) (gy_recv (ci := 3) hK Y rfl gF_6) rfl rfl d_Di_dropUnneeded_40) (gx_cw (z := 0) hts kc_Al_set kN_Al rfl rfl ⟨Nat.le_of_ble_eq_true rfl, Nat.le_of_ble_eq_true rfl⟩) hb hml hz hK hY hAz hA hl.1 (lv_room (Nat.le_of_ble_eq_true rfl)) d_Di_dropUnneeded_40 ⟨hC.rc0 (Nat.le_refl _), hC.rs0 (Nat.le_refl _)⟩ (fun H locs Y => ?_)
      refine lv_pop hx hb d_Di_dropUnneeded_43 (by generalize Option.map b x42 = z9; cases z9 <;> rfl) ?_
      refine lv_iinc (v := i1_29 + 1) (lv' := [(1, Value.int (i1_29 + 1)), (3, Value.ref (b n38)), (2, Value.int i2_29), (0, Value.ref (b 5))]) hx hb d_Di_dropUnneeded_44 hl (k := 1) rfl (rfl) (by decide) rfl (fun ls hl => ?_)
      refine lv_goto (tgt := 59) hx hb d_Di_dropUnneeded_47 (by decide) ?_
      exact J59 (X42, i1_29 + 1, i2_29) _ _ _ _ _ _ hf (lv_sub hl [0, 2, 3] rfl) (hC.mv Y) Y.rb

def f_Le_dropUnneededFiles_140 (X : gX) (i1 : Int32) : Option ((gX × Int32) ⊕ (gR × gX)) := some (Sum.inl (X, i1 + 1))
def f_Le_dropUnneededFiles_111 (X : gX) (i1 : Int32) : Option ((gX × Int32) ⊕ (gR × gX)) := (if (4 : Int32) ≤ i1 then gCv (f_Di_dropUnneeded X) (fun X10 => gLf (some (gR.v, X10))) else (if gIn i1 4 then (if (X.I (26 + 5 * gn i1) 2) = (0 : Int32) then f_Le_dropUnneededFiles_140 X i1 else (if gIn i1 4 then gCv (f_Vi_needSegments X ((26 + 5 * gn i1) + 1)) (fun X14 => f_Le_dropUnneededFiles_140 X14 i1) else none)) else none))
def f_Le_dropUnneededFiles_83 (X : gX) (i1 : Int32) : Option ((gX × Int32) ⊕ (gR × gX)) := (if (X.I 0 12) ≤ i1 then gLf (gI (fun s : gX × Int32 => f_Le_dropUnneededFiles_111 s.1 s.2) gK (X, 0)) else (if gIn i1 4 then gM (X.G 20 (gn i1)) (fun n22 => (if gMer n22 then gCv (f_Le_need X (X.G n22 3)) (fun X24 => some (Sum.inl (X24, i1 + 1))) else none)) else none))
def f_Le_dropUnneededFiles_81 (X : gX) : Option (gR × gX) := gI (fun s : gX × Int32 => f_Le_dropUnneededFiles_83 s.1 s.2) gK (X, 0)
def f_Le_dropUnneededFiles_60 (X : gX) : Option (gR × gX) := (if (X.I 0 7) = (0 : Int32) then f_Le_dropUnneededFiles_81 X else gCv (f_Vi_needSegments X 8) (fun X37 => gCv (f_Vi_needListsAndOwn X37 8) (fun X38 => f_Le_dropUnneededFiles_81 X38)))
def f_Le_dropUnneededFiles_39 (X : gX) : Option (gR × gX) := (if (X.I 0 8) = (0 : Int32) then f_Le_dropUnneededFiles_60 X else gM (X.G 0 6) (fun n39 => (if gVie n39 then gCv (f_Vi_needSegments X n39) (fun X41 => gM (X41.G 0 6) (fun n42 => (if gVie n42 then gCv (f_Vi_needListsAndOwn X41 n42) (fun X44 => f_Le_dropUnneededFiles_60 X44) else none))) else none)))
def f_Le_dropUnneededFiles (X0 : gX) : Option (gR × gX) := (if (X0.I 5 3) = (0 : Int32) then gCv (f_Di_needNone X0) (fun X2 => (if (X2.I 0 15) ≤ (0 : Int32) then f_Le_dropUnneededFiles_39 X2 else gM (X2.G 0 5) (fun n45 => (if gVie n45 then gCv (f_Vi_needSegments X2 n45) (fun X47 => gM (X47.G 0 5) (fun n48 => (if gVie n48 then gCv (f_Vi_needListsAndOwn X47 n48) (fun X50 => f_Le_dropUnneededFiles_39 X50) else none))) else none)))) else some (gR.v, X0))
set_option maxHeartbeats 4000000 in
set_option maxRecDepth 100000 in
theorem K_Le_dropUnneededFiles (l : Launch) (htr : l.stackTraces = false) (D : va_G) (tys : List (ClassId × FieldType)) (z sz : Nat) (ws : va_W) (h : gm_M) (hM : gm_S h ws) (t : Nat → ClassId) (ht : gTy t tys) (b : Nat → Nat) (X0 : gX) (hw : gw D t b X0 h) (hc0 : X0.cc ≤ gCL) (hs0 : X0.ss ≤ gSL) (o : gR × gX) (hf : f_Le_dropUnneededFiles X0 = some o) : gx_Met l y_Le_dropUnneededFiles [Cond.code y_Le_dropUnneededFiles b_Le_dropUnneededFiles 2 none] { frames := 9, cells := gCL + 1 - X0.cc, slots := gSL + 6 - X0.ss, locals := 220 } (gx_P z sz D classes tys ws [Value.ref (b 0)]) (gx_Q D classes tys (va_A ws sz) (gPoA D t b X0 o)) (o.2.cc + gT o.1 - X0.cc) (o.2.ss + 6 * gT o.1 - X0.ss) (va_A ws sz) := by
  refine gx_ofW (cc := b_Le_dropUnneededFiles) (maxL := 2) (ret := none) (by decide) rfl ?_
  intro p e s m args below meth c s₁ B hml hv
  obtain ⟨rfl, hsz, hz, hP, hK, hD0, hY⟩ := hv
  have hx := B.exec
  have hb := B.bytes
  have hr := B.returns
  have hts := hY.hts (#[Value.ref (b 0)] : Array Value)
  have hown : s.vm.findClass "CommitLedger" = some m.cls := findClass_of_methodNamed B.named
  have hlocks := B.notSynchronized
  subst hsz
  have hAz := gx_az hD0 hz
  have hD := hD0.self (sz := s.heap.size)
  have hA : ∀ q : Nat, s.heap.size ≤ q → va_A ws s.heap.size q := fun q h => Or.inr h
  generalize va_A ws s.heap.size = A at hD hA hAz ⊢
  have Y : gy D t b A s.heap X0 X0 s.heap [] := ⟨h, ⟨ws, hM, hP, hD, va_S.rf⟩, hw, gEq.rf⟩
  clear hP hD hM hD0 hw
  have hC : gC X0 b X0 b 0 0 := gC.rf hc0 hs0
  obtain ⟨ht0, ht1, ht2, ht3, ht4, ht5, ht6, ht7, ht8⟩ := id ht
  have hl := lv_entry ([Value.ref (b 0)]) (n := 2) (Nat.le_of_ble_eq_true rfl)
  rw [lg_entry_eq]
  generalize (lg_sl ([Value.ref (b 0)]) ++ List.replicate (2 - (lg_sl ([Value.ref (b 0)])).length) Slot.unset).toArray = ls at hl ⊢
  have hl : lv_has ls 2 [(0, Value.ref (b 0))] := hl
  refine gA_cut (pcJ := 81) hC Y (fun s : gX => f_Le_dropUnneededFiles_81 s) o (fun s => s) (fun s b ls => lv_has ls 2 [(0, Value.ref (b 0))]) (fun s b => []) ?_ (fun J81 => ?_)
  · rintro X51 b H locs ls cells slots hf hl hC Y
    have hl : lv_has ls 2 [(0, Value.ref (b 0))] := hl
    have hC : gC X0 _ X51 b cells slots := hC
    have Y : gy D t b A s.heap X51 X51 H locs := Y
    have hf : f_Le_dropUnneededFiles_81 X51 = some o := hf
    unfold f_Le_dropUnneededFiles_81 at hf
    refine lv_iconst (v := 0) hx hb d_Le_dropUnneededFiles_81 (by decide) ?_
    refine lv_istore_n (lv' := [(1, Value.int 0), (0, Value.ref (b 0))]) hx hb d_Le_dropUnneededFiles_82 rfl hl (by decide) rfl (fun ls hl => ?_)
    refine gA_iter (fun s : gX × Int32 => s.1) (fun (s : gX × Int32) b ls => lv_has ls 2 [(1, Value.int s.2), (0, Value.ref (b 0))]) ?_ gK (X51, 0) _ _ _ _ _ _ hf (lv_sub hl [0, 1] rfl) (hC.mv Y) Y.rb
    rintro ⟨X52, i1_52⟩ u52 b H locs ls cells slots hf hl hC Y hk52 ho52
    have hl : lv_has ls 2 [(1, Value.int i1_52), (0, Value.ref (b 0))] := hl
    have hC : gC X0 _ X52 b cells slots := hC
    have Y : gy D t b A s.heap X52 X52 H locs := Y
    have hf : f_Le_dropUnneededFiles_83 X52 i1_52 = some u52 := hf
    unfold f_Le_dropUnneededFiles_83 at hf
    refine lv_iload_n hx hb d_Le_dropUnneededFiles_83 rfl (lv_at hl 0 rfl) ?_
    refine lv_aload_n hx hb d_Le_dropUnneededFiles_84 rfl (lv_at hl 1 rfl) ?_
    refine gy_get (ci := 0) (v := Value.int (X52.I 0 12)) (C := "CommitLedger") (T := F_Le) (N := 18) hx hb hts i_Le hown hK Y gF_0 rfl 12 (by decide) kf_Le_142 rfl d_Le_dropUnneededFiles_85 ?_
    refine lv_icmp_ge (tgt := 109) hx hb d_Le_dropUnneededFiles_88 (by decide) (fun c88_53 => ?_) (fun c88_53 => ?_)
    · replace hf := gp_t c88_53 hf
      refine lv_iconst (v := 0) hx hb d_Le_dropUnneededFiles_109 (by decide) ?_
      refine lv_istore_n (lv' := [(1, Value.int 0), (0, Value.ref (b 0))]) hx hb d_Le_dropUnneededFiles_110 rfl hl (by decide) rfl (fun ls hl => ?_)
      replace hf := gU hf ho52
      refine gA_iter (fun s : gX × Int32 => s.1) (fun (s : gX × Int32) b ls => lv_has ls 2 [(1, Value.int s.2), (0, Value.ref (b 0))]) ?_ gK (X52, 0) _ _ _ _ _ _ hf (lv_sub hl [0, 1] rfl) (hC.mv Y) Y.rb
      rintro ⟨X54, i1_54⟩ u54 b H locs ls cells slots hf hl hC Y hk54 ho54
      have hl : lv_has ls 2 [(1, Value.int i1_54), (0, Value.ref (b 0))] := hl
      have hC : gC X0 _ X54 b cells slots := hC
      have Y : gy D t b A s.heap X54 X54 H locs := Y
      have hf : f_Le_dropUnneededFiles_111 X54 i1_54 = some u54 := hf
      refine gA_cut (pcJ := 140) hC Y (fun s : gX × Int32 => f_Le_dropUnneededFiles_140 s.1 s.2) u54 (fun s => s.1) (fun s b ls => lv_has ls 2 [(1, Value.int s.2), (0, Value.ref (b 0))]) (fun s b => []) ?_ (fun J140 => ?_)
      · rintro ⟨X55, i1_55⟩ b H locs ls cells slots hf hl hC Y
        have hl : lv_has ls 2 [(1, Value.int i1_55), (0, Value.ref (b 0))] := hl
        have hC : gC X0 _ X55 b cells slots := hC
        have Y : gy D t b A s.heap X55 X55 H locs := Y
        have hf : f_Le_dropUnneededFiles_140 X55 i1_55 = some u54 := hf
        unfold f_Le_dropUnneededFiles_140 at hf
        refine lv_iinc (v := i1_55 + 1) (lv' := [(1, Value.int (i1_55 + 1)), (0, Value.ref (b 0))]) hx hb d_Le_dropUnneededFiles_140 hl (k := 0) rfl (rfl) (by decide) rfl (fun ls hl => ?_)
        refine lv_goto (tgt := 111) hx hb d_Le_dropUnneededFiles_143 (by decide) ?_
        exact hk54 _ _ _ _ _ _ _ hf (lv_sub hl [0, 1] rfl) (hC.mv Y) Y.rb
      unfold f_Le_dropUnneededFiles_111 at hf
      refine lv_iload_n hx hb d_Le_dropUnneededFiles_111 rfl (lv_at hl 0 rfl) ?_
      refine lv_iconst (v := 4) hx hb d_Le_dropUnneededFiles_112 (by decide) ?_
      refine lv_icmp_ge (tgt := 146) hx hb d_Le_dropUnneededFiles_113 (by decide) (fun c113_56 => ?_) (fun c113_56 => ?_)
      · replace hf := gp_t c113_56 hf
        refine lv_aload_n hx hb d_Le_dropUnneededFiles_146 rfl (lv_at hl 1 rfl) ?_
        refine gy_get (ci := 0) (v := Value.ref (b 5)) (C := "CommitLedger") (T := F_Le) (N := 18) hx hb hts i_Le hown hK Y gF_0 rfl 1 (by decide) kf_Le_19 rfl d_Le_dropUnneededFiles_147 ?_
        have hl : lv_has ls 2 [] := lv_sub hl [] rfl
        obtain ⟨X57, hF57, hf⟩ := gCv_el hf
        refine gA_call (fr := 8) (lo := 197) (o1 := (gR.v, X57)) (ig := .invokevirtual 305) (av := [Value.ref (b 5)]) hC Y ⟨Nat.le_refl _, Nat.le_refl _⟩ (fun hc9 hs9 ws h hS hw => K_Di_dropUnneeded l htr D tys z _ ws h hS t ht b X54 hw hc9 hs9 (gR.v, X57) hF57) (gx_invV (As := []) (rest := []) hx hb hown hts km_Le_305 kI_Di_dropUnneeded kV_Di_dropUnneeded kc_Di_dropUnneeded (by decide) (show (parseMethodDescriptor y_Di_dropUnneeded.desc).map (fun d => d.parameters.length) = some 0 by decide +kernel) (gy_recv (ci := 2) hK Y rfl gF_5) rfl rfl d_Le_dropUnneededFiles_150) (gx_cwA hts kc_Di_dropUnneeded kN_Di ⟨Nat.le_of_ble_eq_true rfl, Nat.le_of_ble_eq_true rfl⟩) hb hml hz hK hY hAz hA hl.1 (lv_room (Nat.le_of_ble_eq_true rfl)) d_Le_dropUnneededFiles_150 (fun vz9 b H locs cells slots e9 hb9 hC Y => ?_) (fun xz9 Ez9 ce b H locs cells slots e9 hce hC Y => ?_)
        rotate_left
        · have e9 : (Sum.inr Ez9 : Option Value ⊕ String) = Sum.inl none := e9
          cases e9
        have e9 : (Sum.inl vz9 : Option Value ⊕ String) = Sum.inl none := e9
        cases e9
        replace hl : lv_has ls 2 [] := by exact hl
        refine W.eq (g2 := F0 m 153 ls []) (by rfl) ?_
        replace hf := gU hf ho54
        exact gA_vret hf hx hb hr hlocks hK hC Y d_Le_dropUnneededFiles_153
      · replace hf := gp_f c113_56 hf
        refine lv_aload_n hx hb d_Le_dropUnneededFiles_116 rfl (lv_at hl 1 rfl) ?_
        refine gy_get (ci := 0) (v := Value.ref (b 25)) (C := "CommitLedger") (T := F_Le) (N := 18) hx hb hts i_Le hown hK Y gF_0 rfl 4 (by decide) kf_Le_45 rfl d_Le_dropUnneededFiles_117 ?_
        refine lv_iload_n hx hb d_Le_dropUnneededFiles_120 rfl (lv_at hl 0 rfl) ?_
        refine gy_aalR hf hx hb hK Y 4 gF_25 ht4 d_Le_dropUnneededFiles_121 (fun hi58 hf => ?_)
        refine gy_get (ci := 6) (v := Value.int (X54.I (26 + 5 * gn i1_54) 2)) (C := "CommitLedger$Reader") (T := F_Re) (N := 3) hx hb hts i_Re hown hK Y (gF_Re (gRea_rd hi58)) rfl 2 (by decide) kf_Le_230 rfl d_Le_dropUnneededFiles_122 ?_
        refine lv_if_eq (tgt := 140) hx hb d_Le_dropUnneededFiles_125 (by decide) (fun c125_59 => ?_) (fun c125_59 => ?_)
        · replace hf := gp_t c125_59 hf
          exact J140 (X54, i1_54) _ _ _ _ _ _ hf (lv_sub hl [0, 1] rfl) (hC.mv Y) Y.rb
        · replace hf := gp_f c125_59 hf
          refine lv_aload_n hx hb d_Le_dropUnneededFiles_128 rfl (lv_at hl 1 rfl) ?_
          refine gy_get (ci := 0) (v := Value.ref (b 25)) (C := "CommitLedger") (T := F_Le) (N := 18) hx hb hts i_Le hown hK Y gF_0 rfl 4 (by decide) kf_Le_45 rfl d_Le_dropUnneededFiles_129 ?_
          refine lv_iload_n hx hb d_Le_dropUnneededFiles_132 rfl (lv_at hl 0 rfl) ?_
          refine gy_aalR hf hx hb hK Y 4 gF_25 ht4 d_Le_dropUnneededFiles_133 (fun hi60 hf => ?_)
          refine gy_get (ci := 6) (v := Value.ref (b ((26 + 5 * gn i1_54) + 1))) (C := "CommitLedger$Reader") (T := F_Re) (N := 3) hx hb hts i_Re hown hK Y (gF_Re (gRea_rd hi60)) rfl 0 (by decide) kf_Le_233 rfl d_Le_dropUnneededFiles_134 ?_
          obtain ⟨X61, hF61, hf⟩ := gCv_el hf
          refine gy_callV (rm := { frames := 2, cells := 0, slots := 0, locals := 32 }) (ig := .invokevirtual 382) (av := [Value.ref (b ((26 + 5 * gn i1_54) + 1))]) Y (fun ws h hS hw => K_Vi_needSegments l htr D tys z _ ws h hS t ht b X54 hw ((26 + 5 * gn i1_54) + 1) (gVie_re (gRea_rd hi60)) (gR.v, X61) hF61) (gx_invV (As := []) (rest := []) hx hb hown hts km_Le_382 kI_Vi_needSegments kV_Vi_needSegments kc_Vi_needSegments (by decide) (show (parseMethodDescriptor y_Vi_needSegments.desc).map (fun d => d.parameters.length) = some 0 by decide +kernel) (gy_recv (ci := 4) hK Y rfl (gF_Vi (gVie_re (gRea_rd hi60)))) rfl rfl d_Le_dropUnneededFiles_137) (gx_cw (z := 0) hts kc_Vi_needSegments kN_Vi rfl rfl ⟨Nat.le_of_ble_eq_true rfl, Nat.le_of_ble_eq_true rfl⟩) hb hml hz hK hY hAz hA hl.1 (lv_room (Nat.le_of_ble_eq_true rfl)) d_Le_dropUnneededFiles_137 ⟨hC.rc0 (Nat.le_refl _), hC.rs0 (Nat.le_refl _)⟩ (fun H locs Y => ?_)
          exact J140 (X61, i1_54) _ _ _ _ _ _ hf (lv_sub hl [0, 1] rfl) (hC.mv Y) Y.rb
    · replace hf := gp_f c88_53 hf
      refine lv_aload_n hx hb d_Le_dropUnneededFiles_91 rfl (lv_at hl 1 rfl) ?_
      refine gy_get (ci := 0) (v := Value.ref (b 20)) (C := "CommitLedger") (T := F_Le) (N := 18) hx hb hts i_Le hown hK Y gF_0 rfl 3 (by decide) kf_Le_38 rfl d_Le_dropUnneededFiles_92 ?_
      refine lv_iload_n hx hb d_Le_dropUnneededFiles_95 rfl (lv_at hl 0 rfl) ?_
      refine gy_aald hf hx hb hK Y 3 gF_20 ht3 d_Le_dropUnneededFiles_96 (fun hf => ?_)
      obtain ⟨n62, e62, hf⟩ := gM_el hf
      refine W.eq (g2 := F0 m 97 ls [Value.ref (b n62)]) (by rw [e62] <;> rfl) ?_
      obtain ⟨hv63, hf⟩ := gp_g hf
      refine gy_get (ci := 5) (v := va_rf (Option.map b (X52.G n62 3))) (C := "CommitLedger$Merge") (T := F_Me) (N := 4) hx hb hts i_Me hown hK Y (gF_Me hv63) rfl 3 (by decide) kf_Le_388 rfl d_Le_dropUnneededFiles_97 ?_
      obtain ⟨X64, hF64, hf⟩ := gCv_el hf
      refine gy_callV (rm := { frames := 1, cells := 0, slots := 0, locals := 12 }) (ig := .invokestatic 391) (av := [va_rf (Option.map b (X52.G n62 3))]) Y (fun ws h hS hw => K_Le_need l htr D tys z _ ws h hS t ht b X52 hw (X52.G n62 3) (gR.v, X64) hF64) (gx_invS (As := [va_rf (Option.map b (X52.G n62 3))]) (rest := []) hx hb hown hts km_Le_391 kS_Le_need kN_Le kc_Le_need (by decide) (show (parseMethodDescriptor y_Le_need.desc).map (fun d => d.parameters.length) = some 1 by decide +kernel) rfl rfl d_Le_dropUnneededFiles_100) (gx_cw (z := 0) hts kc_Le_need kN_Le rfl rfl ⟨Nat.le_of_ble_eq_true rfl, Nat.le_of_ble_eq_true rfl⟩) hb hml hz hK hY hAz hA hl.1 (lv_room (Nat.le_of_ble_eq_true rfl)) d_Le_dropUnneededFiles_100 ⟨hC.rc0 (Nat.le_refl _), hC.rs0 (Nat.le_refl _)⟩ (fun H locs Y => ?_)
      refine lv_iinc (v := i1_52 + 1) (lv' := [(1, Value.int (i1_52 + 1)), (0, Value.ref (b 0))]) hx hb d_Le_dropUnneededFiles_103 hl (k := 0) rfl (rfl) (by decide) rfl (fun ls hl => ?_)
      refine lv_goto (tgt := 83) hx hb d_Le_dropUnneededFiles_106 (by decide) ?_
      exact hk52 _ _ _ _ _ _ _ hf (lv_sub hl [0, 1] rfl) (hC.mv Y) Y.rb
  refine gA_cut (pcJ := 60) hC Y (fun s : gX => f_Le_dropUnneededFiles_60 s) o (fun s => s) (fun s b ls => lv_has ls 2 [(0, Value.ref (b 0))]) (fun s b => []) ?_ (fun J60 => ?_)
  · rintro X65 b H locs ls cells slots hf hl hC Y
    have hl : lv_has ls 2 [(0, Value.ref (b 0))] := hl
    have hC : gC X0 _ X65 b cells slots := hC
    have Y : gy D t b A s.heap X65 X65 H locs := Y
    have hf : f_Le_dropUnneededFiles_60 X65 = some o := hf
    unfold f_Le_dropUnneededFiles_60 at hf
    refine lv_aload_n hx hb d_Le_dropUnneededFiles_60 rfl (lv_at hl 0 rfl) ?_
    refine gy_get (ci := 0) (v := Value.int (X65.I 0 7)) (C := "CommitLedger") (T := F_Le) (N := 18) hx hb hts i_Le hown hK Y gF_0 rfl 7 (by decide) kf_Le_64 rfl d_Le_dropUnneededFiles_61 ?_
    refine lv_if_eq (tgt := 81) hx hb d_Le_dropUnneededFiles_64 (by decide) (fun c64_66 => ?_) (fun c64_66 => ?_)
    · replace hf := gp_t c64_66 hf
      exact J81 X65 _ _ _ _ _ _ hf (lv_sub hl [0] rfl) (hC.mv Y) Y.rb
    · replace hf := gp_f c64_66 hf
      refine lv_aload_n hx hb d_Le_dropUnneededFiles_67 rfl (lv_at hl 0 rfl) ?_
      refine gy_get (ci := 0) (v := Value.ref (b 8)) (C := "CommitLedger") (T := F_Le) (N := 18) hx hb hts i_Le hown hK Y gF_0 rfl 2 (by decide) kf_Le_26 rfl d_Le_dropUnneededFiles_68 ?_
      obtain ⟨X67, hF67, hf⟩ := gCv_el hf
      refine gy_callV (rm := { frames := 2, cells := 0, slots := 0, locals := 32 }) (ig := .invokevirtual 382) (av := [Value.ref (b 8)]) Y (fun ws h hS hw => K_Vi_needSegments l htr D tys z _ ws h hS t ht b X65 hw 8 (by decide) (gR.v, X67) hF67) (gx_invV (As := []) (rest := []) hx hb hown hts km_Le_382 kI_Vi_needSegments kV_Vi_needSegments kc_Vi_needSegments (by decide) (show (parseMethodDescriptor y_Vi_needSegments.desc).map (fun d => d.parameters.length) = some 0 by decide +kernel) (gy_recv (ci := 4) hK Y rfl gF_8) rfl rfl d_Le_dropUnneededFiles_71) (gx_cw (z := 0) hts kc_Vi_needSegments kN_Vi rfl rfl ⟨Nat.le_of_ble_eq_true rfl, Nat.le_of_ble_eq_true rfl⟩) hb hml hz hK hY hAz hA hl.1 (lv_room (Nat.le_of_ble_eq_true rfl)) d_Le_dropUnneededFiles_71 ⟨hC.rc0 (Nat.le_refl _), hC.rs0 (Nat.le_refl _)⟩ (fun H locs Y => ?_)
      refine lv_aload_n hx hb d_Le_dropUnneededFiles_74 rfl (lv_at hl 0 rfl) ?_
      refine gy_get (ci := 0) (v := Value.ref (b 8)) (C := "CommitLedger") (T := F_Le) (N := 18) hx hb hts i_Le hown hK Y gF_0 rfl 2 (by decide) kf_Le_26 rfl d_Le_dropUnneededFiles_75 ?_
      obtain ⟨X68, hF68, hf⟩ := gCv_el hf
      refine gy_callV (rm := { frames := 2, cells := 0, slots := 0, locals := 32 }) (ig := .invokevirtual 385) (av := [Value.ref (b 8)]) Y (fun ws h hS hw => K_Vi_needListsAndOwn l htr D tys z _ ws h hS t ht b X67 hw 8 (by decide) (gR.v, X68) hF68) (gx_invV (As := []) (rest := []) hx hb hown hts km_Le_385 kI_Vi_needListsAndOwn kV_Vi_needListsAndOwn kc_Vi_needListsAndOwn (by decide) (show (parseMethodDescriptor y_Vi_needListsAndOwn.desc).map (fun d => d.parameters.length) = some 0 by decide +kernel) (gy_recv (ci := 4) hK Y rfl gF_8) rfl rfl d_Le_dropUnneededFiles_78) (gx_cw (z := 0) hts kc_Vi_needListsAndOwn kN_Vi rfl rfl ⟨Nat.le_of_ble_eq_true rfl, Nat.le_of_ble_eq_true rfl⟩) hb hml hz hK hY hAz hA hl.1 (lv_room (Nat.le_of_ble_eq_true rfl)) d_Le_dropUnneededFiles_78 ⟨hC.rc0 (Nat.le_refl _), hC.rs0 (Nat.le_refl _)⟩ (fun H locs Y => ?_)
      exact J81 X68 _ _ _ _ _ _ hf (lv_sub hl [0] rfl) (hC.mv Y) Y.rb
  refine gA_cut (pcJ := 39) hC Y (fun s : gX => f_Le_dropUnneededFiles_39 s) o (fun s => s) (fun s b ls => lv_has ls 2 [(0, Value.ref (b 0))]) (fun s b => []) ?_ (fun J39 => ?_)
  · rintro X69 b H locs ls cells slots hf hl hC Y
    have hl : lv_has ls 2 [(0, Value.ref (b 0))] := hl
    have hC : gC X0 _ X69 b cells slots := hC
    have Y : gy D t b A s.heap X69 X69 H locs := Y
    have hf : f_Le_dropUnneededFiles_39 X69 = some o := hf
    unfold f_Le_dropUnneededFiles_39 at hf
    refine lv_aload_n hx hb d_Le_dropUnneededFiles_39 rfl (lv_at hl 0 rfl) ?_
    refine gy_get (ci := 0) (v := Value.int (X69.I 0 8)) (C := "CommitLedger") (T := F_Le) (N := 18) hx hb hts i_Le hown hK Y gF_0 rfl 8 (by decide) kf_Le_178 rfl d_Le_dropUnneededFiles_40 ?_
    refine lv_if_eq (tgt := 60) hx hb d_Le_dropUnneededFiles_43 (by decide) (fun c43_70 => ?_) (fun c43_70 => ?_)
    · replace hf := gp_t c43_70 hf
      exact J60 X69 _ _ _ _ _ _ hf (lv_sub hl [0] rfl) (hC.mv Y) Y.rb
    · replace hf := gp_f c43_70 hf
      refine lv_aload_n hx hb d_Le_dropUnneededFiles_46 rfl (lv_at hl 0 rfl) ?_
      refine gy_get (ci := 0) (v := va_rf (Option.map b (X69.G 0 6))) (C := "CommitLedger") (T := F_Le) (N := 18) hx hb hts i_Le hown hK Y gF_0 rfl 6 (by decide) kf_Le_33 rfl d_Le_dropUnneededFiles_47 ?_
      obtain ⟨n71, e71, hf⟩ := gM_el hf
      refine W.eq (g2 := F0 m 50 ls [Value.ref (b n71)]) (by rw [e71] <;> rfl) ?_
      obtain ⟨hv72, hf⟩ := gp_g hf
      obtain ⟨X73, hF73, hf⟩ := gCv_el hf
      refine gy_callV (rm := { frames := 2, cells := 0, slots := 0, locals := 32 }) (ig := .invokevirtual 382) (av := [Value.ref (b n71)]) Y (fun ws h hS hw => K_Vi_needSegments l htr D tys z _ ws h hS t ht b X69 hw n71 hv72 (gR.v, X73) hF73) (gx_invV (As := []) (rest := []) hx hb hown hts km_Le_382 kI_Vi_needSegments kV_Vi_needSegments kc_Vi_needSegments (by decide) (show (parseMethodDescriptor y_Vi_needSegments.desc).map (fun d => d.parameters.length) = some 0 by decide +kernel) (gy_recv (ci := 4) hK Y rfl (gF_Vi hv72)) rfl rfl d_Le_dropUnneededFiles_50) (gx_cw (z := 0) hts kc_Vi_needSegments kN_Vi rfl rfl ⟨Nat.le_of_ble_eq_true rfl, Nat.le_of_ble_eq_true rfl⟩) hb hml hz hK hY hAz hA hl.1 (lv_room (Nat.le_of_ble_eq_true rfl)) d_Le_dropUnneededFiles_50 ⟨hC.rc0 (Nat.le_refl _), hC.rs0 (Nat.le_refl _)⟩ (fun H locs Y => ?_)
      refine lv_aload_n hx hb d_Le_dropUnneededFiles_53 rfl (lv_at hl 0 rfl) ?_
      refine gy_get (ci := 0) (v := va_rf (Option.map b (X73.G 0 6))) (C := "CommitLedger") (T := F_Le) (N := 18) hx hb hts i_Le hown hK Y gF_0 rfl 6 (by decide) kf_Le_33 rfl d_Le_dropUnneededFiles_54 ?_
      obtain ⟨n74, e74, hf⟩ := gM_el hf
      refine W.eq (g2 := F0 m 57 ls [Value.ref (b n74)]) (by rw [e74] <;> rfl) ?_
      obtain ⟨hv75, hf⟩ := gp_g hf
      obtain ⟨X76, hF76, hf⟩ := gCv_el hf
      refine gy_callV (rm := { frames := 2, cells := 0, slots := 0, locals := 32 }) (ig := .invokevirtual 385) (av := [Value.ref (b n74)]) Y (fun ws h hS hw => K_Vi_needListsAndOwn l htr D tys z _ ws h hS t ht b X73 hw n74 hv75 (gR.v, X76) hF76) (gx_invV (As := []) (rest := []) hx hb hown hts km_Le_385 kI_Vi_needListsAndOwn kV_Vi_needListsAndOwn kc_Vi_needListsAndOwn (by decide) (show (parseMethodDescriptor y_Vi_needListsAndOwn.desc).map (fun d => d.parameters.length) = some 0 by decide +kernel) (gy_recv (ci := 4) hK Y rfl (gF_Vi hv75)) rfl rfl d_Le_dropUnneededFiles_57) (gx_cw (z := 0) hts kc_Vi_needListsAndOwn kN_Vi rfl rfl ⟨Nat.le_of_ble_eq_true rfl, Nat.le_of_ble_eq_true rfl⟩) hb hml hz hK hY hAz hA hl.1 (lv_room (Nat.le_of_ble_eq_true rfl)) d_Le_dropUnneededFiles_57 ⟨hC.rc0 (Nat.le_refl _), hC.rs0 (Nat.le_refl _)⟩ (fun H locs Y => ?_)
      exact J60 X76 _ _ _ _ _ _ hf (lv_sub hl [0] rfl) (hC.mv Y) Y.rb
  unfold f_Le_dropUnneededFiles at hf
  refine lv_aload_n hx hb d_Le_dropUnneededFiles_0 rfl (lv_at hl 0 rfl) ?_
  refine gy_get (ci := 0) (v := Value.ref (b 5)) (C := "CommitLedger") (T := F_Le) (N := 18) hx hb hts i_Le hown hK Y gF_0 rfl 1 (by decide) kf_Le_19 rfl d_Le_dropUnneededFiles_1 ?_
  refine gy_get (ci := 2) (v := Value.int (X0.I 5 3)) (C := "CommitLedger$Directory") (T := F_Di) (N := 4) hx hb hts i_Di hown hK Y gF_5 rfl 3 (by decide) kf_Le_100 rfl d_Le_dropUnneededFiles_4 ?_
  refine lv_if_eq (tgt := 11) hx hb d_Le_dropUnneededFiles_7 (by decide) (fun c7_77 => ?_) (fun c7_77 => ?_)
  · replace hf := gp_t c7_77 hf
    refine lv_aload_n hx hb d_Le_dropUnneededFiles_11 rfl (lv_at hl 0 rfl) ?_
    refine gy_get (ci := 0) (v := Value.ref (b 5)) (C := "CommitLedger") (T := F_Le) (N := 18) hx hb hts i_Le hown hK Y gF_0 rfl 1 (by decide) kf_Le_19 rfl d_Le_dropUnneededFiles_12 ?_
    obtain ⟨X78, hF78, hf⟩ := gCv_el hf
    refine gy_callV (rm := { frames := 4, cells := 0, slots := 0, locals := 76 }) (ig := .invokevirtual 379) (av := [Value.ref (b 5)]) Y (fun ws h hS hw => K_Di_needNone l htr D tys z _ ws h hS t ht b X0 hw (gR.v, X78) hF78) (gx_invV (As := []) (rest := []) hx hb hown hts km_Le_379 kI_Di_needNone kV_Di_needNone kc_Di_needNone (by decide) (show (parseMethodDescriptor y_Di_needNone.desc).map (fun d => d.parameters.length) = some 0 by decide +kernel) (gy_recv (ci := 2) hK Y rfl gF_5) rfl rfl d_Le_dropUnneededFiles_15) (gx_cw (z := 0) hts kc_Di_needNone kN_Di rfl rfl ⟨Nat.le_of_ble_eq_true rfl, Nat.le_of_ble_eq_true rfl⟩) hb hml hz hK hY hAz hA hl.1 (lv_room (Nat.le_of_ble_eq_true rfl)) d_Le_dropUnneededFiles_15 ⟨hC.rc0 (Nat.le_refl _), hC.rs0 (Nat.le_refl _)⟩ (fun H locs Y => ?_)
    refine lv_aload_n hx hb d_Le_dropUnneededFiles_18 rfl (lv_at hl 0 rfl) ?_
    refine gy_get (ci := 0) (v := Value.int (X78.I 0 15)) (C := "CommitLedger") (T := F_Le) (N := 18) hx hb hts i_Le hown hK Y gF_0 rfl 15 (by decide) kf_Le_84 rfl d_Le_dropUnneededFiles_19 ?_
    refine lv_if_le (tgt := 39) hx hb d_Le_dropUnneededFiles_22 (by decide) (fun c22_79 => ?_) (fun c22_79 => ?_)
    · replace hf := gp_t c22_79 hf
      exact J39 X78 _ _ _ _ _ _ hf (lv_sub hl [0] rfl) (hC.mv Y) Y.rb
    · replace hf := gp_f c22_79 hf
      refine lv_aload_n hx hb d_Le_dropUnneededFiles_25 rfl (lv_at hl 0 rfl) ?_
      refine gy_get (ci := 0) (v := va_rf (Option.map b (X78.G 0 5))) (C := "CommitLedger") (T := F_Le) (N := 18) hx hb hts i_Le hown hK Y gF_0 rfl 5 (by decide) kf_Le_30 rfl d_Le_dropUnneededFiles_26 ?_
      obtain ⟨n80, e80, hf⟩ := gM_el hf
      refine W.eq (g2 := F0 m 29 ls [Value.ref (b n80)]) (by rw [e80] <;> rfl) ?_
      obtain ⟨hv81, hf⟩ := gp_g hf
      obtain ⟨X82, hF82, hf⟩ := gCv_el hf
      refine gy_callV (rm := { frames := 2, cells := 0, slots := 0, locals := 32 }) (ig := .invokevirtual 382) (av := [Value.ref (b n80)]) Y (fun ws h hS hw => K_Vi_needSegments l htr D tys z _ ws h hS t ht b X78 hw n80 hv81 (gR.v, X82) hF82) (gx_invV (As := []) (rest := []) hx hb hown hts km_Le_382 kI_Vi_needSegments kV_Vi_needSegments kc_Vi_needSegments (by decide) (show (parseMethodDescriptor y_Vi_needSegments.desc).map (fun d => d.parameters.length) = some 0 by decide +kernel) (gy_recv (ci := 4) hK Y rfl (gF_Vi hv81)) rfl rfl d_Le_dropUnneededFiles_29) (gx_cw (z := 0) hts kc_Vi_needSegments kN_Vi rfl rfl ⟨Nat.le_of_ble_eq_true rfl, Nat.le_of_ble_eq_true rfl⟩) hb hml hz hK hY hAz hA hl.1 (lv_room (Nat.le_of_ble_eq_true rfl)) d_Le_dropUnneededFiles_29 ⟨hC.rc0 (Nat.le_refl _), hC.rs0 (Nat.le_refl _)⟩ (fun H locs Y => ?_)
      refine lv_aload_n hx hb d_Le_dropUnneededFiles_32 rfl (lv_at hl 0 rfl) ?_
      refine gy_get (ci := 0) (v := va_rf (Option.map b (X82.G 0 5))) (C := "CommitLedger") (T := F_Le) (N := 18) hx hb hts i_Le hown hK Y gF_0 rfl 5 (by decide) kf_Le_30 rfl d_Le_dropUnneededFiles_33 ?_
      obtain ⟨n83, e83, hf⟩ := gM_el hf
      refine W.eq (g2 := F0 m 36 ls [Value.ref (b n83)]) (by rw [e83] <;> rfl) ?_
      obtain ⟨hv84, hf⟩ := gp_g hf
      obtain ⟨X85, hF85, hf⟩ := gCv_el hf
      refine gy_callV (rm := { frames := 2, cells := 0, slots := 0, locals := 32 }) (ig := .invokevirtual 385) (av := [Value.ref (b n83)]) Y (fun ws h hS hw => K_Vi_needListsAndOwn l htr D tys z _ ws h hS t ht b X82 hw n83 hv84 (gR.v, X85) hF85) (gx_invV (As := []) (rest := []) hx hb hown hts km_Le_385 kI_Vi_needListsAndOwn kV_Vi_needListsAndOwn kc_Vi_needListsAndOwn (by decide) (show (parseMethodDescriptor y_Vi_needListsAndOwn.desc).map (fun d => d.parameters.length) = some 0 by decide +kernel) (gy_recv (ci := 4) hK Y rfl (gF_Vi hv84)) rfl rfl d_Le_dropUnneededFiles_36) (gx_cw (z := 0) hts kc_Vi_needListsAndOwn kN_Vi rfl rfl ⟨Nat.le_of_ble_eq_true rfl, Nat.le_of_ble_eq_true rfl⟩) hb hml hz hK hY hAz hA hl.1 (lv_room (Nat.le_of_ble_eq_true rfl)) d_Le_dropUnneededFiles_36 ⟨hC.rc0 (Nat.le_refl _), hC.rs0 (Nat.le_refl _)⟩ (fun H locs Y => ?_)
      exact J39 X85 _ _ _ _ _ _ hf (lv_sub hl [0] rfl) (hC.mv Y) Y.rb
  · replace hf := gp_f c7_77 hf
    exact gA_vret hf hx hb hr hlocks hK hC Y d_Le_dropUnneededFiles_10

def f_Le_losePower_11 (X : gX) (i1 : Int32) : Option ((gX × Int32) ⊕ (gR × gX)) := (if (4 : Int32) ≤ i1 then gCv (f_Di_needSynced X) (fun X5 => gCv (f_Di_dropUnneeded X5) (fun X6 => gB (X6.w 5 3 1) (fun X7 => gLf (some (gR.v, X7))))) else (if gIn i1 4 then gB (X.w (26 + 5 * gn i1) 2 0) (fun X9 => some (Sum.inl (X9, i1 + 1))) else none))
def f_Le_losePower (X0 : gX) : Option (gR × gX) := gB (X0.w 0 17 (-1)) (fun X1 => gCv (f_Le_forgetWriter X1) (fun X2 => gI (fun s : gX × Int32 => f_Le_losePower_11 s.1 s.2) gK (X2, 0)))
set_option maxHeartbeats 4000000 in
set_option maxRecDepth 100000 in
theorem K_Le_losePower (l : Launch) (htr : l.stackTraces = false) (D : va_G) (tys : List (ClassId × FieldType)) (z sz : Nat) (ws : va_W) (h : gm_M) (hM : gm_S h ws) (t : Nat → ClassId) (ht : gTy t tys) (b : Nat → Nat) (X0 : gX) (hw : gw D t b X0 h) (hc0 : X0.cc ≤ gCL) (hs0 : X0.ss ≤ gSL) (o : gR × gX) (hf : f_Le_losePower X0 = some o) : gx_Met l y_Le_losePower [Cond.code y_Le_losePower b_Le_losePower 2 none] { frames := 9, cells := gCL + 1 - X0.cc, slots := gSL + 6 - X0.ss, locals := 220 } (gx_P z sz D classes tys ws [Value.ref (b 0)]) (gx_Q D classes tys (va_A ws sz) (gPoA D t b X0 o)) (o.2.cc + gT o.1 - X0.cc) (o.2.ss + 6 * gT o.1 - X0.ss) (va_A ws sz) := by
  refine gx_ofW (cc := b_Le_losePower) (maxL := 2) (ret := none) (by decide) rfl ?_
  intro p e s m args below meth c s₁ B hml hv
  obtain ⟨rfl, hsz, hz, hP, hK, hD0, hY⟩ := hv
  have hx := B.exec
  have hb := B.bytes
  have hr := B.returns
  have hts := hY.hts (#[Value.ref (b 0)] : Array Value)
  have hown : s.vm.findClass "CommitLedger" = some m.cls := findClass_of_methodNamed B.named
  have hlocks := B.notSynchronized
  subst hsz
  have hAz := gx_az hD0 hz
  have hD := hD0.self (sz := s.heap.size)
  have hA : ∀ q : Nat, s.heap.size ≤ q → va_A ws s.heap.size q := fun q h => Or.inr h
  generalize va_A ws s.heap.size = A at hD hA hAz ⊢
  have Y : gy D t b A s.heap X0 X0 s.heap [] := ⟨h, ⟨ws, hM, hP, hD, va_S.rf⟩, hw, gEq.rf⟩
  clear hP hD hM hD0 hw
  have hC : gC X0 b X0 b 0 0 := gC.rf hc0 hs0
  obtain ⟨ht0, ht1, ht2, ht3, ht4, ht5, ht6, ht7, ht8⟩ := id ht
  have hl := lv_entry ([Value.ref (b 0)]) (n := 2) (Nat.le_of_ble_eq_true rfl)
  rw [lg_entry_eq]
  generalize (lg_sl ([Value.ref (b 0)]) ++ List.replicate (2 - (lg_sl ([Value.ref (b 0)])).length) Slot.unset).toArray = ls at hl ⊢
  have hl : lv_has ls 2 [(0, Value.ref (b 0))] := hl
  unfold f_Le_losePower at hf
  refine lv_aload_n hx hb d_Le_losePower_0 rfl (lv_at hl 0 rfl) ?_
  refine lv_iconst (v := (-1)) hx hb d_Le_losePower_1 (by decide) ?_
  refine gy_put hf (ci := 0) (ty := .int) (C := "CommitLedger") (T := F_Le) (N := 18) hx hb hts i_Le t_Le_ok n_Le hown hK Y gF_0 rfl (by decide) kf_Le_57 rfl (by decide +kernel) rfl rfl (Nat.le_of_ble_eq_true rfl) gF_0 d_Le_losePower_2 (fun X16 H locs hf Y => ?_)
  refine lv_aload_n hx hb d_Le_losePower_5 rfl (lv_at hl 0 rfl) ?_
  obtain ⟨X17, hF17, hf⟩ := gCv_el hf
  refine gy_callV (rm := { frames := 1, cells := 0, slots := 0, locals := 12 }) (ig := .invokevirtual 184) (av := [Value.ref (b 0)]) Y (fun ws h hS hw => K_Le_forgetWriter l htr D tys z _ ws h hS t ht b X16 hw (gR.v, X17) hF17) (gx_invV (As := []) (rest := []) hx hb hown hts km_Le_184 kI_Le_forgetWriter kV_Le_forgetWriter kc_Le_forgetWriter (by decide) (show (parseMethodDescriptor y_Le_forgetWriter.desc).map (fun d => d.parameters.length) = some 0 by decide +kernel) (gy_recv (ci := 0) hK Y rfl gF_0) rfl rfl d_Le_losePower_6) (gx_cw (z := 0) hts kc_Le_forgetWriter kN_Le rfl rfl ⟨Nat.le_of_ble_eq_true rfl, Nat.le_of_ble_eq_true rfl⟩) hb hml hz hK hY hAz hA hl.1 (lv_room (Nat.le_of_ble_eq_true rfl)) d_Le_losePower_6 ⟨hC.rc0 (Nat.le_refl _), hC.rs0 (Nat.le_refl _)⟩ (fun H locs Y => ?_)
  refine lv_iconst (v := 0) hx hb d_Le_losePower_9 (by decide) ?_
  refine lv_istore_n (lv' := [(1, Value.int 0), (0, Value.ref (b 0))]) hx hb d_Le_losePower_10 rfl hl (by decide) rfl (fun ls hl => ?_)
  refine gA_iter (fun s : gX × Int32 => s.1) (fun (s : gX × Int32) b ls => lv_has ls 2 [(1, Value.int s.2), (0, Value.ref (b 0))]) ?_ gK (X17, 0) _ _ _ _ _ _ hf (lv_sub hl [0, 1] rfl) (hC.mv Y) Y.rb
  rintro ⟨X18, i1_18⟩ u18 b H locs ls cells slots hf hl hC Y hk18 ho18
  have hl : lv_has ls 2 [(1, Value.int i1_18), (0, Value.ref (b 0))] := hl
  have hC : gC X0 _ X18 b cells slots := hC
  have Y : gy D t b A s.heap X18 X18 H locs := Y
  have hf : f_Le_losePower_11 X18 i1_18 = some u18 := hf
  unfold f_Le_losePower_11 at hf
  refine lv_iload_n hx hb d_Le_losePower_11 rfl (lv_at hl 0 rfl) ?_
  refine lv_iconst (v := 4) hx hb d_Le_losePower_12 (by decide) ?_
  refine lv_icmp_ge (tgt := 32) hx hb d_Le_losePower_13 (by decide) (fun c13_19 => ?_) (fun c13_19 => ?_)
  · replace hf := gp_t c13_19 hf
    refine lv_aload_n hx hb d_Le_losePower_32 rfl (lv_at hl 1 rfl) ?_
    refine gy_get (ci := 0) (v := Value.ref (b 5)) (C := "CommitLedger") (T := F_Le) (N := 18) hx hb hts i_Le hown hK Y gF_0 rfl 1 (by decide) kf_Le_19 rfl d_Le_losePower_33 ?_
    obtain ⟨X20, hF20, hf⟩ := gCv_el hf
    refine gy_callV (rm := { frames := 4, cells := 0, slots := 0, locals := 76 }) (ig := .invokevirtual 302) (av := [Value.ref (b 5)]) Y (fun ws h hS hw => K_Di_needSynced l htr D tys z _ ws h hS t ht b X18 hw (gR.v, X20) hF20) (gx_invV (As := []) (rest := []) hx hb hown hts km_Le_302 kI_Di_needSynced kV_Di_needSynced kc_Di_needSynced (by decide) (show (parseMethodDescriptor y_Di_needSynced.desc).map (fun d => d.parameters.length) = some 0 by decide +kernel) (gy_recv (ci := 2) hK Y rfl gF_5) rfl rfl d_Le_losePower_36) (gx_cw (z := 0) hts kc_Di_needSynced kN_Di rfl rfl ⟨Nat.le_of_ble_eq_true rfl, Nat.le_of_ble_eq_true rfl⟩) hb hml hz hK hY hAz hA hl.1 (lv_room (Nat.le_of_ble_eq_true rfl)) d_Le_losePower_36 ⟨hC.rc0 (Nat.le_refl _), hC.rs0 (Nat.le_refl _)⟩ (fun H locs Y => ?_)
    refine lv_aload_n hx hb d_Le_losePower_39 rfl (lv_at hl 1 rfl) ?_
    refine gy_get (ci := 0) (v := Value.ref (b 5)) (C := "CommitLedger") (T := F_Le) (N := 18) hx hb hts i_Le hown hK Y gF_0 rfl 1 (by decide) kf_Le_19 rfl d_Le_losePower_40 ?_
    have hl : lv_has ls 2 [(0, Value.ref (b 0))] := lv_sub hl [1] rfl
    obtain ⟨X21, hF21, hf⟩ := gCv_el hf
    refine gA_call (fr := 8) (lo := 197) (o1 := (gR.v, X21)) (ig := .invokevirtual 305) (av := [Value.ref (b 5)]) hC Y ⟨Nat.le_refl _, Nat.le_refl _⟩ (fun hc9 hs9 ws h hS hw => K_Di_dropUnneeded l htr D tys z _ ws h hS t ht b X20 hw hc9 hs9 (gR.v, X21) hF21) (gx_invV (As := []) (rest := []) hx hb hown hts km_Le_305 kI_Di_dropUnneeded kV_Di_dropUnneeded kc_Di_dropUnneeded (by decide) (show (parseMethodDescriptor y_Di_dropUnneeded.desc).map (fun d => d.parameters.length) = some 0 by decide +kernel) (gy_recv (ci := 2) hK Y rfl gF_5) rfl rfl d_Le_losePower_43) (gx_cwA hts kc_Di_dropUnneeded kN_Di ⟨Nat.le_of_ble_eq_true rfl, Nat.le_of_ble_eq_true rfl⟩) hb hml hz hK hY hAz hA hl.1 (lv_room (Nat.le_of_ble_eq_true rfl)) d_Le_losePower_43 (fun vz9 b H locs cells slots e9 hb9 hC Y => ?_) (fun xz9 Ez9 ce b H locs cells slots e9 hce hC Y => ?_)
    rotate_left
    · have e9 : (Sum.inr Ez9 : Option Value ⊕ String) = Sum.inl none := e9
      cases e9
    have e9 : (Sum.inl vz9 : Option Value ⊕ String) = Sum.inl none := e9
    cases e9
    replace hl : lv_has ls 2 [(0, Value.ref (b 0))] := by rw [hb9 0 (gNm_s (by decide))]; exact hl
    refine W.eq (g2 := F0 m 46 ls []) (by rfl) ?_
    refine lv_aload_n hx hb d_Le_losePower_46 rfl (lv_at hl 0 rfl) ?_
    refine gy_get (ci := 0) (v := Value.ref (b 5)) (C := "CommitLedger") (T := F_Le) (N := 18) hx hb hts i_Le hown hK Y gF_0 rfl 1 (by decide) kf_Le_19 rfl d_Le_losePower_47 ?_
    refine lv_iconst (v := 1) hx hb d_Le_losePower_50 (by decide) ?_
    refine gy_put hf (ci := 2) (ty := .boolean) (C := "CommitLedger$Directory") (T := F_Di) (N := 4) hx hb hts i_Di t_Di_ok n_Di hown hK Y gF_5 rfl (by decide) kf_Le_100 rfl (by decide +kernel) rfl rfl (Nat.le_of_ble_eq_true rfl) gF_5 d_Le_losePower_51 (fun X22 H locs hf Y => ?_)
    replace hf := gU hf ho18
    exact gA_vret hf hx hb hr hlocks hK hC Y d_Le_losePower_54
  · replace hf := gp_f c13_19 hf
    refine lv_aload_n hx hb d_Le_losePower_16 rfl (lv_at hl 1 rfl) ?_
    refine gy_get (ci := 0) (v := Value.ref (b 25)) (C := "CommitLedger") (T := F_Le) (N := 18) hx hb hts i_Le hown hK Y gF_0 rfl 4 (by decide) kf_Le_45 rfl d_Le_losePower_17 ?_
    refine lv_iload_n hx hb d_Le_losePower_20 rfl (lv_at hl 0 rfl) ?_
    refine gy_aalR hf hx hb hK Y 4 gF_25 ht4 d_Le_losePower_21 (fun hi23 hf => ?_)
    refine lv_iconst (v := 0) hx hb d_Le_losePower_22 (by decide) ?_
    refine gy_put hf (ci := 6) (ty := .boolean) (C := "CommitLedger$Reader") (T := F_Re) (N := 3) hx hb hts i_Re t_Re_ok n_Re hown hK Y (gF_Re (gRea_rd hi23)) rfl (by decide) kf_Le_230 rfl (by decide +kernel) rfl rfl (Nat.le_of_ble_eq_true rfl) (gF_Re (gRea_rd hi23)) d_Le_losePower_23 (fun X24 H locs hf Y => ?_)
    refine lv_iinc (v := i1_18 + 1) (lv' := [(1, Value.int (i1_18 + 1)), (0, Value.ref (b 0))]) hx hb d_Le_losePower_26 hl (k := 0) rfl (rfl) (by decide) rfl (fun ls hl => ?_)
    refine lv_goto (tgt := 11) hx hb d_Le_losePower_29 (by decide) ?_
    exact hk18 _ _ _ _ _ _ _ hf (lv_sub hl [0, 1] rfl) (hC.mv Y) Y.rb

def f_Le_act_39 (X : gX) : Option (gR × gX) := gB (X.w 0 16 ((X.I 0 16) + 1)) (fun X3 => some (gR.v, X3))
def f_Le_act (X0 : gX) : Option (gR × gX) := (if (X0.I 0 17) = (0 : Int32) then gCv (f_Le_losePower X0) (fun X5 => some (gR.t "java/lang/ArithmeticException", X5)) else (if (X0.I 0 17) ≤ (0 : Int32) then f_Le_act_39 X0 else gB (X0.w 0 17 ((X0.I 0 17) - 1)) (fun X4 => f_Le_act_39 X4)))
set_option maxHeartbeats 4000000 in
set_option maxRecDepth 100000 in
theorem K_Le_act (l : Launch) (htr : l.stackTraces = false) (D : va_G) (tys : List (ClassId × FieldType)) (z sz : Nat) (ws : va_W) (h : gm_M) (hM : gm_S h ws) (t : Nat → ClassId) (ht : gTy t tys) (b : Nat → Nat) (X0 : gX) (hw : gw D t b X0 h) (hc0 : X0.cc ≤ gCL) (hs0 : X0.ss ≤ gSL) (o : gR × gX) (hf : f_Le_act X0 = some o) : gx_Met l y_Le_act [Cond.code y_Le_act b_Le_act 1 none] { frames := 10, cells := gCL + 1 - X0.cc, slots := gSL + 6 - X0.ss, locals := 241 } (gx_P z sz D classes tys ws [Value.ref (b 0)]) (gx_Q D classes tys (va_A ws sz) (gPoA D t b X0 o)) (o.2.cc + gT o.1 - X0.cc) (o.2.ss + 6 * gT o.1 - X0.ss) (va_A ws sz) := by
  refine gx_ofW (cc := b_Le_act) (maxL := 1) (ret := none) (by decide) rfl ?_
  intro p e s m args below meth c s₁ B hml hv
  obtain ⟨rfl, hsz, hz, hP, hK, hD0, hY⟩ := hv
  have hx := B.exec
  have hb := B.bytes
  have hr := B.returns
  have hts := hY.hts (#[Value.ref (b 0)] : Array Value)
  have hown : s.vm.findClass "CommitLedger" = some m.cls := findClass_of_methodNamed B.named
  have hlocks := B.notSynchronized
  have hne : c.exceptionTable.isEmpty = true := B.noHandlers (atoms_spec (ws := [Cond.code y_Le_act b_Le_act 1 none]) B.pre _ List.mem_cons_self)
  have hN := gx_ns hP
  subst hsz
  have hAz := gx_az hD0 hz
  have hD := hD0.self (sz := s.heap.size)
  have hA : ∀ q : Nat, s.heap.size ≤ q → va_A ws s.heap.size q := fun q h => Or.inr h
  generalize va_A ws s.heap.size = A at hD hA hAz hN ⊢
  have Y : gy D t b A s.heap X0 X0 s.heap [] := ⟨h, ⟨ws, hM, hP, hD, va_S.rf⟩, hw, gEq.rf⟩
  clear hP hD hM hD0 hw
  have hC : gC X0 b X0 b 0 0 := gC.rf hc0 hs0
  obtain ⟨ht0, ht1, ht2, ht3, ht4, ht5, ht6, ht7, ht8⟩ := id ht
  have hl := lv_entry ([Value.ref (b 0)]) (n := 1) (Nat.le_of_ble_eq_true rfl)
  rw [lg_entry_eq]
  generalize (lg_sl ([Value.ref (b 0)]) ++ List.replicate (1 - (lg_sl ([Value.ref (b 0)])).length) Slot.unset).toArray = ls at hl ⊢
  have hl : lv_has ls 1 [(0, Value.ref (b 0))] := hl
  refine gA_cut (pcJ := 39) hC Y (fun s : gX => f_Le_act_39 s) o (fun s => s) (fun s b ls => lv_has ls 1 [(0, Value.ref (b 0))]) (fun s b => []) ?_ (fun J39 => ?_)
  · rintro X6 b H locs ls cells slots hf hl hC Y
    have hl : lv_has ls 1 [(0, Value.ref (b 0))] := hl
    have hC : gC X0 _ X6 b cells slots := hC
    have Y : gy D t b A s.heap X6 X6 H locs := Y
    have hf : f_Le_act_39 X6 = some o := hf
    unfold f_Le_act_39 at hf
    refine lv_aload_n hx hb d_Le_act_39 rfl (lv_at hl 0 rfl) ?_
    refine lv_dup hx hb d_Le_act_40 rfl ?_
    refine gy_get (ci := 0) (v := Value.int (X6.I 0 16)) (C := "CommitLedger") (T := F_Le) (N := 18) hx hb hts i_Le hown hK Y gF_0 rfl 16 (by decide) kf_Le_274 rfl d_Le_act_41 ?_
    refine lv_iconst (v := 1) hx hb d_Le_act_44 (by decide) ?_
    refine lv_iadd hx hb d_Le_act_45 ?_
    refine gy_put hf (ci := 0) (ty := .int) (C := "CommitLedger") (T := F_Le) (N := 18) hx hb hts i_Le t_Le_ok n_Le hown hK Y gF_0 rfl (by decide) kf_Le_274 rfl (by decide +kernel) rfl rfl (Nat.le_of_ble_eq_true rfl) gF_0 d_Le_act_46 (fun X7 H locs hf Y => ?_)
    exact gA_vret hf hx hb hr hlocks hK hC Y d_Le_act_49
  unfold f_Le_act at hf
  refine lv_aload_n hx hb d_Le_act_0 rfl (lv_at hl 0 rfl) ?_
  refine gy_get (ci := 0) (v := Value.int (X0.I 0 17)) (C := "CommitLedger") (T := F_Le) (N := 18) hx hb hts i_Le hown hK Y gF_0 rfl 17 (by decide) kf_Le_57 rfl d_Le_act_1 ?_
  refine lv_if_ne (tgt := 22) hx hb d_Le_act_4 (by decide) (fun c4_8 => ?_) (fun c4_8 => ?_)
  · replace hf := gp_f c4_8 hf
    refine lv_aload_n hx hb d_Le_act_22 rfl (lv_at hl 0 rfl) ?_
    refine gy_get (ci := 0) (v := Value.int (X0.I 0 17)) (C := "CommitLedger") (T := F_Le) (N := 18) hx hb hts i_Le hown hK Y gF_0 rfl 17 (by decide) kf_Le_57 rfl d_Le_act_23 ?_
    refine lv_if_le (tgt := 39) hx hb d_Le_act_26 (by decide) (fun c26_9 => ?_) (fun c26_9 => ?_)
    · replace hf := gp_t c26_9 hf
      exact J39 X0 _ _ _ _ _ _ hf (lv_sub hl [0] rfl) (hC.mv Y) Y.rb
    · replace hf := gp_f c26_9 hf
      refine lv_aload_n hx hb d_Le_act_29 rfl (lv_at hl 0 rfl) ?_
      refine lv_dup hx hb d_Le_act_30 rfl ?_
      refine gy_get (ci := 0) (v := Value.int (X0.I 0 17)) (C := "CommitLedger") (T := F_Le) (N := 18) hx hb hts i_Le hown hK Y gF_0 rfl 17 (by decide) kf_Le_57 rfl d_Le_act_31 ?_
      refine lv_iconst (v := 1) hx hb d_Le_act_34 (by decide) ?_
      refine lv_isub hx hb d_Le_act_35 ?_
      refine gy_put hf (ci := 0) (ty := .int) (C := "CommitLedger") (T := F_Le) (N := 18) hx hb hts i_Le t_Le_ok n_Le hown hK Y gF_0 rfl (by decide) kf_Le_57 rfl (by decide +kernel) rfl rfl (Nat.le_of_ble_eq_true rfl) gF_0 d_Le_act_36 (fun X10 H locs hf Y => ?_)
      exact J39 X10 _ _ _ _ _ _ hf (lv_sub hl [0] rfl) (hC.mv Y) Y.rb
  · replace hf := gp_t c4_8 hf
    refine lv_aload_n hx hb d_Le_act_7 rfl (lv_at hl 0 rfl) ?_
    have hl : lv_has ls 1 [] := lv_sub hl [] rfl
    obtain ⟨X11, hF11, hf⟩ := gCv_el hf
    refine gA_call (fr := 9) (lo := 220) (o1 := (gR.v, X11)) (ig := .invokevirtual 188) (av := [Value.ref (b 0)]) hC Y ⟨Nat.le_refl _, Nat.le_refl _⟩ (fun hc9 hs9 ws h hS hw => K_Le_losePower l htr D tys z _ ws h hS t ht b X0 hw hc9 hs9 (gR.v, X11) hF11) (gx_invV (As := []) (rest := []) hx hb hown hts km_Le_188 kI_Le_losePower kV_Le_losePower kc_Le_losePower (by decide) (show (parseMethodDescriptor y_Le_losePower.desc).map (fun d => d.parameters.length) = some 0 by decide +kernel) (gy_recv (ci := 0) hK Y rfl gF_0) rfl rfl d_Le_act_8) (gx_cwA hts kc_Le_losePower kN_Le ⟨Nat.le_of_ble_eq_true rfl, Nat.le_of_ble_eq_true rfl⟩) hb hml hz hK hY hAz hA hl.1 (lv_room (Nat.le_of_ble_eq_true rfl)) d_Le_act_8 (fun vz9 b H locs cells slots e9 hb9 hC Y => ?_) (fun xz9 Ez9 ce b H locs cells slots e9 hce hC Y => ?_)
    rotate_left
    · have e9 : (Sum.inr Ez9 : Option Value ⊕ String) = Sum.inl none := e9
      cases e9
    have e9 : (Sum.inl vz9 : Option Value ⊕ String) = Sum.inl none := e9
    cases e9
    replace hl : lv_has ls 1 [] := by exact hl
    refine W.eq (g2 := F0 m 11 ls []) (by rfl) ?_
    cases hf
    exact gA_thrw (i1 := 7) (b1 := prog_12_method_2_code) hx hb htr (hml.trans hl.1.symm) hown hts hne hlocks hK hC Y ⟨Nat.le_refl _, Nat.le_refl _⟩ hA hN kk_Le_297 kX_ArithmeticException kN_ArithmeticException ks_Le_299 kT_Le_301 (by decide) (by decide +kernel) (by decide +kernel) (by decide +kernel) (by decide +kernel) d_Le_act_11 d_Le_act_14 d_Le_act_15 d_Le_act_18 d_Le_act_21 (Nat.le_of_ble_eq_true rfl) (Nat.le_of_ble_eq_true rfl)

def f_Le_flushBuffer_64 (X : gX) : Option (gR × gX) := gB (X.w 0 9 (X.I 1 3)) (fun X3 => some (gR.v, X3))
def f_Le_flushBuffer (X0 : gX) : Option (gR × gX) := gCi (f_Vi_liveBetween X0 8 (X0.I 0 9) (X0.I 1 3)) (fun x1 X1 => (if x1 ≤ (0 : Int32) then f_Le_flushBuffer_64 X1 else gCvt (f_Le_act X1) (fun E X => some (gR.t E, X)) (fun X4 => gCi (f_Le_buffered X4) (fun x5 X5 => gCa (f_Di_newFile X5 x5) (fun x6 X6 => gM x6 (fun n7 => (if gFile X6.N n7 then gB (X6.w n7 5 (X6.I 0 9)) (fun X9 => gM x6 (fun n10 => (if gFile X9.N n10 then gB (X9.w n10 6 (X9.I 1 3)) (fun X12 => gCv (f_Vi_append X12 8 x6) (fun X13 => f_Le_flushBuffer_64 X13)) else none))) else none)))))))
set_option maxHeartbeats 4000000 in
set_option maxRecDepth 100000 in
theorem K_Le_flushBuffer (l : Launch) (htr : l.stackTraces = false) (D : va_G) (tys : List (ClassId × FieldType)) (z sz : Nat) (ws : va_W) (h : gm_M) (hM : gm_S h ws) (t : Nat → ClassId) (ht : gTy t tys) (b : Nat → Nat) (X0 : gX) (hw : gw D t b X0 h) (hc0 : X0.cc ≤ gCL) (hs0 : X0.ss ≤ gSL) (o : gR × gX) (hf : f_Le_flushBuffer X0 = some o) : gx_Met l y_Le_flushBuffer [Cond.code y_Le_flushBuffer b_Le_flushBuffer 2 none] { frames := 11, cells := gCL + 1 - X0.cc, slots := gSL + 6 - X0.ss, locals := 261 } (gx_P z sz D classes tys ws [Value.ref (b 0)]) (gx_Q D classes tys (va_A ws sz) (gPoA D t b X0 o)) (o.2.cc + gT o.1 - X0.cc) (o.2.ss + 6 * gT o.1 - X0.ss) (va_A ws sz) := by
  refine gx_ofW (cc := b_Le_flushBuffer) (maxL := 2) (ret := none) (by decide) rfl ?_
  intro p e s m args below meth c s₁ B hml hv
  obtain ⟨rfl, hsz, hz, hP, hK, hD0, hY⟩ := hv
  have hx := B.exec
  have hb := B.bytes
  have hr := B.returns
  have hts := hY.hts (#[Value.ref (b 0)] : Array Value)
  have hown : s.vm.findClass "CommitLedger" = some m.cls := findClass_of_methodNamed B.named
  have hlocks := B.notSynchronized
  have hne : c.exceptionTable.isEmpty = true := B.noHandlers (atoms_spec (ws := [Cond.code y_Le_flushBuffer b_Le_flushBuffer 2 none]) B.pre _ List.mem_cons_self)
  have hN := gx_ns hP
  subst hsz
  have hAz := gx_az hD0 hz
  have hD := hD0.self (sz := s.heap.size)
  have hA : ∀ q : Nat, s.heap.size ≤ q → va_A ws s.heap.size q := fun q h => Or.inr h
  generalize va_A ws s.heap.size = A at hD hA hAz hN ⊢
  have Y : gy D t b A s.heap X0 X0 s.heap [] := ⟨h, ⟨ws, hM, hP, hD, va_S.rf⟩, hw, gEq.rf⟩
  clear hP hD hM hD0 hw
  have hC : gC X0 b X0 b 0 0 := gC.rf hc0 hs0
  obtain ⟨ht0, ht1, ht2, ht3, ht4, ht5, ht6, ht7, ht8⟩ := id ht
  have hl := lv_entry ([Value.ref (b 0)]) (n := 2) (Nat.le_of_ble_eq_true rfl)
  rw [lg_entry_eq]
  generalize (lg_sl ([Value.ref (b 0)]) ++ List.replicate (2 - (lg_sl ([Value.ref (b 0)])).length) Slot.unset).toArray = ls at hl ⊢
  have hl : lv_has ls 2 [(0, Value.ref (b 0))] := hl
  refine gA_cut (pcJ := 64) hC Y (fun s : gX => f_Le_flushBuffer_64 s) o (fun s => s) (fun s b ls => lv_has ls 2 [(0, Value.ref (b 0))]) (fun s b => []) ?_ (fun J64 => ?_)
  · rintro X14 b H locs ls cells slots hf hl hC Y
    have hl : lv_has ls 2 [(0, Value.ref (b 0))] := hl
    have hC : gC X0 _ X14 b cells slots := hC
    have Y : gy D t b A s.heap X14 X14 H locs := Y
    have hf : f_Le_flushBuffer_64 X14 = some o := hf
    unfold f_Le_flushBuffer_64 at hf
    refine lv_aload_n hx hb d_Le_flushBuffer_64 rfl (lv_at hl 0 rfl) ?_
    refine lv_aload_n hx hb d_Le_flushBuffer_65 rfl (lv_at hl 0 rfl) ?_
    refine gy_get (ci := 0) (v := Value.ref (b 1)) (C := "CommitLedger") (T := F_Le) (N := 18) hx hb hts i_Le hown hK Y gF_0 rfl 0 (by decide) kf_Le_10 rfl d_Le_flushBuffer_66 ?_
    refine gy_get (ci := 1) (v := Value.int (X14.I 1 3)) (C := "CommitLedger$Entries") (T := F_En) (N := 4) hx hb hts i_En hown hK Y gF_1 rfl 3 (by decide) kf_Le_94 rfl d_Le_flushBuffer_69 ?_
    refine gy_put hf (ci := 0) (ty := .int) (C := "CommitLedger") (T := F_Le) (N := 18) hx hb hts i_Le t_Le_ok n_Le hown hK Y gF_0 rfl (by decide) kf_Le_97 rfl (by decide +kernel) rfl rfl (Nat.le_of_ble_eq_true rfl) gF_0 d_Le_flushBuffer_72 (fun X15 H locs hf Y => ?_)
    exact gA_vret hf hx hb hr hlocks hK hC Y d_Le_flushBuffer_75
  unfold f_Le_flushBuffer at hf
  refine lv_aload_n hx hb d_Le_flushBuffer_0 rfl (lv_at hl 0 rfl) ?_
  refine gy_get (ci := 0) (v := Value.ref (b 8)) (C := "CommitLedger") (T := F_Le) (N := 18) hx hb hts i_Le hown hK Y gF_0 rfl 2 (by decide) kf_Le_26 rfl d_Le_flushBuffer_1 ?_
  refine lv_aload_n hx hb d_Le_flushBuffer_4 rfl (lv_at hl 0 rfl) ?_
  refine gy_get (ci := 0) (v := Value.int (X0.I 0 9)) (C := "CommitLedger") (T := F_Le) (N := 18) hx hb hts i_Le hown hK Y gF_0 rfl 9 (by decide) kf_Le_97 rfl d_Le_flushBuffer_5 ?_
  refine lv_aload_n hx hb d_Le_flushBuffer_8 rfl (lv_at hl 0 rfl) ?_
  refine gy_get (ci := 0) (v := Value.ref (b 1)) (C := "CommitLedger") (T := F_Le) (N := 18) hx hb hts i_Le hown hK Y gF_0 rfl 0 (by decide) kf_Le_10 rfl d_Le_flushBuffer_9 ?_
  refine gy_get (ci := 1) (v := Value.int (X0.I 1 3)) (C := "CommitLedger$Entries") (T := F_En) (N := 4) hx hb hts i_En hown hK Y gF_1 rfl 3 (by decide) kf_Le_94 rfl d_Le_flushBuffer_12 ?_
  obtain ⟨x16, X16, hF16, hf⟩ := gCi_el hf
  refine gy_callI (rm := { frames := 1, cells := 0, slots := 0, locals := 12 }) (ig := .invokevirtual 246) (av := [Value.ref (b 8), Value.int (X0.I 0 9), Value.int (X0.I 1 3)]) Y (fun ws h hS hw => K_Vi_liveBetween l htr D tys z _ ws h hS t ht b X0 hw 8 (by decide) (X0.I 0 9) (X0.I 1 3) (gR.i x16, X16) hF16) (gx_invV (As := [Value.int (X0.I 0 9), Value.int (X0.I 1 3)]) (rest := []) hx hb hown hts km_Le_246 kI_Vi_liveBetween kV_Vi_liveBetween kc_Vi_liveBetween (by decide) (show (parseMethodDescriptor y_Vi_liveBetween.desc).map (fun d => d.parameters.length) = some 2 by decide +kernel) (gy_recv (ci := 4) hK Y rfl gF_8) rfl rfl d_Le_flushBuffer_15) (gx_cw (z := 0) hts kc_Vi_liveBetween kN_Vi rfl rfl ⟨Nat.le_of_ble_eq_true rfl, Nat.le_of_ble_eq_true rfl⟩) hb hml hz hK hY hAz hA hl.1 (lv_room (Nat.le_of_ble_eq_true rfl)) d_Le_flushBuffer_15 ⟨hC.rc0 (Nat.le_refl _), hC.rs0 (Nat.le_refl _)⟩ (fun H locs Y => ?_)
  refine lv_if_le (tgt := 64) hx hb d_Le_flushBuffer_18 (by decide) (fun c18_17 => ?_) (fun c18_17 => ?_)
  · replace hf := gp_t c18_17 hf
    exact J64 X16 _ _ _ _ _ _ hf (lv_sub hl [0] rfl) (hC.mv Y) Y.rb
  · replace hf := gp_f c18_17 hf
    refine lv_aload_n hx hb d_Le_flushBuffer_21 rfl (lv_at hl 0 rfl) ?_
    have hl : lv_has ls 2 [(0, Value.ref (b 0))] := lv_sub hl [0] rfl
    rcases gCvt_el hf with ⟨X18, hF18, hf⟩ | ⟨E18, X18, hF18, hf⟩
    rotate_left
    · cases hf
      refine gA_call (fr := 10) (lo := 241) (o1 := (gR.t E18, X18)) (ig := .invokevirtual 311) (av := [Value.ref (b 0)]) hC Y ⟨Nat.le_refl _, Nat.le_refl _⟩ (fun hc9 hs9 ws h hS hw => K_Le_act l htr D tys z _ ws h hS t ht b X16 hw hc9 hs9 (gR.t E18, X18) hF18) (gx_invV (As := []) (rest := []) hx hb hown hts km_Le_311 kI_Le_act kV_Le_act kc_Le_act (by decide) (show (parseMethodDescriptor y_Le_act.desc).map (fun d => d.parameters.length) = some 0 by decide +kernel) (gy_recv (ci := 0) hK Y rfl gF_0) rfl rfl d_Le_flushBuffer_22) (gx_cwA hts kc_Le_act kN_Le ⟨Nat.le_of_ble_eq_true rfl, Nat.le_of_ble_eq_true rfl⟩) hb hml hz hK hY hAz hA hl.1 (lv_room (Nat.le_of_ble_eq_true rfl)) d_Le_flushBuffer_22 (fun vz9 b H locs cells slots e9 hb9 hC Y => ?_) (fun xz9 Ez9 ce b H locs cells slots e9 hce hC Y => ?_)
      · have e9 : (Sum.inl vz9 : Option Value ⊕ String) = Sum.inr E18 := e9
        cases e9
      · have e9 : (Sum.inr Ez9 : Option Value ⊕ String) = Sum.inr E18 := e9
        cases e9
        exact gA_pass hne hlocks hce hK hC Y
    refine gA_call (fr := 10) (lo := 241) (o1 := (gR.v, X18)) (ig := .invokevirtual 311) (av := [Value.ref (b 0)]) hC Y ⟨Nat.le_refl _, Nat.le_refl _⟩ (fun hc9 hs9 ws h hS hw => K_Le_act l htr D tys z _ ws h hS t ht b X16 hw hc9 hs9 (gR.v, X18) hF18) (gx_invV (As := []) (rest := []) hx hb hown hts km_Le_311 kI_Le_act kV_Le_act kc_Le_act (by decide) (show (parseMethodDescriptor y_Le_act.desc).map (fun d => d.parameters.length) = some 0 by decide +kernel) (gy_recv (ci := 0) hK Y rfl gF_0) rfl rfl d_Le_flushBuffer_22) (gx_cwA hts kc_Le_act kN_Le ⟨Nat.le_of_ble_eq_true rfl, Nat.le_of_ble_eq_true rfl⟩) hb hml hz hK hY hAz hA hl.1 (lv_room (Nat.le_of_ble_eq_true rfl)) d_Le_flushBuffer_22 (fun vz9 b H locs cells slots e9 hb9 hC Y => ?_) (fun xz9 Ez9 ce b H locs cells slots e9 hce hC Y => ?_)
    rotate_left
    · have e9 : (Sum.inr Ez9 : Option Value ⊕ String) = Sum.inl none := e9
      cases e9
    have e9 : (Sum.inl vz9 : Option Value ⊕ String) = Sum.inl none := e9
    cases e9
    replace hl : lv_has ls 2 [(0, Value.ref (b 0))] := by rw [hb9 0 (gNm_s (by decide))]; exact hl
    refine W.eq (g2 := F0 m 25 ls []) (by rfl) ?_
    refine lv_aload_n hx hb d_Le_flushBuffer_25 rfl (lv_at hl 0 rfl) ?_
    refine gy_get (ci := 0) (v := Value.ref (b 5)) (C := "CommitLedger") (T := F_Le) (N := 18) hx hb hts i_Le hown hK Y gF_0 rfl 1 (by decide) kf_Le_19 rfl d_Le_flushBuffer_26 ?_
    refine lv_aload_n hx hb d_Le_flushBuffer_29 rfl (lv_at hl 0 rfl) ?_
    obtain ⟨x19, X19, hF19, hf⟩ := gCi_el hf
    refine gy_callI (rm := { frames := 1, cells := 0, slots := 0, locals := 12 }) (ig := .invokevirtual 124) (av := [Value.ref (b 0)]) Y (fun ws h hS hw => K_Le_buffered l htr D tys z _ ws h hS t ht b X18 hw (gR.i x19, X19) hF19) (gx_invV (As := []) (rest := [Value.ref (b 5)]) hx hb hown hts km_Le_124 kI_Le_buffered kV_Le_buffered kc_Le_buffered (by decide) (show (parseMethodDescriptor y_Le_buffered.desc).map (fun d => d.parameters.length) = some 0 by decide +kernel) (gy_recv (ci := 0) hK Y rfl gF_0) rfl rfl d_Le_flushBuffer_30) (gx_cw (z := 0) hts kc_Le_buffered kN_Le rfl rfl ⟨Nat.le_of_ble_eq_true rfl, Nat.le_of_ble_eq_true rfl⟩) hb hml hz hK hY hAz hA hl.1 (lv_room (Nat.le_of_ble_eq_true rfl)) d_Le_flushBuffer_30 ⟨hC.rc0 (Nat.le_refl _), hC.rs0 (Nat.le_refl _)⟩ (fun H locs Y => ?_)
    have hl : lv_has ls 2 [(0, Value.ref (b 0))] := lv_sub hl [0] rfl
    obtain ⟨x20, X20, hF20, hf⟩ := gCa_el hf
    refine gA_call (fr := 8) (lo := 197) (o1 := (gR.a x20, X20)) (ig := .invokevirtual 314) (av := [Value.ref (b 5), Value.int x19]) hC Y ⟨Nat.le_refl _, Nat.le_refl _⟩ (fun hc9 hs9 ws h hS hw => K_Di_newFile l htr D tys z _ ws h hS t ht b X19 hw x19 hc9 hs9 (gR.a x20, X20) hF20) (gx_invV (As := [Value.int x19]) (rest := []) hx hb hown hts km_Le_314 kI_Di_newFile kV_Di_newFile kc_Di_newFile (by decide) (show (parseMethodDescriptor y_Di_newFile.desc).map (fun d => d.parameters.length) = some 1 by decide +kernel) (gy_recv (ci := 2) hK Y rfl gF_5) rfl rfl d_Le_flushBuffer_33) (gx_cwA hts kc_Di_newFile kN_Di ⟨Nat.le_of_ble_eq_true rfl, Nat.le_of_ble_eq_true rfl⟩) hb hml hz hK hY hAz hA hl.1 (lv_room (Nat.le_of_ble_eq_true rfl)) d_Le_flushBuffer_33 (fun vz9 b H locs cells slots e9 hb9 hC Y => ?_) (fun xz9 Ez9 ce b H locs cells slots e9 hce hC Y => ?_)
    rotate_left
    · have e9 : (Sum.inr Ez9 : Option Value ⊕ String) = Sum.inl (some (va_rf (Option.map b x20))) := e9
      cases e9
    have e9 : (Sum.inl vz9 : Option Value ⊕ String) = Sum.inl (some (va_rf (Option.map b x20))) := e9
    cases e9
    replace hl : lv_has ls 2 [(0, Value.ref (b 0))] := by rw [hb9 0 (gNm_s (by decide))]; exact hl
    refine W.eq (g2 := F0 m 36 ls [va_rf (Option.map b x20)]) (by rfl) ?_
    refine lv_astore_nO (lv' := [(1, va_rf (Option.map b x20)), (0, Value.ref (b 0))]) hx hb d_Le_flushBuffer_36 rfl hl (by decide) rfl (fun ls hl => ?_)
    refine lv_aload_nO hx hb d_Le_flushBuffer_37 rfl (lv_at hl 0 rfl) ?_
    refine lv_aload_n hx hb d_Le_flushBuffer_38 rfl (lv_at hl 1 rfl) ?_
    refine gy_get (ci := 0) (v := Value.int (X20.I 0 9)) (C := "CommitLedger") (T := F_Le) (N := 18) hx hb hts i_Le hown hK Y gF_0 rfl 9 (by decide) kf_Le_97 rfl d_Le_flushBuffer_39 ?_
    obtain ⟨n21, e21, hf⟩ := gM_el hf
    refine W.eq (g2 := F0 m 42 ls [Value.int (X20.I 0 9), Value.ref (b n21)]) (by rw [e21] <;> rfl) ?_
    obtain ⟨hv22, hf⟩ := gp_g hf
    refine gy_put hf (ci := 7) (ty := .int) (C := "CommitLedger$LedgerFile") (T := F_Fi) (N := 7) hx hb hts i_Fi t_Fi_ok n_Fi hown hK Y (gF_Fi hv22) rfl (by decide) kf_Le_271 rfl (by decide +kernel) rfl rfl (Nat.le_of_ble_eq_true rfl) (gF_Fi hv22) d_Le_flushBuffer_42 (fun X23 H locs hf Y => ?_)
    refine lv_aload_nO hx hb d_Le_flushBuffer_45 rfl (lv_at hl 0 rfl) ?_
    refine lv_aload_n hx hb d_Le_flushBuffer_46 rfl (lv_at hl 1 rfl) ?_
    refine gy_get (ci := 0) (v := Value.ref (b 1)) (C := "CommitLedger") (T := F_Le) (N := 18) hx hb hts i_Le hown hK Y gF_0 rfl 0 (by decide) kf_Le_10 rfl d_Le_flushBuffer_47 ?_
    refine gy_get (ci := 1) (v := Value.int (X23.I 1 3)) (C := "CommitLedger$Entries") (T := F_En) (N := 4) hx hb hts i_En hown hK Y gF_1 rfl 3 (by decide) kf_Le_94 rfl d_Le_flushBuffer_50 ?_
    obtain ⟨n24, e24, hf⟩ := gM_el hf
    refine W.eq (g2 := F0 m 53 ls [Value.int (X23.I 1 3), Value.ref (b n24)]) (by rw [e24] <;> rfl) ?_
    obtain ⟨hv25, hf⟩ := gp_g hf
    refine gy_put hf (ci := 7) (ty := .int) (C := "CommitLedger$LedgerFile") (T := F_Fi) (N := 7) hx hb hts i_Fi t_Fi_ok n_Fi hown hK Y (gF_Fi hv25) rfl (by decide) kf_Le_317 rfl (by decide +kernel) rfl rfl (Nat.le_of_ble_eq_true rfl) (gF_Fi hv25) d_Le_flushBuffer_53 (fun X26 H locs hf Y => ?_)
    refine lv_aload_n hx hb d_Le_flushBuffer_56 rfl (lv_at hl 1 rfl) ?_
    refine gy_get (ci := 0) (v := Value.ref (b 8)) (C := "CommitLedger") (T := F_Le) (N := 18) hx hb hts i_Le hown hK Y gF_0 rfl 2 (by decide) kf_Le_26 rfl d_Le_flushBuffer_57 ?_
    refine lv_aload_nO hx hb d_Le_flushBuffer_60 rfl (lv_at hl 0 rfl) ?_
    obtain ⟨X27, hF27, hf⟩ := gCv_el hf
    refine gy_callV (rm := { frames := 2, cells := 0, slots := 0, locals := 35 }) (ig := .invokevirtual 320) (av := [Value.ref (b 8), va_rf (Option.map b x20)]) Y (fun ws h hS hw => K_Vi_append l htr D tys z _ ws h hS t ht b X26 hw 8 (by decide) x20 (gR.v, X27) hF27) (gx_invV (As := [va_rf (Option.map b x20)]) (rest := []) hx hb hown hts km_Le_320 kI_Vi_append kV_Vi_append kc_Vi_append (by decide) (show (parseMethodDescriptor y_Vi_append.desc).map (fun d => d.parameters.length) = some 1 by decide +kernel) (gy_recv (ci := 4) hK Y rfl gF_8) rfl rfl d_Le_flushBuffer_61) (gx_cw (z := 0) hts kc_Vi_append kN_Vi rfl rfl ⟨Nat.le_of_ble_eq_true rfl, Nat.le_of_ble_eq_true rfl⟩) hb hml hz hK hY hAz hA hl.1 (lv_room (Nat.le_of_ble_eq_true rfl)) d_Le_flushBuffer_61 ⟨hC.rc0 (Nat.le_refl _), hC.rs0 (Nat.le_refl _)⟩ (fun H locs Y => ?_)
    exact J64 X27 _ _ _ _ _ _ hf (lv_sub hl [1] rfl) (hC.mv Y) Y.rb

def f_Le_beginMerge (X0 : gX) (a1 : Int32) (a2 : Int32) : Option (gR × gX) := (if gIn a1 4096 then gM (X0.G 9 (gn a1)) (fun n1 => (if gFile X0.N n1 then (if gIn ((a1 + a2) - 1) 4096 then gM (X0.G 9 (gn ((a1 + a2) - 1))) (fun n3 => (if gFile X0.N n3 then gCvt (f_Le_act X0) (fun E X => some (gR.t E, X)) (fun X5 => gCi (f_Vi_liveBetween X5 8 (X0.I n1 5) (X0.I n3 6)) (fun x6 X6 => gCa (f_Di_newFile X6 x6) (fun x7 X7 => gCi (f_Vi_firstLive X7 8 (X0.I n1 5) (X0.I n3 6)) (fun x8 X8 => gM x7 (fun n9 => (if gFile X8.N n9 then gB (X8.w n9 5 x8) (fun X11 => gM x7 (fun n12 => (if gFile X11.N n12 then gB (X11.w n12 6 (X0.I n3 6)) (fun X14 => gB (X14.w 0 13 ((X14.I 0 13) + 1)) (fun X15 => (if gIn (X15.I 0 12) 4 then gM (X15.G 20 (gn (X15.I 0 12))) (fun n16 => (if gMer n16 then gCv (f_Me_begin X15 n16 (X15.I 0 13) (X0.I n1 5) (X0.I n3 6) x7) (fun X18 => gB (X18.w 0 12 ((X18.I 0 12) + 1)) (fun X19 => some (gR.i (X19.I 0 13), X19))) else none)) else none))) else none))) else none)))))) else none)) else none) else none)) else none)
set_option maxHeartbeats 4000000 in
set_option maxRecDepth 100000 in
theorem K_Le_beginMerge (l : Launch) (htr : l.stackTraces = false) (D : va_G) (tys : List (ClassId × FieldType)) (z sz : Nat) (ws : va_W) (h : gm_M) (hM : gm_S h ws) (t : Nat → ClassId) (ht : gTy t tys) (b : Nat → Nat) (X0 : gX) (hw : gw D t b X0 h) (a1 : Int32) (a2 : Int32) (hc0 : X0.cc ≤ gCL) (hs0 : X0.ss ≤ gSL) (o : gR × gX) (hf : f_Le_beginMerge X0 a1 a2 = some o) : gx_Met l y_Le_beginMerge [Cond.code y_Le_beginMerge b_Le_beginMerge 6 (some .int)] { frames := 11, cells := gCL + 1 - X0.cc, slots := gSL + 6 - X0.ss, locals := 261 } (gx_P z sz D classes tys ws [Value.ref (b 0), Value.int a1, Value.int a2]) (gx_Q D classes tys (va_A ws sz) (gPoA D t b X0 o)) (o.2.cc + gT o.1 - X0.cc) (o.2.ss + 6 * gT o.1 - X0.ss) (va_A ws sz) := by
  refine gx_ofW (cc := b_Le_beginMerge) (maxL := 6) (ret := (some .int)) (by decide) rfl ?_
  intro p e s m args below meth c s₁ B hml hv
  obtain ⟨rfl, hsz, hz, hP, hK, hD0, hY⟩ := hv
  have hx := B.exec
  have hb := B.bytes
  have hr := B.returns
  have hts := hY.hts (#[Value.ref (b 0), Value.int a1, Value.int a2] : Array Value)
  have hown : s.vm.findClass "CommitLedger" = some m.cls := findClass_of_methodNamed B.named
  have hlocks := B.notSynchronized
  have hne : c.exceptionTable.isEmpty = true := B.noHandlers (atoms_spec (ws := [Cond.code y_Le_beginMerge b_Le_beginMerge 6 (some .int)]) B.pre _ List.mem_cons_self)
  have hN := gx_ns hP
  subst hsz
  have hAz := gx_az hD0 hz
  have hD := hD0.self (sz := s.heap.size)
  have hA : ∀ q : Nat, s.heap.size ≤ q → va_A ws s.heap.size q := fun q h => Or.inr h
  generalize va_A ws s.heap.size = A at hD hA hAz hN ⊢
  have Y : gy D t b A s.heap X0 X0 s.heap [] := ⟨h, ⟨ws, hM, hP, hD, va_S.rf⟩, hw, gEq.rf⟩
  clear hP hD hM hD0 hw
  have hC : gC X0 b X0 b 0 0 := gC.rf hc0 hs0
  obtain ⟨ht0, ht1, ht2, ht3, ht4, ht5, ht6, ht7, ht8⟩ := id ht
  have hl := lv_entry ([Value.ref (b 0), Value.int a1, Value.int a2]) (n := 6) (Nat.le_of_ble_eq_true rfl)
  rw [lg_entry_eq]
  generalize (lg_sl ([Value.ref (b 0), Value.int a1, Value.int a2]) ++ List.replicate (6 - (lg_sl ([Value.ref (b 0), Value.int a1, Value.int a2])).length) Slot.unset).toArray = ls at hl ⊢
  have hl : lv_has ls 6 [(0, Value.ref (b 0)), (1, Value.int a1), (2, Value.int a2)] := hl
  unfold f_Le_beginMerge at hf
  refine lv_aload_n hx hb d_Le_beginMerge_0 rfl (lv_at hl 0 rfl) ?_
  refine gy_get (ci := 0) (v := Value.ref (b 8)) (C := "CommitLedger") (T := F_Le) (N := 18) hx hb hts i_Le hown hK Y gF_0 rfl 2 (by decide) kf_Le_26 rfl d_Le_beginMerge_1 ?_
  refine gy_get (ci := 4) (v := Value.ref (b 9)) (C := "CommitLedger$View") (T := F_Vi) (N := 6) hx hb hts i_Vi hown hK Y gF_8 rfl 0 (by decide) kf_Le_254 rfl d_Le_beginMerge_4 ?_
  refine lv_iload_n hx hb d_Le_beginMerge_7 rfl (lv_at hl 1 rfl) ?_
  refine gy_aald hf hx hb hK Y 2 gF_9 ht2 d_Le_beginMerge_8 (fun hf => ?_)
  obtain ⟨n20, e20, hf⟩ := gM_el hf
  refine W.eq (g2 := F0 m 9 ls [Value.ref (b n20)]) (by rw [e20] <;> rfl) ?_
  obtain ⟨hv21, hf⟩ := gp_g hf
  refine gy_get (ci := 7) (v := Value.int (X0.I n20 5)) (C := "CommitLedger$LedgerFile") (T := F_Fi) (N := 7) hx hb hts i_Fi hown hK Y (gF_Fi hv21) rfl 5 (by decide) kf_Le_271 rfl d_Le_beginMerge_9 ?_
  refine lv_istore_n (lv' := [(3, Value.int (X0.I n20 5)), (0, Value.ref (b 0)), (1, Value.int a1), (2, Value.int a2)]) hx hb d_Le_beginMerge_12 rfl hl (by decide) rfl (fun ls hl => ?_)
  refine lv_aload_n hx hb d_Le_beginMerge_13 rfl (lv_at hl 1 rfl) ?_
  refine gy_get (ci := 0) (v := Value.ref (b 8)) (C := "CommitLedger") (T := F_Le) (N := 18) hx hb hts i_Le hown hK Y gF_0 rfl 2 (by decide) kf_Le_26 rfl d_Le_beginMerge_14 ?_
  refine gy_get (ci := 4) (v := Value.ref (b 9)) (C := "CommitLedger$View") (T := F_Vi) (N := 6) hx hb hts i_Vi hown hK Y gF_8 rfl 0 (by decide) kf_Le_254 rfl d_Le_beginMerge_17 ?_
  refine lv_iload_n hx hb d_Le_beginMerge_20 rfl (lv_at hl 2 rfl) ?_
  refine lv_iload_n hx hb d_Le_beginMerge_21 rfl (lv_at hl 3 rfl) ?_
  refine lv_iadd hx hb d_Le_beginMerge_22 ?_
  refine lv_iconst (v := 1) hx hb d_Le_beginMerge_23 (by decide) ?_
  refine lv_isub hx hb d_Le_beginMerge_24 ?_
  refine gy_aald hf hx hb hK Y 2 gF_9 ht2 d_Le_beginMerge_25 (fun hf => ?_)
  obtain ⟨n22, e22, hf⟩ := gM_el hf
  refine W.eq (g2 := F0 m 26 ls [Value.ref (b n22)]) (by rw [e22] <;> rfl) ?_
  obtain ⟨hv23, hf⟩ := gp_g hf
  refine gy_get (ci := 7) (v := Value.int (X0.I n22 6)) (C := "CommitLedger$LedgerFile") (T := F_Fi) (N := 7) hx hb hts i_Fi hown hK Y (gF_Fi hv23) rfl 6 (by decide) kf_Le_317 rfl d_Le_beginMerge_26 ?_
  refine lv_istore (lv' := [(4, Value.int (X0.I n22 6)), (3, Value.int (X0.I n20 5)), (0, Value.ref (b 0)), (1, Value.int a1), (2, Value.int a2)]) hx hb d_Le_beginMerge_29 hl (by decide) rfl (fun ls hl => ?_)
  refine lv_aload_n hx hb d_Le_beginMerge_31 rfl (lv_at hl 2 rfl) ?_
  have hl : lv_has ls 6 [(4, Value.int (X0.I n22 6)), (3, Value.int (X0.I n20 5)), (0, Value.ref (b 0))] := lv_sub hl [0, 1, 2] rfl
  rcases gCvt_el hf with ⟨X24, hF24, hf⟩ | ⟨E24, X24, hF24, hf⟩
  rotate_left
  · cases hf
    refine gA_call (fr := 10) (lo := 241) (o1 := (gR.t E24, X24)) (ig := .invokevirtual 311) (av := [Value.ref (b 0)]) hC Y ⟨Nat.le_refl _, Nat.le_refl _⟩ (fun hc9 hs9 ws h hS hw => K_Le_act l htr D tys z _ ws h hS t ht b X0 hw hc9 hs9 (gR.t E24, X24) hF24) (gx_invV (As := []) (rest := []) hx hb hown hts km_Le_311 kI_Le_act kV_Le_act kc_Le_act (by decide) (show (parseMethodDescriptor y_Le_act.desc).map (fun d => d.parameters.length) = some 0 by decide +kernel) (gy_recv (ci := 0) hK Y rfl gF_0) rfl rfl d_Le_beginMerge_32) (gx_cwA hts kc_Le_act kN_Le ⟨Nat.le_of_ble_eq_true rfl, Nat.le_of_ble_eq_true rfl⟩) hb hml hz hK hY hAz hA hl.1 (lv_room (Nat.le_of_ble_eq_true rfl)) d_Le_beginMerge_32 (fun vz9 b H locs cells slots e9 hb9 hC Y => ?_) (fun xz9 Ez9 ce b H locs cells slots e9 hce hC Y => ?_)
    · have e9 : (Sum.inl vz9 : Option Value ⊕ String) = Sum.inr E24 := e9
      cases e9
    · have e9 : (Sum.inr Ez9 : Option Value ⊕ String) = Sum.inr E24 := e9
      cases e9
      exact gA_pass hne hlocks hce hK hC Y
  refine gA_call (fr := 10) (lo := 241) (o1 := (gR.v, X24)) (ig := .invokevirtual 311) (av := [Value.ref (b 0)]) hC Y ⟨Nat.le_refl _, Nat.le_refl _⟩ (fun hc9 hs9 ws h hS hw => K_Le_act l htr D tys z _ ws h hS t ht b X0 hw hc9 hs9 (gR.v, X24) hF24) (gx_invV (As := []) (rest := []) hx hb hown hts km_Le_311 kI_Le_act kV_Le_act kc_Le_act (by decide) (show (parseMethodDescriptor y_Le_act.desc).map (fun d => d.parameters.length) = some 0 by decide +kernel) (gy_recv (ci := 0) hK Y rfl gF_0) rfl rfl d_Le_beginMerge_32) (gx_cwA hts kc_Le_act kN_Le ⟨Nat.le_of_ble_eq_true rfl, Nat.le_of_ble_eq_true rfl⟩) hb hml hz hK hY hAz hA hl.1 (lv_room (Nat.le_of_ble_eq_true rfl)) d_Le_beginMerge_32 (fun vz9 b H locs cells slots e9 hb9 hC Y => ?_) (fun xz9 Ez9 ce b H locs cells slots e9 hce hC Y => ?_)
  rotate_left
  · have e9 : (Sum.inr Ez9 : Option Value ⊕ String) = Sum.inl none := e9
    cases e9
  have e9 : (Sum.inl vz9 : Option Value ⊕ String) = Sum.inl none := e9
  cases e9
  replace hl : lv_has ls 6 [(4, Value.int (X0.I n22 6)), (3, Value.int (X0.I n20 5)), (0, Value.ref (b 0))] := by rw [hb9 0 (gNm_s (by decide))]; exact hl
  refine W.eq (g2 := F0 m 35 ls []) (by rfl) ?_
  refine lv_aload_n hx hb d_Le_beginMerge_35 rfl (lv_at hl 2 rfl) ?_
  refine gy_get (ci := 0) (v := Value.ref (b 5)) (C := "CommitLedger") (T := F_Le) (N := 18) hx hb hts i_Le hown hK Y gF_0 rfl 1 (by decide) kf_Le_19 rfl d_Le_beginMerge_36 ?_
  refine lv_aload_n hx hb d_Le_beginMerge_39 rfl (lv_at hl 2 rfl) ?_
  refine gy_get (ci := 0) (v := Value.ref (b 8)) (C := "CommitLedger") (T := F_Le) (N := 18) hx hb hts i_Le hown hK Y gF_0 rfl 2 (by decide) kf_Le_26 rfl d_Le_beginMerge_40 ?_
  refine lv_iload_n hx hb d_Le_beginMerge_43 rfl (lv_at hl 1 rfl) ?_
  refine lv_iload hx hb d_Le_beginMerge_44 (lv_at hl 0 rfl) ?_
  obtain ⟨x25, X25, hF25, hf⟩ := gCi_el hf
  refine gy_callI (rm := { frames := 1, cells := 0, slots := 0, locals := 12 }) (ig := .invokevirtual 246) (av := [Value.ref (b 8), Value.int (X0.I n20 5), Value.int (X0.I n22 6)]) Y (fun ws h hS hw => K_Vi_liveBetween l htr D tys z _ ws h hS t ht b X24 hw 8 (by decide) (X0.I n20 5) (X0.I n22 6) (gR.i x25, X25) hF25) (gx_invV (As := [Value.int (X0.I n20 5), Value.int (X0.I n22 6)]) (rest := [Value.ref (b 5)]) hx hb hown hts km_Le_246 kI_Vi_liveBetween kV_Vi_liveBetween kc_Vi_liveBetween (by decide) (show (parseMethodDescriptor y_Vi_liveBetween.desc).map (fun d => d.parameters.length) = some 2 by decide +kernel) (gy_recv (ci := 4) hK Y rfl gF_8) rfl rfl d_Le_beginMerge_46) (gx_cw (z := 0) hts kc_Vi_liveBetween kN_Vi rfl rfl ⟨Nat.le_of_ble_eq_true rfl, Nat.le_of_ble_eq_true rfl⟩) hb hml hz hK hY hAz hA hl.1 (lv_room (Nat.le_of_ble_eq_true rfl)) d_Le_beginMerge_46 ⟨hC.rc0 (Nat.le_refl _), hC.rs0 (Nat.le_refl _)⟩ (fun H locs Y => ?_)
  have hl : lv_has ls 6 [(4, Value.int (X0.I n22 6)), (3, Value.int (X0.I n20 5)), (0, Value.ref (b 0))] := lv_sub hl [0, 1, 2] rfl
  obtain ⟨x26, X26, hF26, hf⟩ := gCa_el hf
  refine gA_call (fr := 8) (lo := 197) (o1 := (gR.a x26, X26)) (ig := .invokevirtual 314) (av := [Value.ref (b 5), Value.int x25]) hC Y ⟨Nat.le_refl _, Nat.le_refl _⟩ (fun hc9 hs9 ws h hS hw => K_Di_newFile l htr D tys z _ ws h hS t ht b X25 hw x25 hc9 hs9 (gR.a x26, X26) hF26) (gx_invV (As := [Value.int x25]) (rest := []) hx hb hown hts km_Le_314 kI_Di_newFile kV_Di_newFile kc_Di_newFile (by decide) (show (parseMethodDescriptor y_Di_newFile.desc).map (fun d => d.parameters.length) = some 1 by decide +kernel) (gy_recv (ci := 2) hK Y rfl gF_5) rfl rfl d_Le_beginMerge_49) (gx_cwA hts kc_Di_newFile kN_Di ⟨Nat.le_of_ble_eq_true rfl, Nat.le_of_ble_eq_true rfl⟩) hb hml hz hK hY hAz hA hl.1 (lv_room (Nat.le_of_ble_eq_true rfl)) d_Le_beginMerge_49 (fun vz9 b H locs cells slots e9 hb9 hC Y => ?_) (fun xz9 Ez9 ce b H locs cells slots e9 hce hC Y => ?_)
  rotate_left
  · have e9 : (Sum.inr Ez9 : Option Value ⊕ String) = Sum.inl (some (va_rf (Option.map b x26))) := e9
    cases e9
  have e9 : (Sum.inl vz9 : Option Value ⊕ String) = Sum.inl (some (va_rf (Option.map b x26))) := e9
  cases e9
  replace hl : lv_has ls 6 [(4, Value.int (X0.I n22 6)), (3, Value.int (X0.I n20 5)), (0, Value.ref (b 0))] := by rw [hb9 0 (gNm_s (by decide))]; exact hl
  refine W.eq (g2 := F0 m 52 ls [va_rf (Option.map b x26)]) (by rfl) ?_
  refine lv_astoreO (lv' := [(5, va_rf (Option.map b x26)), (4, Value.int (X0.I n22 6)), (3, Value.int (X0.I n20 5)), (0, Value.ref (b 0))]) hx hb d_Le_beginMerge_52 hl (by decide) rfl (fun ls hl => ?_)
  refine lv_aloadO hx hb d_Le_beginMerge_54 (lv_at hl 0 rfl) ?_
  refine lv_aload_n hx hb d_Le_beginMerge_56 rfl (lv_at hl 3 rfl) ?_
  refine gy_get (ci := 0) (v := Value.ref (b 8)) (C := "CommitLedger") (T := F_Le) (N := 18) hx hb hts i_Le hown hK Y gF_0 rfl 2 (by decide) kf_Le_26 rfl d_Le_beginMerge_57 ?_
  refine lv_iload_n hx hb d_Le_beginMerge_60 rfl (lv_at hl 2 rfl) ?_
  refine lv_iload hx hb d_Le_beginMerge_61 (lv_at hl 1 rfl) ?_
  obtain ⟨x27, X27, hF27, hf⟩ := gCi_el hf
  refine gy_callI (rm := { frames := 1, cells := 0, slots := 0, locals := 12 }) (ig := .invokevirtual 335) (av := [Value.ref (b 8), Value.int (X0.I n20 5), Value.int (X0.I n22 6)]) Y (fun ws h hS hw => K_Vi_firstLive l htr D tys z _ ws h hS t ht b X26 hw 8 (by decide) (X0.I n20 5) (X0.I n22 6) (gR.i x27, X27) hF27) (gx_invV (As := [Value.int (X0.I n20 5), Value.int (X0.I n22 6)]) (rest := [va_rf (Option.map b x26)]) hx hb hown hts km_Le_335 kI_Vi_firstLive kV_Vi_firstLive kc_Vi_firstLive (by decide) (show (parseMethodDescriptor y_Vi_firstLive.desc).map (fun d => d.parameters.length) = some 2 by decide +kernel) (gy_recv (ci := 4) hK Y rfl gF_8) rfl rfl d_Le_beginMerge_63) (gx_cw (z := 0) hts kc_Vi_firstLive kN_Vi rfl rfl ⟨Nat.le_of_ble_eq_true rfl, Nat.le_of_ble_eq_true rfl⟩) hb hml hz hK hY hAz hA hl.1 (by generalize Option.map b x26 = z9; cases z9 <;> exact lv_room (Nat.le_of_ble_eq_true rfl)) d_Le_beginMerge_63 ⟨hC.rc0 (Nat.le_refl _), hC.rs0 (Nat.le_refl _)⟩ (fun H locs Y => ?_)
  obtain ⟨n28, e28, hf⟩ := gM_el hf
  refine W.eq (g2 := F0 m 66 ls [Value.int x27, Value.ref (b n28)]) (by rw [e28] <;> rfl) ?_
  obtain ⟨hv29, hf⟩ := gp_g hf
  refine gy_put hf (ci := 7) (ty := .int) (C := "CommitLedger$LedgerFile") (T := F_Fi) (N := 7) hx hb hts i_Fi t_Fi_ok n_Fi hown hK Y (gF_Fi hv29) rfl (by decide) kf_Le_271 rfl (by decide +kernel) rfl rfl (Nat.le_of_ble_eq_true rfl) (gF_Fi hv29) d_Le_beginMerge_66 (fun X30 H locs hf Y => ?_)
  refine lv_aloadO hx hb d_Le_beginMerge_69 (lv_at hl 0 rfl) ?_
  refine lv_iload hx hb d_Le_beginMerge_71 (lv_at hl 1 rfl) ?_
  obtain ⟨n31, e31, hf⟩ := gM_el hf
  refine W.eq (g2 := F0 m 73 ls [Value.int (X0.I n22 6), Value.ref (b n31)]) (by rw [e31] <;> rfl) ?_
  obtain ⟨hv32, hf⟩ := gp_g hf
  refine gy_put hf (ci := 7) (ty := .int) (C := "CommitLedger$LedgerFile") (T := F_Fi) (N := 7) hx hb hts i_Fi t_Fi_ok n_Fi hown hK Y (gF_Fi hv32) rfl (by decide) kf_Le_317 rfl (by decide +kernel) rfl rfl (Nat.le_of_ble_eq_true rfl) (gF_Fi hv32) d_Le_beginMerge_73 (fun X33 H locs hf Y => ?_)
  refine lv_aload_n hx hb d_Le_beginMerge_76 rfl (lv_at hl 3 rfl) ?_
  refine lv_dup hx hb d_Le_beginMerge_77 rfl ?_
  refine gy_get (ci := 0) (v := Value.int (X33.I 0 13)) (C := "CommitLedger") (T := F_Le) (N := 18) hx hb hts i_Le hown hK Y gF_0 rfl 13 (by decide) kf_Le_338 rfl d_Le_beginMerge_78 ?_
  refine lv_iconst (v := 1) hx hb d_Le_beginMerge_81 (by decide) ?_
  refine lv_iadd hx hb d_Le_beginMerge_82 ?_
  refine gy_put hf (ci := 0) (ty := .int) (C := "CommitLedger") (T := F_Le) (N := 18) hx hb hts i_Le t_Le_ok n_Le hown hK Y gF_0 rfl (by decide) kf_Le_338 rfl (by decide +kernel) rfl rfl (Nat.le_of_ble_eq_true rfl) gF_0 d_Le_beginMerge_83 (fun X34 H locs hf Y => ?_)
  refine lv_aload_n hx hb d_Le_beginMerge_86 rfl (lv_at hl 3 rfl) ?_
  refine gy_get (ci := 0) (v := Value.ref (b 20)) (C := "CommitLedger") (T := F_Le) (N := 18) hx hb hts i_Le hown hK Y gF_0 rfl 3 (by decide) kf_Le_38 rfl d_Le_beginMerge_87 ?_
  refine lv_aload_n hx hb d_Le_beginMerge_90 rfl (lv_at hl 3 rfl) ?_
  refine gy_get (ci := 0) (v := Value.int (X34.I 0 12)) (C := "CommitLedger") (T := F_Le) (N := 18) hx hb hts i_Le hown hK Y gF_0 rfl 12 (by decide) kf_Le_142 rfl d_Le_beginMerge_91 ?_
  refine gy_aald hf hx hb hK Y 3 gF_20 ht3 d_Le_beginMerge_94 (fun hf => ?_)
  refine lv_aload_n hx hb d_Le_beginMerge_95 rfl (lv_at hl 3 rfl) ?_
  refine gy_get (ci := 0) (v := Value.int (X34.I 0 13)) (C := "CommitLedger") (T := F_Le) (N := 18) hx hb hts i_Le hown hK Y gF_0 rfl 13 (by decide) kf_Le_338 rfl d_Le_beginMerge_96 ?_
  refine lv_iload_n hx hb d_Le_beginMerge_99 rfl (lv_at hl 2 rfl) ?_
  refine lv_iload hx hb d_Le_beginMerge_100 (lv_at hl 1 rfl) ?_
  refine lv_aloadO hx hb d_Le_beginMerge_102 (lv_at hl 0 rfl) ?_
  obtain ⟨n35, e35, hf⟩ := gM_el hf
  refine W.eq (g2 := F0 m 104 ls [va_rf (Option.map b x26), Value.int (X0.I n22 6), Value.int (X0.I n20 5), Value.int (X34.I 0 13), Value.ref (b n35)]) (by rw [e35] <;> rfl) ?_
  obtain ⟨hv36, hf⟩ := gp_g hf
  obtain ⟨X37, hF37, hf⟩ := gCv_el hf
  refine gy_callV (rm := { frames := 1, cells := 0, slots := 0, locals := 12 }) (ig := .invokevirtual 341) (av := [Value.ref (b n35), Value.int (X34.I 0 13), Value.int (X0.I n20 5), Value.int (X0.I n22 6), va_rf (Option.map b x26)]) Y (fun ws h hS hw => K_Me_begin l htr D tys z _ ws h hS t ht b X34 hw n35 hv36 (X34.I 0 13) (X0.I n20 5) (X0.I n22 6) x26 (gR.v, X37) hF37) (gx_invV (As := [Value.int (X34.I 0 13), Value.int (X0.I n20 5), Value.int (X0.I n22 6), va_rf (Option.map b x26)]) (rest := []) hx hb hown hts km_Le_341 kI_Me_begin kV_Me_begin kc_Me_begin (by decide) (show (parseMethodDescriptor y_Me_begin.desc).map (fun d => d.parameters.length) = some 4 by decide +kernel) (gy_recv (ci := 5) hK Y rfl (gF_Me hv36)) rfl rfl d_Le_beginMerge_104) (gx_cw (z := 0) hts kc_Me_begin kN_Me rfl rfl ⟨Nat.le_of_ble_eq_true rfl, Nat.le_of_ble_eq_true rfl⟩) hb hml hz hK hY hAz hA hl.1 (lv_room (Nat.le_of_ble_eq_true rfl)) d_Le_beginMerge_104 ⟨hC.rc0 (Nat.le_refl _), hC.rs0 (Nat.le_refl _)⟩ (fun H locs Y => ?_)
  refine lv_aload_n hx hb d_Le_beginMerge_107 rfl (lv_at hl 3 rfl) ?_
  refine lv_dup hx hb d_Le_beginMerge_108 rfl ?_
  refine gy_get (ci := 0) (v := Value.int (X37.I 0 12)) (C := "CommitLedger") (T := F_Le) (N := 18) hx hb hts i_Le hown hK Y gF_0 rfl 12 (by decide) kf_Le_142 rfl d_Le_beginMerge_109 ?_
  refine lv_iconst (v := 1) hx hb d_Le_beginMerge_112 (by decide) ?_
  refine lv_iadd hx hb d_Le_beginMerge_113 ?_
  refine gy_put hf (ci := 0) (ty := .int) (C := "CommitLedger") (T := F_Le) (N := 18) hx hb hts i_Le t_Le_ok n_Le hown hK Y gF_0 rfl (by decide) kf_Le_142 rfl (by decide +kernel) rfl rfl (Nat.le_of_ble_eq_true rfl) gF_0 d_Le_beginMerge_114 (fun X38 H locs hf Y => ?_)
  refine lv_aload_n hx hb d_Le_beginMerge_117 rfl (lv_at hl 3 rfl) ?_
  refine gy_get (ci := 0) (v := Value.int (X38.I 0 13)) (C := "CommitLedger") (T := F_Le) (N := 18) hx hb hts i_Le hown hK Y gF_0 rfl 13 (by decide) kf_Le_338 rfl d_Le_beginMerge_118 ?_
  exact gA_iret hf hx hb hr hlocks hK hC Y d_Le_beginMerge_121

def f_Le_endMerge_22 (X : gX) (o3 : Option Nat) (i4 : Int32) : Option ((gX × Int32) ⊕ (gR × gX)) := (if ((X.I 0 12) - 1) ≤ i4 then (if gIn ((X.I 0 12) - 1) 4 then (if gOm o3 then gB (X.g 20 (gn ((X.I 0 12) - 1)) o3) (fun X4 => gB (X4.w 0 12 ((X4.I 0 12) - 1)) (fun X5 => gCv (f_Le_dropDeadSegments X5) (fun X6 => gCv (f_Le_dropUnneededFiles X6) (fun X7 => gLf (some (gR.v, X7)))))) else none) else none) else (if gIn (i4 + 1) 4 then (if gIn i4 4 then (if gOm (X.G 20 (gn (i4 + 1))) then gB (X.g 20 (gn i4) (X.G 20 (gn (i4 + 1)))) (fun X8 => some (Sum.inl (X8, i4 + 1))) else none) else none) else none))
def f_Le_endMerge_19 (X : gX) (i1 : Int32) (o3 : Option Nat) : Option (gR × gX) := gI (fun s : gX × Int32 => f_Le_endMerge_22 s.1 o3 s.2) gK (X, i1)
def f_Le_endMerge (X0 : gX) (a1 : Int32) (a2 : Int32) : Option (gR × gX) := (if gIn a1 4 then (if a2 = (0 : Int32) then f_Le_endMerge_19 X0 a1 (X0.G 20 (gn a1)) else gM (X0.G 20 (gn a1)) (fun n15 => (if gMer n15 then gCv (f_Vi_replaceMerged X0 8 n15) (fun X17 => f_Le_endMerge_19 X17 a1 (X0.G 20 (gn a1))) else none))) else none)
set_option maxHeartbeats 4000000 in
set_option maxRecDepth 100000 in
theorem K_Le_endMerge (l : Launch) (htr : l.stackTraces = false) (D : va_G) (tys : List (ClassId × FieldType)) (z sz : Nat) (ws : va_W) (h : gm_M) (hM : gm_S h ws) (t : Nat → ClassId) (ht : gTy t tys) (b : Nat → Nat) (X0 : gX) (hw : gw D t b X0 h) (a1 : Int32) (a2 : Int32) (hc0 : X0.cc ≤ gCL) (hs0 : X0.ss ≤ gSL) (o : gR × gX) (hf : f_Le_endMerge X0 a1 a2 = some o) : gx_Met l y_Le_endMerge [Cond.code y_Le_endMerge b_Le_endMerge 5 none] { frames := 10, cells := gCL + 1 - X0.cc, slots := gSL + 6 - X0.ss, locals := 241 } (gx_P z sz D classes tys ws [Value.ref (b 0), Value.int a1, Value.int a2]) (gx_Q D classes tys (va_A ws sz) (gPoA D t b X0 o)) (o.2.cc + gT o.1 - X0.cc) (o.2.ss + 6 * gT o.1 - X0.ss) (va_A ws sz) := by
  refine gx_ofW (cc := b_Le_endMerge) (maxL := 5) (ret := none) (by decide) rfl ?_
  intro p e s m args below meth c s₁ B hml hv
  obtain ⟨rfl, hsz, hz, hP, hK, hD0, hY⟩ := hv
  have hx := B.exec
  have hb := B.bytes
  have hr := B.returns
  have hts := hY.hts (#[Value.ref (b 0), Value.int a1, Value.int a2] : Array Value)
  have hown : s.vm.findClass "CommitLedger" = some m.cls := findClass_of_methodNamed B.named
  have hlocks := B.notSynchronized
  subst hsz
  have hAz := gx_az hD0 hz
  have hD := hD0.self (sz := s.heap.size)
  have hA : ∀ q : Nat, s.heap.size ≤ q → va_A ws s.heap.size q := fun q h => Or.inr h
  generalize va_A ws s.heap.size = A at hD hA hAz ⊢
  have Y : gy D t b A s.heap X0 X0 s.heap [] := ⟨h, ⟨ws, hM, hP, hD, va_S.rf⟩, hw, gEq.rf⟩
  clear hP hD hM hD0 hw
  have hC : gC X0 b X0 b 0 0 := gC.rf hc0 hs0
  obtain ⟨ht0, ht1, ht2, ht3, ht4, ht5, ht6, ht7, ht8⟩ := id ht
  have hl := lv_entry ([Value.ref (b 0), Value.int a1, Value.int a2]) (n := 5) (Nat.le_of_ble_eq_true rfl)
  rw [lg_entry_eq]
  generalize (lg_sl ([Value.ref (b 0), Value.int a1, Value.int a2]) ++ List.replicate (5 - (lg_sl ([Value.ref (b 0), Value.int a1, Value.int a2])).length) Slot.unset).toArray = ls at hl ⊢
  have hl : lv_has ls 5 [(0, Value.ref (b 0)), (1, Value.int a1), (2, Value.int a2)] := hl
  refine gA_cut (pcJ := 19) hC Y (fun s : gX × Option Nat => f_Le_endMerge_19 s.1 a1 s.2) o (fun s => s.1) (fun s b ls => lv_has ls 5 [(3, va_rf (Option.map b s.2)), (0, Value.ref (b 0)), (1, Value.int a1)]) (fun s b => []) ?_ (fun J19 => ?_)
  · rintro ⟨X18, o3_18⟩ b H locs ls cells slots hf hl hC Y
    have hl : lv_has ls 5 [(3, va_rf (Option.map b o3_18)), (0, Value.ref (b 0)), (1, Value.int a1)] := hl
    have hC : gC X0 _ X18 b cells slots := hC
    have Y : gy D t b A s.heap X18 X18 H locs := Y
    have hf : f_Le_endMerge_19 X18 a1 o3_18 = some o := hf
    unfold f_Le_endMerge_19 at hf
    refine lv_iload_n hx hb d_Le_endMerge_19 rfl (lv_at hl 2 rfl) ?_
    refine lv_istore (lv' := [(4, Value.int a1), (3, va_rf (Option.map b o3_18)), (0, Value.ref (b 0)), (1, Value.int a1)]) hx hb d_Le_endMerge_20 hl (by decide) (by generalize Option.map b o3_18 = z9; cases z9 <;> rfl) (fun ls hl => ?_)
    refine gA_iter (fun s : gX × Int32 => s.1) (fun (s : gX × Int32) b ls => lv_has ls 5 [(4, Value.int s.2), (0, Value.ref (b 0)), (3, va_rf (Option.map b o3_18))]) ?_ gK (X18, a1) _ _ _ _ _ _ hf (lv_sub hl [0, 2, 1] rfl) (hC.mv Y) Y.rb
    rintro ⟨X19, i4_19⟩ u19 b H locs ls cells slots hf hl hC Y hk19 ho19
    have hl : lv_has ls 5 [(4, Value.int i4_19), (0, Value.ref (b 0)), (3, va_rf (Option.map b o3_18))] := hl
    have hC : gC X0 _ X19 b cells slots := hC
    have Y : gy D t b A s.heap X19 X19 H locs := Y
    have hf : f_Le_endMerge_22 X19 o3_18 i4_19 = some u19 := hf
    unfold f_Le_endMerge_22 at hf
    refine lv_iload hx hb d_Le_endMerge_22 (lv_at hl 0 rfl) ?_
    refine lv_aload_n hx hb d_Le_endMerge_24 rfl (lv_at hl 1 rfl) ?_
    refine gy_get (ci := 0) (v := Value.int (X19.I 0 12)) (C := "CommitLedger") (T := F_Le) (N := 18) hx hb hts i_Le hown hK Y gF_0 rfl 12 (by decide) kf_Le_142 rfl d_Le_endMerge_25 ?_
    refine lv_iconst (v := 1) hx hb d_Le_endMerge_28 (by decide) ?_
    refine lv_isub hx hb d_Le_endMerge_29 ?_
    refine lv_icmp_ge (tgt := 55) hx hb d_Le_endMerge_30 (by decide) (fun c30_20 => ?_) (fun c30_20 => ?_)
    · replace hf := gp_t c30_20 hf
      refine lv_aload_n hx hb d_Le_endMerge_55 rfl (lv_at hl 1 rfl) ?_
      refine gy_get (ci := 0) (v := Value.ref (b 20)) (C := "CommitLedger") (T := F_Le) (N := 18) hx hb hts i_Le hown hK Y gF_0 rfl 3 (by decide) kf_Le_38 rfl d_Le_endMerge_56 ?_
      refine lv_aload_n hx hb d_Le_endMerge_59 rfl (lv_at hl 1 rfl) ?_
      refine gy_get (ci := 0) (v := Value.int (X19.I 0 12)) (C := "CommitLedger") (T := F_Le) (N := 18) hx hb hts i_Le hown hK Y gF_0 rfl 12 (by decide) kf_Le_142 rfl d_Le_endMerge_60 ?_
      refine lv_iconst (v := 1) hx hb d_Le_endMerge_63 (by decide) ?_
      refine lv_isub hx hb d_Le_endMerge_64 ?_
      refine lv_aload_nO hx hb d_Le_endMerge_65 rfl (lv_at hl 2 rfl) ?_
      refine gy_aast (x := o3_18) hf hx hb hK Y 3 5 (fun _ => gF_20) ht3 (fun h9 v e9 => by rw [e9] at h9; exact ⟨⟨_, gF_Me h9⟩, gMer.nm h9⟩) rfl d_Le_endMerge_66 (fun X21 H locs hf Y => ?_)
      refine lv_aload_n hx hb d_Le_endMerge_67 rfl (lv_at hl 1 rfl) ?_
      refine lv_dup hx hb d_Le_endMerge_68 rfl ?_
      refine gy_get (ci := 0) (v := Value.int (X21.I 0 12)) (C := "CommitLedger") (T := F_Le) (N := 18) hx hb hts i_Le hown hK Y gF_0 rfl 12 (by decide) kf_Le_142 rfl d_Le_endMerge_69 ?_
      refine lv_iconst (v := 1) hx hb d_Le_endMerge_72 (by decide) ?_
      refine lv_isub hx hb d_Le_endMerge_73 ?_
      refine gy_put hf (ci := 0) (ty := .int) (C := "CommitLedger") (T := F_Le) (N := 18) hx hb hts i_Le t_Le_ok n_Le hown hK Y gF_0 rfl (by decide) kf_Le_142 rfl (by decide +kernel) rfl rfl (Nat.le_of_ble_eq_true rfl) gF_0 d_Le_endMerge_74 (fun X22 H locs hf Y => ?_)
      refine lv_aload_n hx hb d_Le_endMerge_77 rfl (lv_at hl 1 rfl) ?_
      obtain ⟨X23, hF23, hf⟩ := gCv_el hf
      refine gy_callV (rm := { frames := 3, cells := 0, slots := 0, locals := 57 }) (ig := .invokevirtual 103) (av := [Value.ref (b 0)]) Y (fun ws h hS hw => K_Le_dropDeadSegments l htr D tys z _ ws h hS t ht b X22 hw (gR.v, X23) hF23) (gx_invV (As := []) (rest := []) hx hb hown hts km_Le_103 kI_Le_dropDeadSegments kV_Le_dropDeadSegments kc_Le_dropDeadSegments (by decide) (show (parseMethodDescriptor y_Le_dropDeadSegments.desc).map (fun d => d.parameters.length) = some 0 by decide +kernel) (gy_recv (ci := 0) hK Y rfl gF_0) rfl rfl d_Le_endMerge_78) (gx_cw (z := 0) hts kc_Le_dropDeadSegments kN_Le rfl rfl ⟨Nat.le_of_ble_eq_true rfl, Nat.le_of_ble_eq_true rfl⟩) hb hml hz hK hY hAz hA hl.1 (lv_room (Nat.le_of_ble_eq_true rfl)) d_Le_endMerge_78 ⟨hC.rc0 (Nat.le_refl _), hC.rs0 (Nat.le_refl _)⟩ (fun H locs Y => ?_)
      refine lv_aload_n hx hb d_Le_endMerge_81 rfl (lv_at hl 1 rfl) ?_
      have hl : lv_has ls 5 [] := lv_sub hl [] rfl
      obtain ⟨X24, hF24, hf⟩ := gCv_el hf
      refine gA_call (fr := 9) (lo := 220) (o1 := (gR.v, X24)) (ig := .invokevirtual 106) (av := [Value.ref (b 0)]) hC Y ⟨Nat.le_refl _, Nat.le_refl _⟩ (fun hc9 hs9 ws h hS hw => K_Le_dropUnneededFiles l htr D tys z _ ws h hS t ht b X23 hw hc9 hs9 (gR.v, X24) hF24) (gx_invV (As := []) (rest := []) hx hb hown hts km_Le_106 kI_Le_dropUnneededFiles kV_Le_dropUnneededFiles kc_Le_dropUnneededFiles (by decide) (show (parseMethodDescriptor y_Le_dropUnneededFiles.desc).map (fun d => d.parameters.length) = some 0 by decide +kernel) (gy_recv (ci := 0) hK Y rfl gF_0) rfl rfl d_Le_endMerge_82) (gx_cwA hts kc_Le_dropUnneededFiles kN_Le ⟨Nat.le_of_ble_eq_true rfl, Nat.le_of_ble_eq_true rfl⟩) hb hml hz hK hY hAz hA hl.1 (lv_room (Nat.le_of_ble_eq_true rfl)) d_Le_endMerge_82 (fun vz9 b H locs cells slots e9 hb9 hC Y => ?_) (fun xz9 Ez9 ce b H locs cells slots e9 hce hC Y => ?_)
      rotate_left
      · have e9 : (Sum.inr Ez9 : Option Value ⊕ String) = Sum.inl none := e9
        cases e9
      have e9 : (Sum.inl vz9 : Option Value ⊕ String) = Sum.inl none := e9
      cases e9
      replace hl : lv_has ls 5 [] := by exact hl
      refine W.eq (g2 := F0 m 85 ls []) (by rfl) ?_
      replace hf := gU hf ho19
      exact gA_vret hf hx hb hr hlocks hK hC Y d_Le_endMerge_85
    · replace hf := gp_f c30_20 hf
      refine lv_aload_n hx hb d_Le_endMerge_33 rfl (lv_at hl 1 rfl) ?_
      refine gy_get (ci := 0) (v := Value.ref (b 20)) (C := "CommitLedger") (T := F_Le) (N := 18) hx hb hts i_Le hown hK Y gF_0 rfl 3 (by decide) kf_Le_38 rfl d_Le_endMerge_34 ?_
      refine lv_iload hx hb d_Le_endMerge_37 (lv_at hl 0 rfl) ?_
      refine lv_aload_n hx hb d_Le_endMerge_39 rfl (lv_at hl 1 rfl) ?_
      refine gy_get (ci := 0) (v := Value.ref (b 20)) (C := "CommitLedger") (T := F_Le) (N := 18) hx hb hts i_Le hown hK Y gF_0 rfl 3 (by decide) kf_Le_38 rfl d_Le_endMerge_40 ?_
      refine lv_iload hx hb d_Le_endMerge_43 (lv_at hl 0 rfl) ?_
      refine lv_iconst (v := 1) hx hb d_Le_endMerge_45 (by decide) ?_
      refine lv_iadd hx hb d_Le_endMerge_46 ?_
      refine gy_aald hf hx hb hK Y 3 gF_20 ht3 d_Le_endMerge_47 (fun hf => ?_)
      refine gy_aast (x := (X19.G 20 (gn (i4_19 + 1)))) hf hx hb hK Y 3 5 (fun _ => gF_20) ht3 (fun h9 v e9 => by rw [e9] at h9; exact ⟨⟨_, gF_Me h9⟩, gMer.nm h9⟩) rfl d_Le_endMerge_48 (fun X25 H locs hf Y => ?_)
      refine lv_iinc (v := i4_19 + 1) (lv' := [(4, Value.int (i4_19 + 1)), (0, Value.ref (b 0)), (3, va_rf (Option.map b o3_18))]) hx hb d_Le_endMerge_49 hl (k := 0) rfl (rfl) (by decide) (by generalize Option.map b o3_18 = z9; cases z9 <;> rfl) (fun ls hl => ?_)
      refine lv_goto (tgt := 22) hx hb d_Le_endMerge_52 (by decide) ?_
      exact hk19 _ _ _ _ _ _ _ hf (lv_sub hl [0, 1, 2] rfl) (hC.mv Y) Y.rb
  unfold f_Le_endMerge at hf
  refine lv_aload_n hx hb d_Le_endMerge_0 rfl (lv_at hl 0 rfl) ?_
  refine gy_get (ci := 0) (v := Value.ref (b 20)) (C := "CommitLedger") (T := F_Le) (N := 18) hx hb hts i_Le hown hK Y gF_0 rfl 3 (by decide) kf_Le_38 rfl d_Le_endMerge_1 ?_
  refine lv_iload_n hx hb d_Le_endMerge_4 rfl (lv_at hl 1 rfl) ?_
  refine gy_aald hf hx hb hK Y 3 gF_20 ht3 d_Le_endMerge_5 (fun hf => ?_)
  refine lv_astore_nO (lv' := [(3, va_rf (Option.map b (X0.G 20 (gn a1)))), (0, Value.ref (b 0)), (1, Value.int a1), (2, Value.int a2)]) hx hb d_Le_endMerge_6 rfl hl (by decide) rfl (fun ls hl => ?_)
  refine lv_iload_n hx hb d_Le_endMerge_7 rfl (lv_at hl 3 rfl) ?_
  refine lv_if_eq (tgt := 19) hx hb d_Le_endMerge_8 (by decide) (fun c8_26 => ?_) (fun c8_26 => ?_)
  · replace hf := gp_t c8_26 hf
    exact J19 (X0, X0.G 20 (gn a1)) _ _ _ _ _ _ hf (lv_sub hl [0, 1, 2] rfl) (hC.mv Y) Y.rb
  · replace hf := gp_f c8_26 hf
    refine lv_aload_n hx hb d_Le_endMerge_11 rfl (lv_at hl 1 rfl) ?_
    refine gy_get (ci := 0) (v := Value.ref (b 8)) (C := "CommitLedger") (T := F_Le) (N := 18) hx hb hts i_Le hown hK Y gF_0 rfl 2 (by decide) kf_Le_26 rfl d_Le_endMerge_12 ?_
    refine lv_aload_nO hx hb d_Le_endMerge_15 rfl (lv_at hl 0 rfl) ?_
    obtain ⟨n27, e27, hf⟩ := gM_el hf
    refine W.eq (g2 := F0 m 16 ls [Value.ref (b n27), Value.ref (b 8)]) (by rw [e27] <;> rfl) ?_
    obtain ⟨hv28, hf⟩ := gp_g hf
    obtain ⟨X29, hF29, hf⟩ := gCv_el hf
    refine gy_callV (rm := { frames := 2, cells := 0, slots := 0, locals := 35 }) (ig := .invokevirtual 345) (av := [Value.ref (b 8), Value.ref (b n27)]) Y (fun ws h hS hw => K_Vi_replaceMerged l htr D tys z _ ws h hS t ht b X0 hw 8 (by decide) n27 hv28 (gR.v, X29) hF29) (gx_invV (As := [Value.ref (b n27)]) (rest := []) hx hb hown hts km_Le_345 kI_Vi_replaceMerged kV_Vi_replaceMerged kc_Vi_replaceMerged (by decide) (show (parseMethodDescriptor y_Vi_replaceMerged.desc).map (fun d => d.parameters.length) = some 1 by decide +kernel) (gy_recv (ci := 4) hK Y rfl gF_8) rfl rfl d_Le_endMerge_16) (gx_cw (z := 0) hts kc_Vi_replaceMerged kN_Vi rfl rfl ⟨Nat.le_of_ble_eq_true rfl, Nat.le_of_ble_eq_true rfl⟩) hb hml hz hK hY hAz hA hl.1 (lv_room (Nat.le_of_ble_eq_true rfl)) d_Le_endMerge_16 ⟨hC.rc0 (Nat.le_refl _), hC.rs0 (Nat.le_refl _)⟩ (fun H locs Y => ?_)
    exact J19 (X29, X0.G 20 (gn a1)) _ _ _ _ _ _ hf (lv_sub hl [0, 1, 2] rfl) (hC.mv Y) Y.rb

def f_Le_writeLists_60 (X : gX) (i1 : Int32) : Option ((gX × Int32) ⊕ (gR × gX)) := some (Sum.inl (X, i1 + 1))
def f_Le_writeLists_2 (X : gX) (i1 : Int32) : Option ((gX × Int32) ⊕ (gR × gX)) := (if (X.I 8 4) ≤ i1 then gLf (some (gR.v, X)) else gCi (f_Vi_listIsRight X 8 i1) (fun x3 X3 => (if x3 = (0 : Int32) then gCvt (f_Le_act X3) (fun E X => gLf (some (gR.t E, X))) (fun X5 => (if gIn i1 4096 then gCi (f_Vi_liveIn X5 8 (X5.G 9 (gn i1))) (fun x6 X6 => gCa (f_Di_newFile X6 x6) (fun x7 X7 => (if gIn i1 4096 then (if gOf X7.N x7 then gB (X7.g 10 (gn i1) x7) (fun X8 => f_Le_writeLists_60 X8 i1) else none) else none))) else none)) else f_Le_writeLists_60 X3 i1)))
def f_Le_writeLists (X0 : gX) : Option (gR × gX) := gI (fun s : gX × Int32 => f_Le_writeLists_2 s.1 s.2) gK (X0, 0)
set_option maxHeartbeats 4000000 in
set_option maxRecDepth 100000 in
theorem K_Le_writeLists (l : Launch) (htr : l.stackTraces = false) (D : va_G) (tys : List (ClassId × FieldType)) (z sz : Nat) (ws : va_W) (h : gm_M) (hM : gm_S h ws) (t : Nat → ClassId) (ht : gTy t tys) (b : Nat → Nat) (X0 : gX) (hw : gw D t b X0 h) (hc0 : X0.cc ≤ gCL) (hs0 : X0.ss ≤ gSL) (o : gR × gX) (hf : f_Le_writeLists X0 = some o) : gx_Met l y_Le_writeLists [Cond.code y_Le_writeLists b_Le_writeLists 2 none] { frames := 11, cells := gCL + 1 - X0.cc, slots := gSL + 6 - X0.ss, locals := 261 } (gx_P z sz D classes tys ws [Value.ref (b 0)]) (gx_Q D classes tys (va_A ws sz) (gPoA D t b X0 o)) (o.2.cc + gT o.1 - X0.cc) (o.2.ss + 6 * gT o.1 - X0.ss) (va_A ws sz) := by
  refine gx_ofW (cc := b_Le_writeLists) (maxL := 2) (ret := none) (by decide) rfl ?_
  intro p e s m args below meth c s₁ B hml hv
  obtain ⟨rfl, hsz, hz, hP, hK, hD0, hY⟩ := hv
  have hx := B.exec
  have hb := B.bytes
  have hr := B.returns
  have hts := hY.hts (#[Value.ref (b 0)] : Array Value)
  have hown : s.vm.findClass "CommitLedger" = some m.cls := findClass_of_methodNamed B.named
  have hlocks := B.notSynchronized
  have hne : c.exceptionTable.isEmpty = true := B.noHandlers (atoms_spec (ws := [Cond.code y_Le_writeLists b_Le_writeLists 2 none]) B.pre _ List.mem_cons_self)
  have hN := gx_ns hP
  subst hsz
  have hAz := gx_az hD0 hz
  have hD := hD0.self (sz := s.heap.size)
  have hA : ∀ q : Nat, s.heap.size ≤ q → va_A ws s.heap.size q := fun q h => Or.inr h
  generalize va_A ws s.heap.size = A at hD hA hAz hN ⊢
  have Y : gy D t b A s.heap X0 X0 s.heap [] := ⟨h, ⟨ws, hM, hP, hD, va_S.rf⟩, hw, gEq.rf⟩
  clear hP hD hM hD0 hw
  have hC : gC X0 b X0 b 0 0 := gC.rf hc0 hs0
  obtain ⟨ht0, ht1, ht2, ht3, ht4, ht5, ht6, ht7, ht8⟩ := id ht
  have hl := lv_entry ([Value.ref (b 0)]) (n := 2) (Nat.le_of_ble_eq_true rfl)
  rw [lg_entry_eq]
  generalize (lg_sl ([Value.ref (b 0)]) ++ List.replicate (2 - (lg_sl ([Value.ref (b 0)])).length) Slot.unset).toArray = ls at hl ⊢
  have hl : lv_has ls 2 [(0, Value.ref (b 0))] := hl
  unfold f_Le_writeLists at hf
  refine lv_iconst (v := 0) hx hb d_Le_writeLists_0 (by decide) ?_
  refine lv_istore_n (lv' := [(1, Value.int 0), (0, Value.ref (b 0))]) hx hb d_Le_writeLists_1 rfl hl (by decide) rfl (fun ls hl => ?_)
  refine gA_iter (fun s : gX × Int32 => s.1) (fun (s : gX × Int32) b ls => lv_has ls 2 [(1, Value.int s.2), (0, Value.ref (b 0))]) ?_ gK (X0, 0) _ _ _ _ _ _ hf (lv_sub hl [0, 1] rfl) (hC.mv Y) Y.rb
  rintro ⟨X17, i1_17⟩ u17 b H locs ls cells slots hf hl hC Y hk17 ho17
  have hl : lv_has ls 2 [(1, Value.int i1_17), (0, Value.ref (b 0))] := hl
  have hC : gC X0 _ X17 b cells slots := hC
  have Y : gy D t b A s.heap X17 X17 H locs := Y
  have hf : f_Le_writeLists_2 X17 i1_17 = some u17 := hf
  refine gA_cut (pcJ := 60) hC Y (fun s : gX × Int32 => f_Le_writeLists_60 s.1 s.2) u17 (fun s => s.1) (fun s b ls => lv_has ls 2 [(1, Value.int s.2), (0, Value.ref (b 0))]) (fun s b => []) ?_ (fun J60 => ?_)
  · rintro ⟨X18, i1_18⟩ b H locs ls cells slots hf hl hC Y
    have hl : lv_has ls 2 [(1, Value.int i1_18), (0, Value.ref (b 0))] := hl
    have hC : gC X0 _ X18 b cells slots := hC
    have Y : gy D t b A s.heap X18 X18 H locs := Y
    have hf : f_Le_writeLists_60 X18 i1_18 = some u17 := hf
    unfold f_Le_writeLists_60 at hf
    refine lv_iinc (v := i1_18 + 1) (lv' := [(1, Value.int (i1_18 + 1)), (0, Value.ref (b 0))]) hx hb d_Le_writeLists_60 hl (k := 0) rfl (rfl) (by decide) rfl (fun ls hl => ?_)
    refine lv_goto (tgt := 2) hx hb d_Le_writeLists_63 (by decide) ?_
    exact hk17 _ _ _ _ _ _ _ hf (lv_sub hl [0, 1] rfl) (hC.mv Y) Y.rb
  unfold f_Le_writeLists_2 at hf
  refine lv_iload_n hx hb d_Le_writeLists_2 rfl (lv_at hl 0 rfl) ?_
  refine lv_aload_n hx hb d_Le_writeLists_3 rfl (lv_at hl 1 rfl) ?_
  refine gy_get (ci := 0) (v := Value.ref (b 8)) (C := "CommitLedger") (T := F_Le) (N := 18) hx hb hts i_Le hown hK Y gF_0 rfl 2 (by decide) kf_Le_26 rfl d_Le_writeLists_4 ?_
  refine gy_get (ci := 4) (v := Value.int (X17.I 8 4)) (C := "CommitLedger$View") (T := F_Vi) (N := 6) hx hb hts i_Vi hown hK Y gF_8 rfl 4 (by decide) kf_Le_109 rfl d_Le_writeLists_7 ?_
  refine lv_icmp_ge (tgt := 66) hx hb d_Le_writeLists_10 (by decide) (fun c10_19 => ?_) (fun c10_19 => ?_)
  · replace hf := gp_t c10_19 hf
    replace hf := gU hf ho17
    exact gA_vret hf hx hb hr hlocks hK hC Y d_Le_writeLists_66
  · replace hf := gp_f c10_19 hf
    refine lv_aload_n hx hb d_Le_writeLists_13 rfl (lv_at hl 1 rfl) ?_
    refine gy_get (ci := 0) (v := Value.ref (b 8)) (C := "CommitLedger") (T := F_Le) (N := 18) hx hb hts i_Le hown hK Y gF_0 rfl 2 (by decide) kf_Le_26 rfl d_Le_writeLists_14 ?_
    refine lv_iload_n hx hb d_Le_writeLists_17 rfl (lv_at hl 0 rfl) ?_
    obtain ⟨x20, X20, hF20, hf⟩ := gCi_el hf
    refine gy_callI (rm := { frames := 3, cells := 0, slots := 0, locals := 57 }) (ig := .invokevirtual 366) (av := [Value.ref (b 8), Value.int i1_17]) Y (fun ws h hS hw => K_Vi_listIsRight l htr D tys z _ ws h hS t ht b X17 hw 8 (by decide) i1_17 (gR.i x20, X20) hF20) (gx_invV (As := [Value.int i1_17]) (rest := []) hx hb hown hts km_Le_366 kI_Vi_listIsRight kV_Vi_listIsRight kc_Vi_listIsRight (by decide) (show (parseMethodDescriptor y_Vi_listIsRight.desc).map (fun d => d.parameters.length) = some 1 by decide +kernel) (gy_recv (ci := 4) hK Y rfl gF_8) rfl rfl d_Le_writeLists_18) (gx_cw (z := 0) hts kc_Vi_listIsRight kN_Vi rfl rfl ⟨Nat.le_of_ble_eq_true rfl, Nat.le_of_ble_eq_true rfl⟩) hb hml hz hK hY hAz hA hl.1 (lv_room (Nat.le_of_ble_eq_true rfl)) d_Le_writeLists_18 ⟨hC.rc0 (Nat.le_refl _), hC.rs0 (Nat.le_refl _)⟩ (fun H locs Y => ?_)
    refine lv_if_ne (tgt := 60) hx hb d_Le_writeLists_21 (by decide) (fun c21_21 => ?_) (fun c21_21 => ?_)
    · replace hf := gp_f c21_21 hf
      exact J60 (X20, i1_17) _ _ _ _ _ _ hf (lv_sub hl [0, 1] rfl) (hC.mv Y) Y.rb
    · replace hf := gp_t c21_21 hf
      refine lv_aload_n hx hb d_Le_writeLists_24 rfl (lv_at hl 1 rfl) ?_
      have hl : lv_has ls 2 [(1, Value.int i1_17), (0, Value.ref (b 0))] := lv_sub hl [0, 1] rfl
      rcases gCvt_el hf with ⟨X22, hF22, hf⟩ | ⟨E22, X22, hF22, hf⟩
      rotate_left
      · replace hf := gU hf ho17
        cases hf
        refine gA_call (fr := 10) (lo := 241) (o1 := (gR.t E22, X22)) (ig := .invokevirtual 311) (av := [Value.ref (b 0)]) hC Y ⟨Nat.le_refl _, Nat.le_refl _⟩ (fun hc9 hs9 ws h hS hw => K_Le_act l htr D tys z _ ws h hS t ht b X20 hw hc9 hs9 (gR.t E22, X22) hF22) (gx_invV (As := []) (rest := []) hx hb hown hts km_Le_311 kI_Le_act kV_Le_act kc_Le_act (by decide) (show (parseMethodDescriptor y_Le_act.desc).map (fun d => d.parameters.length) = some 0 by decide +kernel) (gy_recv (ci := 0) hK Y rfl gF_0) rfl rfl d_Le_writeLists_25) (gx_cwA hts kc_Le_act kN_Le ⟨Nat.le_of_ble_eq_true rfl, Nat.le_of_ble_eq_true rfl⟩) hb hml hz hK hY hAz hA hl.1 (lv_room (Nat.le_of_ble_eq_true rfl)) d_Le_writeLists_25 (fun vz9 b H locs cells slots e9 hb9 hC Y => ?_) (fun xz9 Ez9 ce b H locs cells slots e9 hce hC Y => ?_)
        · have e9 : (Sum.inl vz9 : Option Value ⊕ String) = Sum.inr E22 := e9
          cases e9
        · have e9 : (Sum.inr Ez9 : Option Value ⊕ String) = Sum.inr E22 := e9
          cases e9
          exact gA_pass hne hlocks hce hK hC Y
      refine gA_call (fr := 10) (lo := 241) (o1 := (gR.v, X22)) (ig := .invokevirtual 311) (av := [Value.ref (b 0)]) hC Y ⟨Nat.le_refl _, Nat.le_refl _⟩ (fun hc9 hs9 ws h hS hw => K_Le_act l htr D tys z _ ws h hS t ht b X20 hw hc9 hs9 (gR.v, X22) hF22) (gx_invV (As := []) (rest := []) hx hb hown hts km_Le_311 kI_Le_act kV_Le_act kc_Le_act (by decide) (show (parseMethodDescriptor y_Le_act.desc).map (fun d => d.parameters.length) = some 0 by decide +kernel) (gy_recv (ci := 0) hK Y rfl gF_0) rfl rfl d_Le_writeLists_25) (gx_cwA hts kc_Le_act kN_Le ⟨Nat.le_of_ble_eq_true rfl, Nat.le_of_ble_eq_true rfl⟩) hb hml hz hK hY hAz hA hl.1 (lv_room (Nat.le_of_ble_eq_true rfl)) d_Le_writeLists_25 (fun vz9 b H locs cells slots e9 hb9 hC Y => ?_) (fun xz9 Ez9 ce b H locs cells slots e9 hce hC Y => ?_)
      rotate_left
      · have e9 : (Sum.inr Ez9 : Option Value ⊕ String) = Sum.inl none := e9
        cases e9
      have e9 : (Sum.inl vz9 : Option Value ⊕ String) = Sum.inl none := e9
      cases e9
      replace hl : lv_has ls 2 [(1, Value.int i1_17), (0, Value.ref (b 0))] := by rw [hb9 0 (gNm_s (by decide))]; exact hl
      refine W.eq (g2 := F0 m 28 ls []) (by rfl) ?_
      refine lv_aload_n hx hb d_Le_writeLists_28 rfl (lv_at hl 1 rfl) ?_
      refine gy_get (ci := 0) (v := Value.ref (b 8)) (C := "CommitLedger") (T := F_Le) (N := 18) hx hb hts i_Le hown hK Y gF_0 rfl 2 (by decide) kf_Le_26 rfl d_Le_writeLists_29 ?_
      refine gy_get (ci := 4) (v := Value.ref (b 10)) (C := "CommitLedger$View") (T := F_Vi) (N := 6) hx hb hts i_Vi hown hK Y gF_8 rfl 1 (by decide) kf_Le_323 rfl d_Le_writeLists_32 ?_
      refine lv_iload_n hx hb d_Le_writeLists_35 rfl (lv_at hl 0 rfl) ?_
      refine lv_aload_n hx hb d_Le_writeLists_36 rfl (lv_at hl 1 rfl) ?_
      refine gy_get (ci := 0) (v := Value.ref (b 5)) (C := "CommitLedger") (T := F_Le) (N := 18) hx hb hts i_Le hown hK Y gF_0 rfl 1 (by decide) kf_Le_19 rfl d_Le_writeLists_37 ?_
      refine lv_aload_n hx hb d_Le_writeLists_40 rfl (lv_at hl 1 rfl) ?_
      refine gy_get (ci := 0) (v := Value.ref (b 8)) (C := "CommitLedger") (T := F_Le) (N := 18) hx hb hts i_Le hown hK Y gF_0 rfl 2 (by decide) kf_Le_26 rfl d_Le_writeLists_41 ?_
      refine lv_aload_n hx hb d_Le_writeLists_44 rfl (lv_at hl 1 rfl) ?_
      refine gy_get (ci := 0) (v := Value.ref (b 8)) (C := "CommitLedger") (T := F_Le) (N := 18) hx hb hts i_Le hown hK Y gF_0 rfl 2 (by decide) kf_Le_26 rfl d_Le_writeLists_45 ?_
      refine gy_get (ci := 4) (v := Value.ref (b 9)) (C := "CommitLedger$View") (T := F_Vi) (N := 6) hx hb hts i_Vi hown hK Y gF_8 rfl 0 (by decide) kf_Le_254 rfl d_Le_writeLists_48 ?_
      refine lv_iload_n hx hb d_Le_writeLists_51 rfl (lv_at hl 0 rfl) ?_
      refine gy_aald hf hx hb hK Y 2 gF_9 ht2 d_Le_writeLists_52 (fun hf => ?_)
      obtain ⟨x23, X23, hF23, hf⟩ := gCi_el hf
      refine gy_callI (rm := { frames := 2, cells := 0, slots := 0, locals := 36 }) (ig := .invokevirtual 261) (av := [Value.ref (b 8), va_rf (Option.map b (X22.G 9 (gn i1_17)))]) Y (fun ws h hS hw => K_Vi_liveIn l htr D tys z _ ws h hS t ht b X22 hw 8 (by decide) (X22.G 9 (gn i1_17)) (gR.i x23, X23) hF23) (gx_invV (As := [va_rf (Option.map b (X22.G 9 (gn i1_17)))]) (rest := [Value.ref (b 5), Value.int i1_17, Value.ref (b 10)]) hx hb hown hts km_Le_261 kI_Vi_liveIn kV_Vi_liveIn kc_Vi_liveIn (by decide) (show (parseMethodDescriptor y_Vi_liveIn.desc).map (fun d => d.parameters.length) = some 1 by decide +kernel) (gy_recv (ci := 4) hK Y rfl gF_8) rfl rfl d_Le_writeLists_53) (gx_cw (z := 0) hts kc_Vi_liveIn kN_Vi rfl rfl ⟨Nat.le_of_ble_eq_true rfl, Nat.le_of_ble_eq_true rfl⟩) hb hml hz hK hY hAz hA hl.1 (lv_room (Nat.le_of_ble_eq_true rfl)) d_Le_writeLists_53 ⟨hC.rc0 (Nat.le_refl _), hC.rs0 (Nat.le_refl _)⟩ (fun H locs Y => ?_)
      have hl : lv_has ls 2 [(1, Value.int i1_17), (0, Value.ref (b 0))] := lv_sub hl [0, 1] rfl
      obtain ⟨x24, X24, hF24, hf⟩ := gCa_el hf
      refine gA_call (fr := 8) (lo := 197) (o1 := (gR.a x24, X24)) (ig := .invokevirtual 314) (av := [Value.ref (b 5), Value.int x23]) hC Y ⟨Nat.le_refl _, Nat.le_refl _⟩ (fun hc9 hs9 ws h hS hw => K_Di_newFile l htr D tys z _ ws h hS t ht b X23 hw x23 hc9 hs9 (gR.a x24, X24) hF24) (gx_invV (As := [Value.int x23]) (rest := [Value.int i1_17, Value.ref (b 10)]) hx hb hown hts km_Le_314 kI_Di_newFile kV_Di_newFile kc_Di_newFile (by decide) (show (parseMethodDescriptor y_Di_newFile.desc).map (fun d => d.parameters.length) = some 1 by decide +kernel) (gy_recv (ci := 2) hK Y rfl gF_5) rfl rfl d_Le_writeLists_56) (gx_cwA hts kc_Di_newFile kN_Di ⟨Nat.le_of_ble_eq_true rfl, Nat.le_of_ble_eq_true rfl⟩) hb hml hz hK hY hAz hA hl.1 (lv_room (Nat.le_of_ble_eq_true rfl)) d_Le_writeLists_56 (fun vz9 b H locs cells slots e9 hb9 hC Y => ?_) (fun xz9 Ez9 ce b H locs cells slots e9 hce hC Y => ?_)
      rotate_left
      · have e9 : (Sum.inr Ez9 : Option Value ⊕ String) = Sum.inl (some (va_rf (Option.map b x24))) := e9
        cases e9
      have e9 : (Sum.inl vz9 : Option Value ⊕ String) = Sum.inl (some (va_rf (Option.map b x24))) := e9
      cases e9
      replace hl : lv_has ls 2 [(1, Value.int i1_17), (0, Value.ref (b 0))] := by rw [hb9 0 (gNm_s (by decide))]; exact hl
      refine W.eq (g2 := F0 m 59 ls [va_rf (Option.map b x24), Value.int i1_17, Value.ref (b 10)]) (by rw [hb9 10 (gNm_s (by decide))]; rfl) ?_
      refine gy_aast (x := x24) hf hx hb hK Y 2 7 (fun _ => gF_10) ht2 (fun h9 v e9 => by rw [e9] at h9; exact ⟨⟨_, gF_Fi h9⟩, gFile.nm h9⟩) rfl d_Le_writeLists_59 (fun X25 H locs hf Y => ?_)
      exact J60 (X25, i1_17) _ _ _ _ _ _ hf (lv_sub hl [0, 1] rfl) (hC.mv Y) Y.rb

def f_Le_syncIfNeeded (X0 : gX) (m1 : Option Nat) : Option (gR × gX) := (gO m1 (some (gR.v, X0)) (fun n1 => (if gFile X0.N n1 then (if (X0.I n1 1) = (0 : Int32) then (if gOk X0.N (some n1) then gCvt (f_Le_act X0) (fun E X => some (gR.t E, X)) (fun X4 => (if gFile X4.N n1 then gB (X4.w n1 1 1) (fun X7 => some (gR.v, X7)) else none)) else none) else some (gR.v, X0)) else none)))
set_option maxHeartbeats 4000000 in
set_option maxRecDepth 100000 in
theorem K_Le_syncIfNeeded (l : Launch) (htr : l.stackTraces = false) (D : va_G) (tys : List (ClassId × FieldType)) (z sz : Nat) (ws : va_W) (h : gm_M) (hM : gm_S h ws) (t : Nat → ClassId) (ht : gTy t tys) (b : Nat → Nat) (X0 : gX) (hw : gw D t b X0 h) (m1 : Option Nat) (hc0 : X0.cc ≤ gCL) (hs0 : X0.ss ≤ gSL) (o : gR × gX) (hf : f_Le_syncIfNeeded X0 m1 = some o) : gx_Met l y_Le_syncIfNeeded [Cond.code y_Le_syncIfNeeded b_Le_syncIfNeeded 2 none] { frames := 11, cells := gCL + 1 - X0.cc, slots := gSL + 6 - X0.ss, locals := 261 } (gx_P z sz D classes tys ws [Value.ref (b 0), va_rf (Option.map b m1)]) (gx_Q D classes tys (va_A ws sz) (gPoA D t b X0 o)) (o.2.cc + gT o.1 - X0.cc) (o.2.ss + 6 * gT o.1 - X0.ss) (va_A ws sz) := by
  refine gx_ofW (cc := b_Le_syncIfNeeded) (maxL := 2) (ret := none) (by decide) rfl ?_
  intro p e s m args below meth c s₁ B hml hv
  obtain ⟨rfl, hsz, hz, hP, hK, hD0, hY⟩ := hv
  have hx := B.exec
  have hb := B.bytes
  have hr := B.returns
  have hts := hY.hts (#[Value.ref (b 0), va_rf (Option.map b m1)] : Array Value)
  have hown : s.vm.findClass "CommitLedger" = some m.cls := findClass_of_methodNamed B.named
  have hlocks := B.notSynchronized
  have hne : c.exceptionTable.isEmpty = true := B.noHandlers (atoms_spec (ws := [Cond.code y_Le_syncIfNeeded b_Le_syncIfNeeded 2 none]) B.pre _ List.mem_cons_self)
  have hN := gx_ns hP
  subst hsz
  have hAz := gx_az hD0 hz
  have hD := hD0.self (sz := s.heap.size)
  have hA : ∀ q : Nat, s.heap.size ≤ q → va_A ws s.heap.size q := fun q h => Or.inr h
  generalize va_A ws s.heap.size = A at hD hA hAz hN ⊢
  have Y : gy D t b A s.heap X0 X0 s.heap [] := ⟨h, ⟨ws, hM, hP, hD, va_S.rf⟩, hw, gEq.rf⟩
  clear hP hD hM hD0 hw
  have hC : gC X0 b X0 b 0 0 := gC.rf hc0 hs0
  obtain ⟨ht0, ht1, ht2, ht3, ht4, ht5, ht6, ht7, ht8⟩ := id ht
  have hl := lv_entry ([Value.ref (b 0), va_rf (Option.map b m1)]) (n := 2) (by cases m1 <;> exact Nat.le_of_ble_eq_true rfl)
  rw [lg_entry_eq]
  generalize (lg_sl ([Value.ref (b 0), va_rf (Option.map b m1)]) ++ List.replicate (2 - (lg_sl ([Value.ref (b 0), va_rf (Option.map b m1)])).length) Slot.unset).toArray = ls at hl ⊢
  have hl : lv_has ls 2 [(0, Value.ref (b 0)), (1, va_rf (Option.map b m1))] := by cases m1 <;> exact hl
  unfold f_Le_syncIfNeeded at hf
  refine lv_aload_nO hx hb d_Le_syncIfNeeded_0 rfl (lv_at hl 1 rfl) ?_
  rcases gO_el hf with ⟨e8, hf⟩ | ⟨n8, e8, hf⟩
  · refine W.eq (g2 := F0 m 1 ls [Value.null]) (by rw [e8] <;> rfl) ?_
    replace hl : lv_has ls 2 [(0, Value.ref (b 0)), (1, Value.null)] := by rw [e8] at hl; exact hl
    refine lv_ifnullN (tgt := 20) hx hb d_Le_syncIfNeeded_1 (by decide) ?_
    exact gA_vret hf hx hb hr hlocks hK hC Y d_Le_syncIfNeeded_20
  · refine W.eq (g2 := F0 m 1 ls [Value.ref (b n8)]) (by rw [e8] <;> rfl) ?_
    replace hl : lv_has ls 2 [(0, Value.ref (b 0)), (1, Value.ref (b n8))] := by rw [e8] at hl; exact hl
    refine lv_ifnull hx hb d_Le_syncIfNeeded_1 ?_
    refine lv_aload_n hx hb d_Le_syncIfNeeded_4 rfl (lv_at hl 1 rfl) ?_
    obtain ⟨hv9, hf⟩ := gp_g hf
    refine gy_get (ci := 7) (v := Value.int (X0.I n8 1)) (C := "CommitLedger$LedgerFile") (T := F_Fi) (N := 7) hx hb hts i_Fi hown hK Y (gF_Fi hv9) rfl 1 (by decide) kf_Le_370 rfl d_Le_syncIfNeeded_5 ?_
    refine lv_if_ne (tgt := 20) hx hb d_Le_syncIfNeeded_8 (by decide) (fun c8_10 => ?_) (fun c8_10 => ?_)
    · replace hf := gp_f c8_10 hf
      exact gA_vret hf hx hb hr hlocks hK hC Y d_Le_syncIfNeeded_20
    · replace hf := gp_t c8_10 hf
      refine lv_aload_n hx hb d_Le_syncIfNeeded_11 rfl (lv_at hl 0 rfl) ?_
      have hl : lv_has ls 2 [(1, Value.ref (b n8))] := lv_sub hl [1] rfl
      obtain ⟨hg12, hf⟩ := gp_g hf
      rcases gCvt_el hf with ⟨X11, hF11, hf⟩ | ⟨E11, X11, hF11, hf⟩
      rotate_left
      · cases hf
        refine gA_call (fr := 10) (lo := 241) (o1 := (gR.t E11, X11)) (ig := .invokevirtual 311) (av := [Value.ref (b 0)]) hC Y ⟨Nat.le_refl _, Nat.le_refl _⟩ (fun hc9 hs9 ws h hS hw => K_Le_act l htr D tys z _ ws h hS t ht b X0 hw hc9 hs9 (gR.t E11, X11) hF11) (gx_invV (As := []) (rest := []) hx hb hown hts km_Le_311 kI_Le_act kV_Le_act kc_Le_act (by decide) (show (parseMethodDescriptor y_Le_act.desc).map (fun d => d.parameters.length) = some 0 by decide +kernel) (gy_recv (ci := 0) hK Y rfl gF_0) rfl rfl d_Le_syncIfNeeded_12) (gx_cwA hts kc_Le_act kN_Le ⟨Nat.le_of_ble_eq_true rfl, Nat.le_of_ble_eq_true rfl⟩) hb hml hz hK hY hAz hA hl.1 (lv_room (Nat.le_of_ble_eq_true rfl)) d_Le_syncIfNeeded_12 (fun vz9 b H locs cells slots e9 hb9 hC Y => ?_) (fun xz9 Ez9 ce b H locs cells slots e9 hce hC Y => ?_)
        · have e9 : (Sum.inl vz9 : Option Value ⊕ String) = Sum.inr E11 := e9
          cases e9
        · have e9 : (Sum.inr Ez9 : Option Value ⊕ String) = Sum.inr E11 := e9
          cases e9
          exact gA_pass hne hlocks hce hK hC Y
      refine gA_call (fr := 10) (lo := 241) (o1 := (gR.v, X11)) (ig := .invokevirtual 311) (av := [Value.ref (b 0)]) hC Y ⟨Nat.le_refl _, Nat.le_refl _⟩ (fun hc9 hs9 ws h hS hw => K_Le_act l htr D tys z _ ws h hS t ht b X0 hw hc9 hs9 (gR.v, X11) hF11) (gx_invV (As := []) (rest := []) hx hb hown hts km_Le_311 kI_Le_act kV_Le_act kc_Le_act (by decide) (show (parseMethodDescriptor y_Le_act.desc).map (fun d => d.parameters.length) = some 0 by decide +kernel) (gy_recv (ci := 0) hK Y rfl gF_0) rfl rfl d_Le_syncIfNeeded_12) (gx_cwA hts kc_Le_act kN_Le ⟨Nat.le_of_ble_eq_true rfl, Nat.le_of_ble_eq_true rfl⟩) hb hml hz hK hY hAz hA hl.1 (lv_room (Nat.le_of_ble_eq_true rfl)) d_Le_syncIfNeeded_12 (fun vz9 b H locs cells slots e9 hb9 hC Y => ?_) (fun xz9 Ez9 ce b H locs cells slots e9 hce hC Y => ?_)
      rotate_left
      · have e9 : (Sum.inr Ez9 : Option Value ⊕ String) = Sum.inl none := e9
        cases e9
      have e9 : (Sum.inl vz9 : Option Value ⊕ String) = Sum.inl none := e9
      cases e9
      replace hl : lv_has ls 2 [(1, Value.ref (b n8))] := by rw [hb9 n8 (gOk.of hg12 _ rfl)]; exact hl
      refine W.eq (g2 := F0 m 15 ls []) (by rfl) ?_
      refine lv_aload_n hx hb d_Le_syncIfNeeded_15 rfl (lv_at hl 0 rfl) ?_
      refine lv_iconst (v := 1) hx hb d_Le_syncIfNeeded_16 (by decide) ?_
      obtain ⟨hv13, hf⟩ := gp_g hf
      refine gy_put hf (ci := 7) (ty := .boolean) (C := "CommitLedger$LedgerFile") (T := F_Fi) (N := 7) hx hb hts i_Fi t_Fi_ok n_Fi hown hK Y (gF_Fi hv13) rfl (by decide) kf_Le_370 rfl (by decide +kernel) rfl rfl (Nat.le_of_ble_eq_true rfl) (gF_Fi hv13) d_Le_syncIfNeeded_17 (fun X14 H locs hf Y => ?_)
      exact gA_vret hf hx hb hr hlocks hK hC Y d_Le_syncIfNeeded_20

def f_Le_syncSegments_2 (X : gX) (i1 : Int32) : Option ((gX × Int32) ⊕ (gR × gX)) := (if (X.I 8 4) ≤ i1 then gLf (some (gR.v, X)) else (if gIn i1 4096 then gCvt (f_Le_syncIfNeeded X (X.G 9 (gn i1))) (fun E X => gLf (some (gR.t E, X))) (fun X3 => (if gIn i1 4096 then gCvt (f_Le_syncIfNeeded X3 (X3.G 10 (gn i1))) (fun E X => gLf (some (gR.t E, X))) (fun X4 => some (Sum.inl (X4, i1 + 1))) else none)) else none))
def f_Le_syncSegments (X0 : gX) : Option (gR × gX) := gI (fun s : gX × Int32 => f_Le_syncSegments_2 s.1 s.2) gK (X0, 0)
set_option maxHeartbeats 4000000 in
set_option maxRecDepth 100000 in
theorem K_Le_syncSegments (l : Launch) (htr : l.stackTraces = false) (D : va_G) (tys : List (ClassId × FieldType)) (z sz : Nat) (ws : va_W) (h : gm_M) (hM : gm_S h ws) (t : Nat → ClassId) (ht : gTy t tys) (b : Nat → Nat) (X0 : gX) (hw : gw D t b X0 h) (hc0 : X0.cc ≤ gCL) (hs0 : X0.ss ≤ gSL) (o : gR × gX) (hf : f_Le_syncSegments X0 = some o) : gx_Met l y_Le_syncSegments [Cond.code y_Le_syncSegments b_Le_syncSegments 2 none] { frames := 12, cells := gCL + 1 - X0.cc, slots := gSL + 6 - X0.ss, locals := 282 } (gx_P z sz D classes tys ws [Value.ref (b 0)]) (gx_Q D classes tys (va_A ws sz) (gPoA D t b X0 o)) (o.2.cc + gT o.1 - X0.cc) (o.2.ss + 6 * gT o.1 - X0.ss) (va_A ws sz) := by
  refine gx_ofW (cc := b_Le_syncSegments) (maxL := 2) (ret := none) (by decide) rfl ?_
  intro p e s m args below meth c s₁ B hml hv
  obtain ⟨rfl, hsz, hz, hP, hK, hD0, hY⟩ := hv
  have hx := B.exec
  have hb := B.bytes
  have hr := B.returns
  have hts := hY.hts (#[Value.ref (b 0)] : Array Value)
  have hown : s.vm.findClass "CommitLedger" = some m.cls := findClass_of_methodNamed B.named
  have hlocks := B.notSynchronized
  have hne : c.exceptionTable.isEmpty = true := B.noHandlers (atoms_spec (ws := [Cond.code y_Le_syncSegments b_Le_syncSegments 2 none]) B.pre _ List.mem_cons_self)
  have hN := gx_ns hP
  subst hsz
  have hAz := gx_az hD0 hz
  have hD := hD0.self (sz := s.heap.size)
  have hA : ∀ q : Nat, s.heap.size ≤ q → va_A ws s.heap.size q := fun q h => Or.inr h
  generalize va_A ws s.heap.size = A at hD hA hAz hN ⊢
  have Y : gy D t b A s.heap X0 X0 s.heap [] := ⟨h, ⟨ws, hM, hP, hD, va_S.rf⟩, hw, gEq.rf⟩
  clear hP hD hM hD0 hw
  have hC : gC X0 b X0 b 0 0 := gC.rf hc0 hs0
  obtain ⟨ht0, ht1, ht2, ht3, ht4, ht5, ht6, ht7, ht8⟩ := id ht
  have hl := lv_entry ([Value.ref (b 0)]) (n := 2) (Nat.le_of_ble_eq_true rfl)
  rw [lg_entry_eq]
  generalize (lg_sl ([Value.ref (b 0)]) ++ List.replicate (2 - (lg_sl ([Value.ref (b 0)])).length) Slot.unset).toArray = ls at hl ⊢
  have hl : lv_has ls 2 [(0, Value.ref (b 0))] := hl
  unfold f_Le_syncSegments at hf
  refine lv_iconst (v := 0) hx hb d_Le_syncSegments_0 (by decide) ?_
  refine lv_istore_n (lv' := [(1, Value.int 0), (0, Value.ref (b 0))]) hx hb d_Le_syncSegments_1 rfl hl (by decide) rfl (fun ls hl => ?_)
  refine gA_iter (fun s : gX × Int32 => s.1) (fun (s : gX × Int32) b ls => lv_has ls 2 [(1, Value.int s.2), (0, Value.ref (b 0))]) ?_ gK (X0, 0) _ _ _ _ _ _ hf (lv_sub hl [0, 1] rfl) (hC.mv Y) Y.rb
  rintro ⟨X8, i1_8⟩ u8 b H locs ls cells slots hf hl hC Y hk8 ho8
  have hl : lv_has ls 2 [(1, Value.int i1_8), (0, Value.ref (b 0))] := hl
  have hC : gC X0 _ X8 b cells slots := hC
  have Y : gy D t b A s.heap X8 X8 H locs := Y
  have hf : f_Le_syncSegments_2 X8 i1_8 = some u8 := hf
  unfold f_Le_syncSegments_2 at hf
  refine lv_iload_n hx hb d_Le_syncSegments_2 rfl (lv_at hl 0 rfl) ?_
  refine lv_aload_n hx hb d_Le_syncSegments_3 rfl (lv_at hl 1 rfl) ?_
  refine gy_get (ci := 0) (v := Value.ref (b 8)) (C := "CommitLedger") (T := F_Le) (N := 18) hx hb hts i_Le hown hK Y gF_0 rfl 2 (by decide) kf_Le_26 rfl d_Le_syncSegments_4 ?_
  refine gy_get (ci := 4) (v := Value.int (X8.I 8 4)) (C := "CommitLedger$View") (T := F_Vi) (N := 6) hx hb hts i_Vi hown hK Y gF_8 rfl 4 (by decide) kf_Le_109 rfl d_Le_syncSegments_7 ?_
  refine lv_icmp_ge (tgt := 45) hx hb d_Le_syncSegments_10 (by decide) (fun c10_9 => ?_) (fun c10_9 => ?_)
  · replace hf := gp_t c10_9 hf
    replace hf := gU hf ho8
    exact gA_vret hf hx hb hr hlocks hK hC Y d_Le_syncSegments_45
  · replace hf := gp_f c10_9 hf
    refine lv_aload_n hx hb d_Le_syncSegments_13 rfl (lv_at hl 1 rfl) ?_
    refine lv_aload_n hx hb d_Le_syncSegments_14 rfl (lv_at hl 1 rfl) ?_
    refine gy_get (ci := 0) (v := Value.ref (b 8)) (C := "CommitLedger") (T := F_Le) (N := 18) hx hb hts i_Le hown hK Y gF_0 rfl 2 (by decide) kf_Le_26 rfl d_Le_syncSegments_15 ?_
    refine gy_get (ci := 4) (v := Value.ref (b 9)) (C := "CommitLedger$View") (T := F_Vi) (N := 6) hx hb hts i_Vi hown hK Y gF_8 rfl 0 (by decide) kf_Le_254 rfl d_Le_syncSegments_18 ?_
    refine lv_iload_n hx hb d_Le_syncSegments_21 rfl (lv_at hl 0 rfl) ?_
    refine gy_aald hf hx hb hK Y 2 gF_9 ht2 d_Le_syncSegments_22 (fun hf => ?_)
    have hl : lv_has ls 2 [(1, Value.int i1_8), (0, Value.ref (b 0))] := lv_sub hl [0, 1] rfl
    rcases gCvt_el hf with ⟨X10, hF10, hf⟩ | ⟨E10, X10, hF10, hf⟩
    rotate_left
    · replace hf := gU hf ho8
      cases hf
      refine gA_call (fr := 11) (lo := 261) (o1 := (gR.t E10, X10)) (ig := .invokevirtual 359) (av := [Value.ref (b 0), va_rf (Option.map b (X8.G 9 (gn i1_8)))]) hC Y ⟨Nat.le_refl _, Nat.le_refl _⟩ (fun hc9 hs9 ws h hS hw => K_Le_syncIfNeeded l htr D tys z _ ws h hS t ht b X8 hw (X8.G 9 (gn i1_8)) hc9 hs9 (gR.t E10, X10) hF10) (gx_invV (As := [va_rf (Option.map b (X8.G 9 (gn i1_8)))]) (rest := []) hx hb hown hts km_Le_359 kI_Le_syncIfNeeded kV_Le_syncIfNeeded kc_Le_syncIfNeeded (by decide) (show (parseMethodDescriptor y_Le_syncIfNeeded.desc).map (fun d => d.parameters.length) = some 1 by decide +kernel) (gy_recv (ci := 0) hK Y rfl gF_0) rfl rfl d_Le_syncSegments_23) (gx_cwA hts kc_Le_syncIfNeeded kN_Le ⟨Nat.le_of_ble_eq_true rfl, Nat.le_of_ble_eq_true rfl⟩) hb hml hz hK hY hAz hA hl.1 (lv_room (Nat.le_of_ble_eq_true rfl)) d_Le_syncSegments_23 (fun vz9 b H locs cells slots e9 hb9 hC Y => ?_) (fun xz9 Ez9 ce b H locs cells slots e9 hce hC Y => ?_)
      · have e9 : (Sum.inl vz9 : Option Value ⊕ String) = Sum.inr E10 := e9
        cases e9
      · have e9 : (Sum.inr Ez9 : Option Value ⊕ String) = Sum.inr E10 := e9
        cases e9
        exact gA_pass hne hlocks hce hK hC Y
    refine gA_call (fr := 11) (lo := 261) (o1 := (gR.v, X10)) (ig := .invokevirtual 359) (av := [Value.ref (b 0), va_rf (Option.map b (X8.G 9 (gn i1_8)))]) hC Y ⟨Nat.le_refl _, Nat.le_refl _⟩ (fun hc9 hs9 ws h hS hw => K_Le_syncIfNeeded l htr D tys z _ ws h hS t ht b X8 hw (X8.G 9 (gn i1_8)) hc9 hs9 (gR.v, X10) hF10) (gx_invV (As := [va_rf (Option.map b (X8.G 9 (gn i1_8)))]) (rest := []) hx hb hown hts km_Le_359 kI_Le_syncIfNeeded kV_Le_syncIfNeeded kc_Le_syncIfNeeded (by decide) (show (parseMethodDescriptor y_Le_syncIfNeeded.desc).map (fun d => d.parameters.length) = some 1 by decide +kernel) (gy_recv (ci := 0) hK Y rfl gF_0) rfl rfl d_Le_syncSegments_23) (gx_cwA hts kc_Le_syncIfNeeded kN_Le ⟨Nat.le_of_ble_eq_true rfl, Nat.le_of_ble_eq_true rfl⟩) hb hml hz hK hY hAz hA hl.1 (lv_room (Nat.le_of_ble_eq_true rfl)) d_Le_syncSegments_23 (fun vz9 b H locs cells slots e9 hb9 hC Y => ?_) (fun xz9 Ez9 ce b H locs cells slots e9 hce hC Y => ?_)
    rotate_left
    · have e9 : (Sum.inr Ez9 : Option Value ⊕ String) = Sum.inl none := e9
      cases e9
    have e9 : (Sum.inl vz9 : Option Value ⊕ String) = Sum.inl none := e9
    cases e9
    replace hl : lv_has ls 2 [(1, Value.int i1_8), (0, Value.ref (b 0))] := by rw [hb9 0 (gNm_s (by decide))]; exact hl
    refine W.eq (g2 := F0 m 26 ls []) (by rfl) ?_
    refine lv_aload_n hx hb d_Le_syncSegments_26 rfl (lv_at hl 1 rfl) ?_
    refine lv_aload_n hx hb d_Le_syncSegments_27 rfl (lv_at hl 1 rfl) ?_
    refine gy_get (ci := 0) (v := Value.ref (b 8)) (C := "CommitLedger") (T := F_Le) (N := 18) hx hb hts i_Le hown hK Y gF_0 rfl 2 (by decide) kf_Le_26 rfl d_Le_syncSegments_28 ?_
    refine gy_get (ci := 4) (v := Value.ref (b 10)) (C := "CommitLedger$View") (T := F_Vi) (N := 6) hx hb hts i_Vi hown hK Y gF_8 rfl 1 (by decide) kf_Le_323 rfl d_Le_syncSegments_31 ?_
    refine lv_iload_n hx hb d_Le_syncSegments_34 rfl (lv_at hl 0 rfl) ?_
    refine gy_aald hf hx hb hK Y 2 gF_10 ht2 d_Le_syncSegments_35 (fun hf => ?_)
    have hl : lv_has ls 2 [(1, Value.int i1_8), (0, Value.ref (b 0))] := lv_sub hl [0, 1] rfl
    rcases gCvt_el hf with ⟨X11, hF11, hf⟩ | ⟨E11, X11, hF11, hf⟩
    rotate_left
    · replace hf := gU hf ho8
      cases hf
      refine gA_call (fr := 11) (lo := 261) (o1 := (gR.t E11, X11)) (ig := .invokevirtual 359) (av := [Value.ref (b 0), va_rf (Option.map b (X10.G 10 (gn i1_8)))]) hC Y ⟨Nat.le_refl _, Nat.le_refl _⟩ (fun hc9 hs9 ws h hS hw => K_Le_syncIfNeeded l htr D tys z _ ws h hS t ht b X10 hw (X10.G 10 (gn i1_8)) hc9 hs9 (gR.t E11, X11) hF11) (gx_invV (As := [va_rf (Option.map b (X10.G 10 (gn i1_8)))]) (rest := []) hx hb hown hts km_Le_359 kI_Le_syncIfNeeded kV_Le_syncIfNeeded kc_Le_syncIfNeeded (by decide) (show (parseMethodDescriptor y_Le_syncIfNeeded.desc).map (fun d => d.parameters.length) = some 1 by decide +kernel) (gy_recv (ci := 0) hK Y rfl gF_0) rfl rfl d_Le_syncSegments_36) (gx_cwA hts kc_Le_syncIfNeeded kN_Le ⟨Nat.le_of_ble_eq_true rfl, Nat.le_of_ble_eq_true rfl⟩) hb hml hz hK hY hAz hA hl.1 (lv_room (Nat.le_of_ble_eq_true rfl)) d_Le_syncSegments_36 (fun vz9 b H locs cells slots e9 hb9 hC Y => ?_) (fun xz9 Ez9 ce b H locs cells slots e9 hce hC Y => ?_)
      · have e9 : (Sum.inl vz9 : Option Value ⊕ String) = Sum.inr E11 := e9
        cases e9
      · have e9 : (Sum.inr Ez9 : Option Value ⊕ String) = Sum.inr E11 := e9
        cases e9
        exact gA_pass hne hlocks hce hK hC Y
    refine gA_call (fr := 11) (lo := 261) (o1 := (gR.v, X11)) (ig := .invokevirtual 359) (av := [Value.ref (b 0), va_rf (Option.map b (X10.G 10 (gn i1_8)))]) hC Y ⟨Nat.le_refl _, Nat.le_refl _⟩ (fun hc9 hs9 ws h hS hw => K_Le_syncIfNeeded l htr D tys z _ ws h hS t ht b X10 hw (X10.G 10 (gn i1_8)) hc9 hs9 (gR.v, X11) hF11) (gx_invV (As := [va_rf (Option.map b (X10.G 10 (gn i1_8)))]) (rest := []) hx hb hown hts km_Le_359 kI_Le_syncIfNeeded kV_Le_syncIfNeeded kc_Le_syncIfNeeded (by decide) (show (parseMethodDescriptor y_Le_syncIfNeeded.desc).map (fun d => d.parameters.length) = some 1 by decide +kernel) (gy_recv (ci := 0) hK Y rfl gF_0) rfl rfl d_Le_syncSegments_36) (gx_cwA hts kc_Le_syncIfNeeded kN_Le ⟨Nat.le_of_ble_eq_true rfl, Nat.le_of_ble_eq_true rfl⟩) hb hml hz hK hY hAz hA hl.1 (lv_room (Nat.le_of_ble_eq_true rfl)) d_Le_syncSegments_36 (fun vz9 b H locs cells slots e9 hb9 hC Y => ?_) (fun xz9 Ez9 ce b H locs cells slots e9 hce hC Y => ?_)
    rotate_left
    · have e9 : (Sum.inr Ez9 : Option Value ⊕ String) = Sum.inl none := e9
      cases e9
    have e9 : (Sum.inl vz9 : Option Value ⊕ String) = Sum.inl none := e9
    cases e9
    replace hl : lv_has ls 2 [(1, Value.int i1_8), (0, Value.ref (b 0))] := by rw [hb9 0 (gNm_s (by decide))]; exact hl
    refine W.eq (g2 := F0 m 39 ls []) (by rfl) ?_
    refine lv_iinc (v := i1_8 + 1) (lv' := [(1, Value.int (i1_8 + 1)), (0, Value.ref (b 0))]) hx hb d_Le_syncSegments_39 hl (k := 0) rfl (rfl) (by decide) rfl (fun ls hl => ?_)
    refine lv_goto (tgt := 2) hx hb d_Le_syncSegments_42 (by decide) ?_
    exact hk8 _ _ _ _ _ _ _ hf (lv_sub hl [0, 1] rfl) (hC.mv Y) Y.rb

def f_Le_prepareAll_27 (X : gX) : Option (gR × gX) := gCvt (f_Le_writeLists X) (fun E X => some (gR.t E, X)) (fun X3 => gCvt (f_Le_syncSegments X3) (fun E X => some (gR.t E, X)) (fun X4 => gCvt (f_Le_act X4) (fun E X => some (gR.t E, X)) (fun X5 => gCa (f_Di_newFile X5 0) (fun x6 X6 => (if gOk X6.N x6 then gCvt (f_Le_syncIfNeeded X6 x6) (fun E X => some (gR.t E, X)) (fun X7 => gM (X7.G 0 6) (fun n9 => (if gVie n9 then gCv (f_Vi_copyFrom X7 n9 8) (fun X11 => gM (X11.G 0 6) (fun n12 => (if gVie n12 then (if gOk X11.N x6 then gB (X11.g n12 3 x6) (fun X14 => gB (X14.w 0 8 1) (fun X15 => some (gR.i 1, X15))) else none) else none))) else none))) else none)))))
def f_Le_prepareAll (X0 : gX) : Option (gR × gX) := gCvt (f_Le_flushBuffer X0) (fun E X => some (gR.t E, X)) (fun X1 => (if (X1.I 0 15) ≤ (0 : Int32) then f_Le_prepareAll_27 X1 else gM (X1.G 0 5) (fun n16 => (if gVie n16 then gCi (f_Vi_isSameAs X1 8 n16) (fun x18 X18 => (if x18 = (0 : Int32) then f_Le_prepareAll_27 X18 else some (gR.i 0, X18))) else none))))
set_option maxHeartbeats 4000000 in
set_option maxRecDepth 100000 in
theorem K_Le_prepareAll (l : Launch) (htr : l.stackTraces = false) (D : va_G) (tys : List (ClassId × FieldType)) (z sz : Nat) (ws : va_W) (h : gm_M) (hM : gm_S h ws) (t : Nat → ClassId) (ht : gTy t tys) (b : Nat → Nat) (X0 : gX) (hw : gw D t b X0 h) (hc0 : X0.cc ≤ gCL) (hs0 : X0.ss ≤ gSL) (o : gR × gX) (hf : f_Le_prepareAll X0 = some o) : gx_Met l y_Le_prepareAll [Cond.code y_Le_prepareAll b_Le_prepareAll 2 (some .boolean)] { frames := 13, cells := gCL + 1 - X0.cc, slots := gSL + 6 - X0.ss, locals := 303 } (gx_P z sz D classes tys ws [Value.ref (b 0)]) (gx_Q D classes tys (va_A ws sz) (gPoA D t b X0 o)) (o.2.cc + gT o.1 - X0.cc) (o.2.ss + 6 * gT o.1 - X0.ss) (va_A ws sz) := by
  refine gx_ofW (cc := b_Le_prepareAll) (maxL := 2) (ret := (some .boolean)) (by decide) rfl ?_
  intro p e s m args below meth c s₁ B hml hv
  obtain ⟨rfl, hsz, hz, hP, hK, hD0, hY⟩ := hv
  have hx := B.exec
  have hb := B.bytes
  have hr := B.returns
  have hts := hY.hts (#[Value.ref (b 0)] : Array Value)
  have hown : s.vm.findClass "CommitLedger" = some m.cls := findClass_of_methodNamed B.named
  have hlocks := B.notSynchronized
  have hne : c.exceptionTable.isEmpty = true := B.noHandlers (atoms_spec (ws := [Cond.code y_Le_prepareAll b_Le_prepareAll 2 (some .boolean)]) B.pre _ List.mem_cons_self)
  have hN := gx_ns hP
  subst hsz
  have hAz := gx_az hD0 hz
  have hD := hD0.self (sz := s.heap.size)
  have hA : ∀ q : Nat, s.heap.size ≤ q → va_A ws s.heap.size q := fun q h => Or.inr h
  generalize va_A ws s.heap.size = A at hD hA hAz hN ⊢
  have Y : gy D t b A s.heap X0 X0 s.heap [] := ⟨h, ⟨ws, hM, hP, hD, va_S.rf⟩, hw, gEq.rf⟩
  clear hP hD hM hD0 hw
  have hC : gC X0 b X0 b 0 0 := gC.rf hc0 hs0
  obtain ⟨ht0, ht1, ht2, ht3, ht4, ht5, ht6, ht7, ht8⟩ := id ht
  have hl := lv_entry ([Value.ref (b 0)]) (n := 2) (Nat.le_of_ble_eq_true rfl)
  rw [lg_entry_eq]
  generalize (lg_sl ([Value.ref (b 0)]) ++ List.replicate (2 - (lg_sl ([Value.ref (b 0)])).length) Slot.unset).toArray = ls at hl ⊢
  have hl : lv_has ls 2 [(0, Value.ref (b 0))] := hl
  refine gA_cut (pcJ := 27) hC Y (fun s : gX => f_Le_prepareAll_27 s) o (fun s => s) (fun s b ls => lv_has ls 2 [(0, Value.ref (b 0))]) (fun s b => []) ?_ (fun J27 => ?_)
  · rintro X20 b H locs ls cells slots hf hl hC Y
    have hl : lv_has ls 2 [(0, Value.ref (b 0))] := hl
    have hC : gC X0 _ X20 b cells slots := hC
    have Y : gy D t b A s.heap X20 X20 H locs := Y
    have hf : f_Le_prepareAll_27 X20 = some o := hf
    unfold f_Le_prepareAll_27 at hf
    refine lv_aload_n hx hb d_Le_prepareAll_27 rfl (lv_at hl 0 rfl) ?_
    have hl : lv_has ls 2 [(0, Value.ref (b 0))] := lv_sub hl [0] rfl
    rcases gCvt_el hf with ⟨X21, hF21, hf⟩ | ⟨E21, X21, hF21, hf⟩
    rotate_left
    · cases hf
      refine gA_call (fr := 11) (lo := 261) (o1 := (gR.t E21, X21)) (ig := .invokevirtual 353) (av := [Value.ref (b 0)]) hC Y ⟨Nat.le_refl _, Nat.le_refl _⟩ (fun hc9 hs9 ws h hS hw => K_Le_writeLists l htr D tys z _ ws h hS t ht b X20 hw hc9 hs9 (gR.t E21, X21) hF21) (gx_invV (As := []) (rest := []) hx hb hown hts km_Le_353 kI_Le_writeLists kV_Le_writeLists kc_Le_writeLists (by decide) (show (parseMethodDescriptor y_Le_writeLists.desc).map (fun d => d.parameters.length) = some 0 by decide +kernel) (gy_recv (ci := 0) hK Y rfl gF_0) rfl rfl d_Le_prepareAll_28) (gx_cwA hts kc_Le_writeLists kN_Le ⟨Nat.le_of_ble_eq_true rfl, Nat.le_of_ble_eq_true rfl⟩) hb hml hz hK hY hAz hA hl.1 (lv_room (Nat.le_of_ble_eq_true rfl)) d_Le_prepareAll_28 (fun vz9 b H locs cells slots e9 hb9 hC Y => ?_) (fun xz9 Ez9 ce b H locs cells slots e9 hce hC Y => ?_)
      · have e9 : (Sum.inl vz9 : Option Value ⊕ String) = Sum.inr E21 := e9
        cases e9
      · have e9 : (Sum.inr Ez9 : Option Value ⊕ String) = Sum.inr E21 := e9
        cases e9
        exact gA_pass hne hlocks hce hK hC Y
    refine gA_call (fr := 11) (lo := 261) (o1 := (gR.v, X21)) (ig := .invokevirtual 353) (av := [Value.ref (b 0)]) hC Y ⟨Nat.le_refl _, Nat.le_refl _⟩ (fun hc9 hs9 ws h hS hw => K_Le_writeLists l htr D tys z _ ws h hS t ht b X20 hw hc9 hs9 (gR.v, X21) hF21) (gx_invV (As := []) (rest := []) hx hb hown hts km_Le_353 kI_Le_writeLists kV_Le_writeLists kc_Le_writeLists (by decide) (show (parseMethodDescriptor y_Le_writeLists.desc).map (fun d => d.parameters.length) = some 0 by decide +kernel) (gy_recv (ci := 0) hK Y rfl gF_0) rfl rfl d_Le_prepareAll_28) (gx_cwA hts kc_Le_writeLists kN_Le ⟨Nat.le_of_ble_eq_true rfl, Nat.le_of_ble_eq_true rfl⟩) hb hml hz hK hY hAz hA hl.1 (lv_room (Nat.le_of_ble_eq_true rfl)) d_Le_prepareAll_28 (fun vz9 b H locs cells slots e9 hb9 hC Y => ?_) (fun xz9 Ez9 ce b H locs cells slots e9 hce hC Y => ?_)
    rotate_left
    · have e9 : (Sum.inr Ez9 : Option Value ⊕ String) = Sum.inl none := e9
      cases e9
    have e9 : (Sum.inl vz9 : Option Value ⊕ String) = Sum.inl none := e9
    cases e9
    replace hl : lv_has ls 2 [(0, Value.ref (b 0))] := by rw [hb9 0 (gNm_s (by decide))]; exact hl
    refine W.eq (g2 := F0 m 31 ls []) (by rfl) ?_
    refine lv_aload_n hx hb d_Le_prepareAll_31 rfl (lv_at hl 0 rfl) ?_
    have hl : lv_has ls 2 [(0, Value.ref (b 0))] := lv_sub hl [0] rfl
    rcases gCvt_el hf with ⟨X22, hF22, hf⟩ | ⟨E22, X22, hF22, hf⟩
    rotate_left
    · cases hf
      refine gA_call (fr := 12) (lo := 282) (o1 := (gR.t E22, X22)) (ig := .invokevirtual 356) (av := [Value.ref (b 0)]) hC Y ⟨Nat.le_refl _, Nat.le_refl _⟩ (fun hc9 hs9 ws h hS hw => K_Le_syncSegments l htr D tys z _ ws h hS t ht b X21 hw hc9 hs9 (gR.t E22, X22) hF22) (gx_invV (As := []) (rest := []) hx hb hown hts km_Le_356 kI_Le_syncSegments kV_Le_syncSegments kc_Le_syncSegments (by decide) (show (parseMethodDescriptor y_Le_syncSegments.desc).map (fun d => d.parameters.length) = some 0 by decide +kernel) (gy_recv (ci := 0) hK Y rfl gF_0) rfl rfl d_Le_prepareAll_32) (gx_cwA hts kc_Le_syncSegments kN_Le ⟨Nat.le_of_ble_eq_true rfl, Nat.le_of_ble_eq_true rfl⟩) hb hml hz hK hY hAz hA hl.1 (lv_room (Nat.le_of_ble_eq_true rfl)) d_Le_prepareAll_32 (fun vz9 b H locs cells slots e9 hb9 hC Y => ?_) (fun xz9 Ez9 ce b H locs cells slots e9 hce hC Y => ?_)
      · have e9 : (Sum.inl vz9 : Option Value ⊕ String) = Sum.inr E22 := e9
        cases e9
      · have e9 : (Sum.inr Ez9 : Option Value ⊕ String) = Sum.inr E22 := e9
        cases e9
        exact gA_pass hne hlocks hce hK hC Y
    refine gA_call (fr := 12) (lo := 282) (o1 := (gR.v, X22)) (ig := .invokevirtual 356) (av := [Value.ref (b 0)]) hC Y ⟨Nat.le_refl _, Nat.le_refl _⟩ (fun hc9 hs9 ws h hS hw => K_Le_syncSegments l htr D tys z _ ws h hS t ht b X21 hw hc9 hs9 (gR.v, X22) hF22) (gx_invV (As := []) (rest := []) hx hb hown hts km_Le_356 kI_Le_syncSegments kV_Le_syncSegments kc_Le_syncSegments (by decide) (show (parseMethodDescriptor y_Le_syncSegments.desc).map (fun d => d.parameters.length) = some 0 by decide +kernel) (gy_recv (ci := 0) hK Y rfl gF_0) rfl rfl d_Le_prepareAll_32) (gx_cwA hts kc_Le_syncSegments kN_Le ⟨Nat.le_of_ble_eq_true rfl, Nat.le_of_ble_eq_true rfl⟩) hb hml hz hK hY hAz hA hl.1 (lv_room (Nat.le_of_ble_eq_true rfl)) d_Le_prepareAll_32 (fun vz9 b H locs cells slots e9 hb9 hC Y => ?_) (fun xz9 Ez9 ce b H locs cells slots e9 hce hC Y => ?_)
    rotate_left
    · have e9 : (Sum.inr Ez9 : Option Value ⊕ String) = Sum.inl none := e9
      cases e9
    have e9 : (Sum.inl vz9 : Option Value ⊕ String) = Sum.inl none := e9
    cases e9
    replace hl : lv_has ls 2 [(0, Value.ref (b 0))] := by rw [hb9 0 (gNm_s (by decide))]; exact hl
    refine W.eq (g2 := F0 m 35 ls []) (by rfl) ?_
    refine lv_aload_n hx hb d_Le_prepareAll_35 rfl (lv_at hl 0 rfl) ?_
    have hl : lv_has ls 2 [(0, Value.ref (b 0))] := lv_sub hl [0] rfl
    rcases gCvt_el hf with ⟨X23, hF23, hf⟩ | ⟨E23, X23, hF23, hf⟩
    rotate_left
    · cases hf
      refine gA_call (fr := 10) (lo := 241) (o1 := (gR.t E23, X23)) (ig := .invokevirtual 311) (av := [Value.ref (b 0)]) hC Y ⟨Nat.le_refl _, Nat.le_refl _⟩ (fun hc9 hs9 ws h hS hw => K_Le_act l htr D tys z _ ws h hS t ht b X22 hw hc9 hs9 (gR.t E23, X23) hF23) (gx_invV (As := []) (rest := []) hx hb hown hts km_Le_311 kI_Le_act kV_Le_act kc_Le_act (by decide) (show (parseMethodDescriptor y_Le_act.desc).map (fun d => d.parameters.length) = some 0 by decide +kernel) (gy_recv (ci := 0) hK Y rfl gF_0) rfl rfl d_Le_prepareAll_36) (gx_cwA hts kc_Le_act kN_Le ⟨Nat.le_of_ble_eq_true rfl, Nat.le_of_ble_eq_true rfl⟩) hb hml hz hK hY hAz hA hl.1 (lv_room (Nat.le_of_ble_eq_true rfl)) d_Le_prepareAll_36 (fun vz9 b H locs cells slots e9 hb9 hC Y => ?_) (fun xz9 Ez9 ce b H locs cells slots e9 hce hC Y => ?_)
      · have e9 : (Sum.inl vz9 : Option Value ⊕ String) = Sum.inr E23 := e9
        cases e9
      · have e9 : (Sum.inr Ez9 : Option Value ⊕ String) = Sum.inr E23 := e9
        cases e9
        exact gA_pass hne hlocks hce hK hC Y
    refine gA_call (fr := 10) (lo := 241) (o1 := (gR.v, X23)) (ig := .invokevirtual 311) (av := [Value.ref (b 0)]) hC Y ⟨Nat.le_refl _, Nat.le_refl _⟩ (fun hc9 hs9 ws h hS hw => K_Le_act l htr D tys z _ ws h hS t ht b X22 hw hc9 hs9 (gR.v, X23) hF23) (gx_invV (As := []) (rest := []) hx hb hown hts km_Le_311 kI_Le_act kV_Le_act kc_Le_act (by decide) (show (parseMethodDescriptor y_Le_act.desc).map (fun d => d.parameters.length) = some 0 by decide +kernel) (gy_recv (ci := 0) hK Y rfl gF_0) rfl rfl d_Le_prepareAll_36) (gx_cwA hts kc_Le_act kN_Le ⟨Nat.le_of_ble_eq_true rfl, Nat.le_of_ble_eq_true rfl⟩) hb hml hz hK hY hAz hA hl.1 (lv_room (Nat.le_of_ble_eq_true rfl)) d_Le_prepareAll_36 (fun vz9 b H locs cells slots e9 hb9 hC Y => ?_) (fun xz9 Ez9 ce b H locs cells slots e9 hce hC Y => ?_)
    rotate_left
    · have e9 : (Sum.inr Ez9 : Option Value ⊕ String) = Sum.inl none := e9
      cases e9
    have e9 : (Sum.inl vz9 : Option Value ⊕ String) = Sum.inl none := e9
    cases e9
    replace hl : lv_has ls 2 [(0, Value.ref (b 0))] := by rw [hb9 0 (gNm_s (by decide))]; exact hl
    refine W.eq (g2 := F0 m 39 ls []) (by rfl) ?_
    refine lv_aload_n hx hb d_Le_prepareAll_39 rfl (lv_at hl 0 rfl) ?_
    refine gy_get (ci := 0) (v := Value.ref (b 5)) (C := "CommitLedger") (T := F_Le) (N := 18) hx hb hts i_Le hown hK Y gF_0 rfl 1 (by decide) kf_Le_19 rfl d_Le_prepareAll_40 ?_
    refine lv_iconst (v := 0) hx hb d_Le_prepareAll_43 (by decide) ?_
    have hl : lv_has ls 2 [(0, Value.ref (b 0))] := lv_sub hl [0] rfl
    obtain ⟨x24, X24, hF24, hf⟩ := gCa_el hf
    refine gA_call (fr := 8) (lo := 197) (o1 := (gR.a x24, X24)) (ig := .invokevirtual 314) (av := [Value.ref (b 5), Value.int 0]) hC Y ⟨Nat.le_refl _, Nat.le_refl _⟩ (fun hc9 hs9 ws h hS hw => K_Di_newFile l htr D tys z _ ws h hS t ht b X23 hw 0 hc9 hs9 (gR.a x24, X24) hF24) (gx_invV (As := [Value.int 0]) (rest := []) hx hb hown hts km_Le_314 kI_Di_newFile kV_Di_newFile kc_Di_newFile (by decide) (show (parseMethodDescriptor y_Di_newFile.desc).map (fun d => d.parameters.length) = some 1 by decide +kernel) (gy_recv (ci := 2) hK Y rfl gF_5) rfl rfl d_Le_prepareAll_44) (gx_cwA hts kc_Di_newFile kN_Di ⟨Nat.le_of_ble_eq_true rfl, Nat.le_of_ble_eq_true rfl⟩) hb hml hz hK hY hAz hA hl.1 (lv_room (Nat.le_of_ble_eq_true rfl)) d_Le_prepareAll_44 (fun vz9 b H locs cells slots e9 hb9 hC Y => ?_) (fun xz9 Ez9 ce b H locs cells slots e9 hce hC Y => ?_)
    rotate_left
    · have e9 : (Sum.inr Ez9 : Option Value ⊕ String) = Sum.inl (some (va_rf (Option.map b x24))) := e9
      cases e9
    have e9 : (Sum.inl vz9 : Option Value ⊕ String) = Sum.inl (some (va_rf (Option.map b x24))) := e9
    cases e9
    replace hl : lv_has ls 2 [(0, Value.ref (b 0))] := by rw [hb9 0 (gNm_s (by decide))]; exact hl
    refine W.eq (g2 := F0 m 47 ls [va_rf (Option.map b x24)]) (by rfl) ?_
    refine lv_astore_nO (lv' := [(1, va_rf (Option.map b x24)), (0, Value.ref (b 0))]) hx hb d_Le_prepareAll_47 rfl hl (by decide) rfl (fun ls hl => ?_)
    refine lv_aload_n hx hb d_Le_prepareAll_48 rfl (lv_at hl 1 rfl) ?_
    refine lv_aload_nO hx hb d_Le_prepareAll_49 rfl (lv_at hl 0 rfl) ?_
    have hl : lv_has ls 2 [(1, va_rf (Option.map b x24)), (0, Value.ref (b 0))] := lv_sub hl [0, 1] rfl
    obtain ⟨hg26, hf⟩ := gp_g hf
    rcases gCvt_el hf with ⟨X25, hF25, hf⟩ | ⟨E25, X25, hF25, hf⟩
    rotate_left
    · cases hf
      refine gA_call (fr := 11) (lo := 261) (o1 := (gR.t E25, X25)) (ig := .invokevirtual 359) (av := [Value.ref (b 0), va_rf (Option.map b x24)]) hC Y ⟨Nat.le_refl _, Nat.le_refl _⟩ (fun hc9 hs9 ws h hS hw => K_Le_syncIfNeeded l htr D tys z _ ws h hS t ht b X24 hw x24 hc9 hs9 (gR.t E25, X25) hF25) (gx_invV (As := [va_rf (Option.map b x24)]) (rest := []) hx hb hown hts km_Le_359 kI_Le_syncIfNeeded kV_Le_syncIfNeeded kc_Le_syncIfNeeded (by decide) (show (parseMethodDescriptor y_Le_syncIfNeeded.desc).map (fun d => d.parameters.length) = some 1 by decide +kernel) (gy_recv (ci := 0) hK Y rfl gF_0) rfl rfl d_Le_prepareAll_50) (gx_cwA hts kc_Le_syncIfNeeded kN_Le ⟨Nat.le_of_ble_eq_true rfl, Nat.le_of_ble_eq_true rfl⟩) hb hml hz hK hY hAz hA hl.1 (lv_room (Nat.le_of_ble_eq_true rfl)) d_Le_prepareAll_50 (fun vz9 b H locs cells slots e9 hb9 hC Y => ?_) (fun xz9 Ez9 ce b H locs cells slots e9 hce hC Y => ?_)
      · have e9 : (Sum.inl vz9 : Option Value ⊕ String) = Sum.inr E25 := e9
        cases e9
      · have e9 : (Sum.inr Ez9 : Option Value ⊕ String) = Sum.inr E25 := e9
        cases e9
        exact gA_pass hne hlocks hce hK hC Y
    refine gA_call (fr := 11) (lo := 261) (o1 := (gR.v, X25)) (ig := .invokevirtual 359) (av := [Value.ref (b 0), va_rf (Option.map b x24)]) hC Y ⟨Nat.le_refl _, Nat.le_refl _⟩ (fun hc9 hs9 ws h hS hw => K_Le_syncIfNeeded l htr D tys z _ ws h hS t ht b X24 hw x24 hc9 hs9 (gR.v, X25) hF25) (gx_invV (As := [va_rf (Option.map b x24)]) (rest := []) hx hb hown hts km_Le_359 kI_Le_syncIfNeeded kV_Le_syncIfNeeded kc_Le_syncIfNeeded (by decide) (show (parseMethodDescriptor y_Le_syncIfNeeded.desc).map (fun d => d.parameters.length) = some 1 by decide +kernel) (gy_recv (ci := 0) hK Y rfl gF_0) rfl rfl d_Le_prepareAll_50) (gx_cwA hts kc_Le_syncIfNeeded kN_Le ⟨Nat.le_of_ble_eq_true rfl, Nat.le_of_ble_eq_true rfl⟩) hb hml hz hK hY hAz hA hl.1 (lv_room (Nat.le_of_ble_eq_true rfl)) d_Le_prepareAll_50 (fun vz9 b H locs cells slots e9 hb9 hC Y => ?_) (fun xz9 Ez9 ce b H locs cells slots e9 hce hC Y => ?_)
    rotate_left
    · have e9 : (Sum.inr Ez9 : Option Value ⊕ String) = Sum.inl none := e9
      cases e9
    have e9 : (Sum.inl vz9 : Option Value ⊕ String) = Sum.inl none := e9
    cases e9
    replace hl : lv_has ls 2 [(1, va_rf (Option.map b x24)), (0, Value.ref (b 0))] := by rw [gOk_map hg26 hb9]; rw [hb9 0 (gNm_s (by decide))]; exact hl
    refine W.eq (g2 := F0 m 53 ls []) (by rfl) ?_
    refine lv_aload_n hx hb d_Le_prepareAll_53 rfl (lv_at hl 1 rfl) ?_
    refine gy_get (ci := 0) (v := va_rf (Option.map b (X25.G 0 6))) (C := "CommitLedger") (T := F_Le) (N := 18) hx hb hts i_Le hown hK Y gF_0 rfl 6 (by decide) kf_Le_33 rfl d_Le_prepareAll_54 ?_
    refine lv_aload_n hx hb d_Le_prepareAll_57 rfl (lv_at hl 1 rfl) ?_
    refine gy_get (ci := 0) (v := Value.ref (b 8)) (C := "CommitLedger") (T := F_Le) (N := 18) hx hb hts i_Le hown hK Y gF_0 rfl 2 (by decide) kf_Le_26 rfl d_Le_prepareAll_58 ?_
    obtain ⟨n27, e27, hf⟩ := gM_el hf
    refine W.eq (g2 := F0 m 61 ls [Value.ref (b 8), Value.ref (b n27)]) (by rw [e27] <;> rfl) ?_
    obtain ⟨hv28, hf⟩ := gp_g hf
    obtain ⟨X29, hF29, hf⟩ := gCv_el hf
    refine gy_callV (rm := { frames := 1, cells := 0, slots := 0, locals := 12 }) (ig := .invokevirtual 87) (av := [Value.ref (b n27), Value.ref (b 8)]) Y (fun ws h hS hw => K_Vi_copyFrom l htr D tys z _ ws h hS t ht b X25 hw n27 hv28 8 (by decide) (gR.v, X29) hF29) (gx_invV (As := [Value.ref (b 8)]) (rest := []) hx hb hown hts km_Le_87 kI_Vi_copyFrom kV_Vi_copyFrom kc_Vi_copyFrom (by decide) (show (parseMethodDescriptor y_Vi_copyFrom.desc).map (fun d => d.parameters.length) = some 1 by decide +kernel) (gy_recv (ci := 4) hK Y rfl (gF_Vi hv28)) rfl rfl d_Le_prepareAll_61) (gx_cw (z := 0) hts kc_Vi_copyFrom kN_Vi rfl rfl ⟨Nat.le_of_ble_eq_true rfl, Nat.le_of_ble_eq_true rfl⟩) hb hml hz hK hY hAz hA hl.1 (lv_room (Nat.le_of_ble_eq_true rfl)) d_Le_prepareAll_61 ⟨hC.rc0 (Nat.le_refl _), hC.rs0 (Nat.le_refl _)⟩ (fun H locs Y => ?_)
    refine lv_aload_n hx hb d_Le_prepareAll_64 rfl (lv_at hl 1 rfl) ?_
    refine gy_get (ci := 0) (v := va_rf (Option.map b (X29.G 0 6))) (C := "CommitLedger") (T := F_Le) (N := 18) hx hb hts i_Le hown hK Y gF_0 rfl 6 (by decide) kf_Le_33 rfl d_Le_prepareAll_65 ?_
    refine lv_aload_nO hx hb d_Le_prepareAll_68 rfl (lv_at hl 0 rfl) ?_
    obtain ⟨n30, e30, hf⟩ := gM_el hf
    refine W.eq (g2 := F0 m 69 ls [va_rf (Option.map b x24), Value.ref (b n30)]) (by rw [e30] <;> rfl) ?_
    obtain ⟨hv31, hf⟩ := gp_g hf
    refine gy_putR (x := x24) hf (ci := 4) (C2 := "CommitLedger$LedgerFile") (C := "CommitLedger$View") (T := F_Vi) (N := 6) hx hb hts i_Vi t_Vi_ok n_Vi hown hK Y (gF_Vi hv31) rfl (by decide) kf_Le_362 rfl (by decide +kernel) (Nat.le_of_ble_eq_true rfl) (gF_Vi hv31) d_Le_prepareAll_69 (fun X32 H locs hf Y => ?_)
    refine lv_aload_n hx hb d_Le_prepareAll_72 rfl (lv_at hl 1 rfl) ?_
    refine lv_iconst (v := 1) hx hb d_Le_prepareAll_73 (by decide) ?_
    refine gy_put hf (ci := 0) (ty := .boolean) (C := "CommitLedger") (T := F_Le) (N := 18) hx hb hts i_Le t_Le_ok n_Le hown hK Y gF_0 rfl (by decide) kf_Le_178 rfl (by decide +kernel) rfl rfl (Nat.le_of_ble_eq_true rfl) gF_0 d_Le_prepareAll_74 (fun X33 H locs hf Y => ?_)
    refine lv_iconst (v := 1) hx hb d_Le_prepareAll_77 (by decide) ?_
    exact gA_zret hf hx hb hr hlocks hK hC Y rfl d_Le_prepareAll_78
  unfold f_Le_prepareAll at hf
  refine lv_aload_n hx hb d_Le_prepareAll_0 rfl (lv_at hl 0 rfl) ?_
  have hl : lv_has ls 2 [(0, Value.ref (b 0))] := lv_sub hl [0] rfl
  rcases gCvt_el hf with ⟨X34, hF34, hf⟩ | ⟨E34, X34, hF34, hf⟩
  rotate_left
  · cases hf
    refine gA_call (fr := 11) (lo := 261) (o1 := (gR.t E34, X34)) (ig := .invokevirtual 128) (av := [Value.ref (b 0)]) hC Y ⟨Nat.le_refl _, Nat.le_refl _⟩ (fun hc9 hs9 ws h hS hw => K_Le_flushBuffer l htr D tys z _ ws h hS t ht b X0 hw hc9 hs9 (gR.t E34, X34) hF34) (gx_invV (As := []) (rest := []) hx hb hown hts km_Le_128 kI_Le_flushBuffer kV_Le_flushBuffer kc_Le_flushBuffer (by decide) (show (parseMethodDescriptor y_Le_flushBuffer.desc).map (fun d => d.parameters.length) = some 0 by decide +kernel) (gy_recv (ci := 0) hK Y rfl gF_0) rfl rfl d_Le_prepareAll_1) (gx_cwA hts kc_Le_flushBuffer kN_Le ⟨Nat.le_of_ble_eq_true rfl, Nat.le_of_ble_eq_true rfl⟩) hb hml hz hK hY hAz hA hl.1 (lv_room (Nat.le_of_ble_eq_true rfl)) d_Le_prepareAll_1 (fun vz9 b H locs cells slots e9 hb9 hC Y => ?_) (fun xz9 Ez9 ce b H locs cells slots e9 hce hC Y => ?_)
    · have e9 : (Sum.inl vz9 : Option Value ⊕ String) = Sum.inr E34 := e9
      cases e9
    · have e9 : (Sum.inr Ez9 : Option Value ⊕ String) = Sum.inr E34 := e9
      cases e9
      exact gA_pass hne hlocks hce hK hC Y
  refine gA_call (fr := 11) (lo := 261) (o1 := (gR.v, X34)) (ig := .invokevirtual 128) (av := [Value.ref (b 0)]) hC Y ⟨Nat.le_refl _, Nat.le_refl _⟩ (fun hc9 hs9 ws h hS hw => K_Le_flushBuffer l htr D tys z _ ws h hS t ht b X0 hw hc9 hs9 (gR.v, X34) hF34) (gx_invV (As := []) (rest := []) hx hb hown hts km_Le_128 kI_Le_flushBuffer kV_Le_flushBuffer kc_Le_flushBuffer (by decide) (show (parseMethodDescriptor y_Le_flushBuffer.desc).map (fun d => d.parameters.length) = some 0 by decide +kernel) (gy_recv (ci := 0) hK Y rfl gF_0) rfl rfl d_Le_prepareAll_1) (gx_cwA hts kc_Le_flushBuffer kN_Le ⟨Nat.le_of_ble_eq_true rfl, Nat.le_of_ble_eq_true rfl⟩) hb hml hz hK hY hAz hA hl.1 (lv_room (Nat.le_of_ble_eq_true rfl)) d_Le_prepareAll_1 (fun vz9 b H locs cells slots e9 hb9 hC Y => ?_) (fun xz9 Ez9 ce b H locs cells slots e9 hce hC Y => ?_)
  rotate_left
  · have e9 : (Sum.inr Ez9 : Option Value ⊕ String) = Sum.inl none := e9
    cases e9
  have e9 : (Sum.inl vz9 : Option Value ⊕ String) = Sum.inl none := e9
  cases e9
  replace hl : lv_has ls 2 [(0, Value.ref (b 0))] := by rw [hb9 0 (gNm_s (by decide))]; exact hl
  refine W.eq (g2 := F0 m 4 ls []) (by rfl) ?_
  refine lv_aload_n hx hb d_Le_prepareAll_4 rfl (lv_at hl 0 rfl) ?_
  refine gy_get (ci := 0) (v := Value.int (X34.I 0 15)) (C := "CommitLedger") (T := F_Le) (N := 18) hx hb hts i_Le hown hK Y gF_0 rfl 15 (by decide) kf_Le_84 rfl d_Le_prepareAll_5 ?_
  refine lv_if_le (tgt := 27) hx hb d_Le_prepareAll_8 (by decide) (fun c8_35 => ?_) (fun c8_35 => ?_)
  · replace hf := gp_t c8_35 hf
    exact J27 X34 _ _ _ _ _ _ hf (lv_sub hl [0] rfl) (hC.mv Y) Y.rb
  · replace hf := gp_f c8_35 hf
    refine lv_aload_n hx hb d_Le_prepareAll_11 rfl (lv_at hl 0 rfl) ?_
    refine gy_get (ci := 0) (v := Value.ref (b 8)) (C := "CommitLedger") (T := F_Le) (N := 18) hx hb hts i_Le hown hK Y gF_0 rfl 2 (by decide) kf_Le_26 rfl d_Le_prepareAll_12 ?_
    refine lv_aload_n hx hb d_Le_prepareAll_15 rfl (lv_at hl 0 rfl) ?_
    refine gy_get (ci := 0) (v := va_rf (Option.map b (X34.G 0 5))) (C := "CommitLedger") (T := F_Le) (N := 18) hx hb hts i_Le hown hK Y gF_0 rfl 5 (by decide) kf_Le_30 rfl d_Le_prepareAll_16 ?_
    obtain ⟨n36, e36, hf⟩ := gM_el hf
    refine W.eq (g2 := F0 m 19 ls [Value.ref (b n36), Value.ref (b 8)]) (by rw [e36] <;> rfl) ?_
    obtain ⟨hv37, hf⟩ := gp_g hf
    obtain ⟨x38, X38, hF38, hf⟩ := gCi_el hf
    refine gy_callI (rm := { frames := 1, cells := 0, slots := 0, locals := 12 }) (ig := .invokevirtual 349) (av := [Value.ref (b 8), Value.ref (b n36)]) Y (fun ws h hS hw => K_Vi_isSameAs l htr D tys z _ ws h hS t ht b X34 hw 8 (by decide) n36 hv37 (gR.i x38, X38) hF38) (gx_invV (As := [Value.ref (b n36)]) (rest := []) hx hb hown hts km_Le_349 kI_Vi_isSameAs kV_Vi_isSameAs kc_Vi_isSameAs (by decide) (show (parseMethodDescriptor y_Vi_isSameAs.desc).map (fun d => d.parameters.length) = some 1 by decide +kernel) (gy_recv (ci := 4) hK Y rfl gF_8) rfl rfl d_Le_prepareAll_19) (gx_cw (z := 0) hts kc_Vi_isSameAs kN_Vi rfl rfl ⟨Nat.le_of_ble_eq_true rfl, Nat.le_of_ble_eq_true rfl⟩) hb hml hz hK hY hAz hA hl.1 (lv_room (Nat.le_of_ble_eq_true rfl)) d_Le_prepareAll_19 ⟨hC.rc0 (Nat.le_refl _), hC.rs0 (Nat.le_refl _)⟩ (fun H locs Y => ?_)
    refine lv_if_eq (tgt := 27) hx hb d_Le_prepareAll_22 (by decide) (fun c22_39 => ?_) (fun c22_39 => ?_)
    · replace hf := gp_t c22_39 hf
      exact J27 X38 _ _ _ _ _ _ hf (lv_sub hl [0] rfl) (hC.mv Y) Y.rb
    · replace hf := gp_f c22_39 hf
      refine lv_iconst (v := 0) hx hb d_Le_prepareAll_25 (by decide) ?_
      exact gA_zret hf hx hb hr hlocks hK hC Y rfl d_Le_prepareAll_26

def f_Le_renamePrepared (X0 : gX) : Option (gR × gX) := gCvt (f_Le_act X0) (fun E X => some (gR.t E, X)) (fun X1 => (if gOk X1.N (X1.G 0 6) then gB (X1.g 0 5 (X1.G 0 6)) (fun X2 => (if gOk X2.N (X1.G 0 5) then gB (X2.g 0 6 (X1.G 0 5)) (fun X3 => gB (X3.w 0 8 0) (fun X4 => gB (X4.w 0 15 ((X4.I 0 15) + 1)) (fun X5 => gCv (f_Le_dropUnneededFiles X5) (fun X6 => some (gR.v, X6))))) else none)) else none))
set_option maxHeartbeats 4000000 in
set_option maxRecDepth 100000 in
theorem K_Le_renamePrepared (l : Launch) (htr : l.stackTraces = false) (D : va_G) (tys : List (ClassId × FieldType)) (z sz : Nat) (ws : va_W) (h : gm_M) (hM : gm_S h ws) (t : Nat → ClassId) (ht : gTy t tys) (b : Nat → Nat) (X0 : gX) (hw : gw D t b X0 h) (hc0 : X0.cc ≤ gCL) (hs0 : X0.ss ≤ gSL) (o : gR × gX) (hf : f_Le_renamePrepared X0 = some o) : gx_Met l y_Le_renamePrepared [Cond.code y_Le_renamePrepared b_Le_renamePrepared 2 none] { frames := 11, cells := gCL + 1 - X0.cc, slots := gSL + 6 - X0.ss, locals := 261 } (gx_P z sz D classes tys ws [Value.ref (b 0)]) (gx_Q D classes tys (va_A ws sz) (gPoA D t b X0 o)) (o.2.cc + gT o.1 - X0.cc) (o.2.ss + 6 * gT o.1 - X0.ss) (va_A ws sz) := by
  refine gx_ofW (cc := b_Le_renamePrepared) (maxL := 2) (ret := none) (by decide) rfl ?_
  intro p e s m args below meth c s₁ B hml hv
  obtain ⟨rfl, hsz, hz, hP, hK, hD0, hY⟩ := hv
  have hx := B.exec
  have hb := B.bytes
  have hr := B.returns
  have hts := hY.hts (#[Value.ref (b 0)] : Array Value)
  have hown : s.vm.findClass "CommitLedger" = some m.cls := findClass_of_methodNamed B.named
  have hlocks := B.notSynchronized
  have hne : c.exceptionTable.isEmpty = true := B.noHandlers (atoms_spec (ws := [Cond.code y_Le_renamePrepared b_Le_renamePrepared 2 none]) B.pre _ List.mem_cons_self)
  have hN := gx_ns hP
  subst hsz
  have hAz := gx_az hD0 hz
  have hD := hD0.self (sz := s.heap.size)
  have hA : ∀ q : Nat, s.heap.size ≤ q → va_A ws s.heap.size q := fun q h => Or.inr h
  generalize va_A ws s.heap.size = A at hD hA hAz hN ⊢
  have Y : gy D t b A s.heap X0 X0 s.heap [] := ⟨h, ⟨ws, hM, hP, hD, va_S.rf⟩, hw, gEq.rf⟩
  clear hP hD hM hD0 hw
  have hC : gC X0 b X0 b 0 0 := gC.rf hc0 hs0
  obtain ⟨ht0, ht1, ht2, ht3, ht4, ht5, ht6, ht7, ht8⟩ := id ht
  have hl := lv_entry ([Value.ref (b 0)]) (n := 2) (Nat.le_of_ble_eq_true rfl)
  rw [lg_entry_eq]
  generalize (lg_sl ([Value.ref (b 0)]) ++ List.replicate (2 - (lg_sl ([Value.ref (b 0)])).length) Slot.unset).toArray = ls at hl ⊢
  have hl : lv_has ls 2 [(0, Value.ref (b 0))] := hl
  unfold f_Le_renamePrepared at hf
  refine lv_aload_n hx hb d_Le_renamePrepared_0 rfl (lv_at hl 0 rfl) ?_
  have hl : lv_has ls 2 [(0, Value.ref (b 0))] := lv_sub hl [0] rfl
  rcases gCvt_el hf with ⟨X7, hF7, hf⟩ | ⟨E7, X7, hF7, hf⟩
  rotate_left
  · cases hf
    refine gA_call (fr := 10) (lo := 241) (o1 := (gR.t E7, X7)) (ig := .invokevirtual 311) (av := [Value.ref (b 0)]) hC Y ⟨Nat.le_refl _, Nat.le_refl _⟩ (fun hc9 hs9 ws h hS hw => K_Le_act l htr D tys z _ ws h hS t ht b X0 hw hc9 hs9 (gR.t E7, X7) hF7) (gx_invV (As := []) (rest := []) hx hb hown hts km_Le_311 kI_Le_act kV_Le_act kc_Le_act (by decide) (show (parseMethodDescriptor y_Le_act.desc).map (fun d => d.parameters.length) = some 0 by decide +kernel) (gy_recv (ci := 0) hK Y rfl gF_0) rfl rfl d_Le_renamePrepared_1) (gx_cwA hts kc_Le_act kN_Le ⟨Nat.le_of_ble_eq_true rfl, Nat.le_of_ble_eq_true rfl⟩) hb hml hz hK hY hAz hA hl.1 (lv_room (Nat.le_of_ble_eq_true rfl)) d_Le_renamePrepared_1 (fun vz9 b H locs cells slots e9 hb9 hC Y => ?_) (fun xz9 Ez9 ce b H locs cells slots e9 hce hC Y => ?_)
    · have e9 : (Sum.inl vz9 : Option Value ⊕ String) = Sum.inr E7 := e9
      cases e9
    · have e9 : (Sum.inr Ez9 : Option Value ⊕ String) = Sum.inr E7 := e9
      cases e9
      exact gA_pass hne hlocks hce hK hC Y
  refine gA_call (fr := 10) (lo := 241) (o1 := (gR.v, X7)) (ig := .invokevirtual 311) (av := [Value.ref (b 0)]) hC Y ⟨Nat.le_refl _, Nat.le_refl _⟩ (fun hc9 hs9 ws h hS hw => K_Le_act l htr D tys z _ ws h hS t ht b X0 hw hc9 hs9 (gR.v, X7) hF7) (gx_invV (As := []) (rest := []) hx hb hown hts km_Le_311 kI_Le_act kV_Le_act kc_Le_act (by decide) (show (parseMethodDescriptor y_Le_act.desc).map (fun d => d.parameters.length) = some 0 by decide +kernel) (gy_recv (ci := 0) hK Y rfl gF_0) rfl rfl d_Le_renamePrepared_1) (gx_cwA hts kc_Le_act kN_Le ⟨Nat.le_of_ble_eq_true rfl, Nat.le_of_ble_eq_true rfl⟩) hb hml hz hK hY hAz hA hl.1 (lv_room (Nat.le_of_ble_eq_true rfl)) d_Le_renamePrepared_1 (fun vz9 b H locs cells slots e9 hb9 hC Y => ?_) (fun xz9 Ez9 ce b H locs cells slots e9 hce hC Y => ?_)
  rotate_left
  · have e9 : (Sum.inr Ez9 : Option Value ⊕ String) = Sum.inl none := e9
    cases e9
  have e9 : (Sum.inl vz9 : Option Value ⊕ String) = Sum.inl none := e9
  cases e9
  replace hl : lv_has ls 2 [(0, Value.ref (b 0))] := by rw [hb9 0 (gNm_s (by decide))]; exact hl
  refine W.eq (g2 := F0 m 4 ls []) (by rfl) ?_
  refine lv_aload_n hx hb d_Le_renamePrepared_4 rfl (lv_at hl 0 rfl) ?_
  refine gy_get (ci := 0) (v := va_rf (Option.map b (X7.G 0 5))) (C := "CommitLedger") (T := F_Le) (N := 18) hx hb hts i_Le hown hK Y gF_0 rfl 5 (by decide) kf_Le_30 rfl d_Le_renamePrepared_5 ?_
  refine lv_astore_nO (lv' := [(1, va_rf (Option.map b (X7.G 0 5))), (0, Value.ref (b 0))]) hx hb d_Le_renamePrepared_8 rfl hl (by decide) rfl (fun ls hl => ?_)
  refine lv_aload_n hx hb d_Le_renamePrepared_9 rfl (lv_at hl 1 rfl) ?_
  refine lv_aload_n hx hb d_Le_renamePrepared_10 rfl (lv_at hl 1 rfl) ?_
  refine gy_get (ci := 0) (v := va_rf (Option.map b (X7.G 0 6))) (C := "CommitLedger") (T := F_Le) (N := 18) hx hb hts i_Le hown hK Y gF_0 rfl 6 (by decide) kf_Le_33 rfl d_Le_renamePrepared_11 ?_
  refine gy_putR (x := (X7.G 0 6)) hf (ci := 0) (C2 := "CommitLedger$View") (C := "CommitLedger") (T := F_Le) (N := 18) hx hb hts i_Le t_Le_ok n_Le hown hK Y gF_0 rfl (by decide) kf_Le_30 rfl (by decide +kernel) (Nat.le_of_ble_eq_true rfl) gF_0 d_Le_renamePrepared_14 (fun X8 H locs hf Y => ?_)
  refine lv_aload_n hx hb d_Le_renamePrepared_17 rfl (lv_at hl 1 rfl) ?_
  refine lv_aload_nO hx hb d_Le_renamePrepared_18 rfl (lv_at hl 0 rfl) ?_
  refine gy_putR (x := (X7.G 0 5)) hf (ci := 0) (C2 := "CommitLedger$View") (C := "CommitLedger") (T := F_Le) (N := 18) hx hb hts i_Le t_Le_ok n_Le hown hK Y gF_0 rfl (by decide) kf_Le_33 rfl (by decide +kernel) (Nat.le_of_ble_eq_true rfl) gF_0 d_Le_renamePrepared_19 (fun X9 H locs hf Y => ?_)
  refine lv_aload_n hx hb d_Le_renamePrepared_22 rfl (lv_at hl 1 rfl) ?_
  refine lv_iconst (v := 0) hx hb d_Le_renamePrepared_23 (by decide) ?_
  refine gy_put hf (ci := 0) (ty := .boolean) (C := "CommitLedger") (T := F_Le) (N := 18) hx hb hts i_Le t_Le_ok n_Le hown hK Y gF_0 rfl (by decide) kf_Le_178 rfl (by decide +kernel) rfl rfl (Nat.le_of_ble_eq_true rfl) gF_0 d_Le_renamePrepared_24 (fun X10 H locs hf Y => ?_)
  refine lv_aload_n hx hb d_Le_renamePrepared_27 rfl (lv_at hl 1 rfl) ?_
  refine lv_dup hx hb d_Le_renamePrepared_28 rfl ?_
  refine gy_get (ci := 0) (v := Value.int (X10.I 0 15)) (C := "CommitLedger") (T := F_Le) (N := 18) hx hb hts i_Le hown hK Y gF_0 rfl 15 (by decide) kf_Le_84 rfl d_Le_renamePrepared_29 ?_
  refine lv_iconst (v := 1) hx hb d_Le_renamePrepared_32 (by decide) ?_
  refine lv_iadd hx hb d_Le_renamePrepared_33 ?_
  refine gy_put hf (ci := 0) (ty := .int) (C := "CommitLedger") (T := F_Le) (N := 18) hx hb hts i_Le t_Le_ok n_Le hown hK Y gF_0 rfl (by decide) kf_Le_84 rfl (by decide +kernel) rfl rfl (Nat.le_of_ble_eq_true rfl) gF_0 d_Le_renamePrepared_34 (fun X11 H locs hf Y => ?_)
  refine lv_aload_n hx hb d_Le_renamePrepared_37 rfl (lv_at hl 1 rfl) ?_
  have hl : lv_has ls 2 [] := lv_sub hl [] rfl
  obtain ⟨X12, hF12, hf⟩ := gCv_el hf
  refine gA_call (fr := 9) (lo := 220) (o1 := (gR.v, X12)) (ig := .invokevirtual 106) (av := [Value.ref (b 0)]) hC Y ⟨Nat.le_refl _, Nat.le_refl _⟩ (fun hc9 hs9 ws h hS hw => K_Le_dropUnneededFiles l htr D tys z _ ws h hS t ht b X11 hw hc9 hs9 (gR.v, X12) hF12) (gx_invV (As := []) (rest := []) hx hb hown hts km_Le_106 kI_Le_dropUnneededFiles kV_Le_dropUnneededFiles kc_Le_dropUnneededFiles (by decide) (show (parseMethodDescriptor y_Le_dropUnneededFiles.desc).map (fun d => d.parameters.length) = some 0 by decide +kernel) (gy_recv (ci := 0) hK Y rfl gF_0) rfl rfl d_Le_renamePrepared_38) (gx_cwA hts kc_Le_dropUnneededFiles kN_Le ⟨Nat.le_of_ble_eq_true rfl, Nat.le_of_ble_eq_true rfl⟩) hb hml hz hK hY hAz hA hl.1 (lv_room (Nat.le_of_ble_eq_true rfl)) d_Le_renamePrepared_38 (fun vz9 b H locs cells slots e9 hb9 hC Y => ?_) (fun xz9 Ez9 ce b H locs cells slots e9 hce hC Y => ?_)
  rotate_left
  · have e9 : (Sum.inr Ez9 : Option Value ⊕ String) = Sum.inl none := e9
    cases e9
  have e9 : (Sum.inl vz9 : Option Value ⊕ String) = Sum.inl none := e9
  cases e9
  replace hl : lv_has ls 2 [] := by exact hl
  refine W.eq (g2 := F0 m 41 ls []) (by rfl) ?_
  exact gA_vret hf hx hb hr hlocks hK hC Y d_Le_renamePrepared_41
