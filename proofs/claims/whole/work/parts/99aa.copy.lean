/-! THE THIRD LAYER, lists: Arrays.copyOf of an array of files, over maps (the new array's name is 132); rows by hand -/
theorem kG_decl : Cond.declares ⟨"java/lang/Object", "getClass", "()Ljava/lang/Class;"⟩ ∈ gx_all := gx_in 1310 (by decide +kernel)
theorem kG_sel : Cond.selects "[Ljava/lang/Object;" ⟨"java/lang/Object", "getClass", "()Ljava/lang/Class;"⟩ ⟨"java/lang/Object", "getClass", "()Ljava/lang/Class;"⟩ ∈ gx_all := gx_in 1309 (by decide +kernel)
theorem kG_inst : Cond.instanceMethod ⟨"java/lang/Object", "getClass", "()Ljava/lang/Class;"⟩ ∈ gx_all := gx_in 311 (by decide +kernel)
theorem kG_nat : Cond.native ⟨"java/lang/Object", "getClass", "()Ljava/lang/Class;"⟩ ∈ gx_all := gx_in 329 (by decide +kernel)
theorem kM_smin : Cond.static Lib.Math.min.name ∈ gx_all := gx_in 337 (by decide +kernel)
theorem kM_cmin : Cond.code Lib.Math.min.name Lib.Math.min.code 2 (some .int) ∈ gx_all := gx_in 338 (by decide +kernel)
theorem kA_cnat : Cond.native arraycopyName ∈ gx_all := gx_in 341 (by decide +kernel)
theorem kA_cstat : Cond.static arraycopyName ∈ gx_all := gx_in 340 (by decide +kernel)
theorem kX_mir : Cond.isRef (.mirror "[Ljava/lang/Object;") ∈ gx_all := gx_inx 95 (by decide +kernel)
theorem gm_upup {h : gm_M} {n : Nat} {x y : Nat × va_E} : gm_up (gm_up h n x) n y = gm_up h n y := by
  funext q
  by_cases e : q = n
  · rw [e, gm_self, gm_self]
  · rw [gm_off e, gm_off e, gm_off e]
/-- what the copy needs of its start, beside the world: the mirror -/
def gx_PM (z sz : Nat) (D : va_G) (tys : List (ClassId × FieldType)) (ws : va_W) (mi : Nat) (av : List Value) : Array Value → State → Prop := fun a U => gx_P z sz D classes tys ws av a U ∧ va_Mi "[Ljava/lang/Object;" mi U
theorem gx_blindM {z sz : Nat} {D : va_G} {tys : List (ClassId × FieldType)} {ws : va_W} {mi : Nat} {av : List Value} : FrameBlind (gx_PM z sz D tys ws mi av) := fun a U g mk h => ⟨gx_blind a U g mk h.1, va_Mi.moved (u := U) (U := U.calling g mk a) (Vm.Alike.refl U.vm) h.2⟩
set_option maxHeartbeats 4000000 in
set_option maxRecDepth 100000 in
theorem k_copyOf1 (l : Launch) (D : va_G) (tys : List (ClassId × FieldType)) (z sz : Nat) (ws : va_W) (h : gm_M) (hM : gm_S h ws) (cO : ClassId) (ht7 : tys[7]? = some ((cO, FieldType.object "java/lang/Object") : ClassId × FieldType)) (na a L : Nat) (g : Nat → Option Nat) (f_na : h na = some (a, Sum.inl (cO, L, Sum.inr (Sum.inr (Sum.inr (Sum.inr g)))))) (hna : na ≠ 132) (nl : Int32) (hn0 : ¬ nl < 0) (hLn : L ≤ gn nl) (hmin : ¬ nl < nI L) (hnl : gn nl ≤ 10000000) (mi : Nat) (hel : ∀ i, i < L → ∀ y, g i = some y → ∃ n1 vs, n1 ≠ 132 ∧ h n1 = some (y, Sum.inr (7, vs))) :
    gx_Met l y_Arrays_copyOf1 [Cond.code y_Arrays_copyOf1 b_Arrays_copyOf1 4 (some (.array (.object "java/lang/Object")))] { frames := 1, cells := 1, slots := gn nl, locals := 40 } (gx_PM z sz D tys ws mi [Value.ref a, Value.int nl, Value.ref mi]) (gx_Q D classes tys (va_A ws sz) (gm_p (fun r h' => ∃ q : Nat, r = Sum.inl (some (Value.ref q)) ∧ h' = gm_up h 132 (q, Sum.inl (cO, gn nl, Sum.inr (Sum.inr (Sum.inr (Sum.inr (va_cpy g (fun _ => none) 0 0 L))))))))) 1 (gn nl) (va_A ws sz) := by
  refine gx_ofW (cc := b_Arrays_copyOf1) (maxL := 4) (ret := (some (.array (.object "java/lang/Object")))) (by decide) rfl ?_
  intro p e s m args below meth c s₁ B hml hv
  obtain ⟨⟨rfl, hsz, hz, hP, hK, hD0, hY⟩, hMi⟩ := hv
  have hx := B.exec
  have hb := B.bytes
  have hr := B.returns
  have hts := hY.hts (#[Value.ref a, Value.int nl, Value.ref mi] : Array Value)
  have hown : s.vm.findClass "java/util/Arrays" = some m.cls := findClass_of_methodNamed B.named
  have hlocks := B.notSynchronized
  subst hsz
  have hAz := gx_az hD0 hz
  have hD := hD0.self (sz := s.heap.size)
  have hA : ∀ q : Nat, s.heap.size ≤ q → va_A ws s.heap.size q := fun q h => Or.inr h
  generalize va_A ws s.heap.size = A at hD hA hAz ⊢
  have Z : gz D A s.heap h s.heap [] := ⟨ws, hM, hP, hD, va_S.rf⟩
  clear hP hD hM hD0
  have hl := lv_entry ([Value.ref a, Value.int nl, Value.ref mi]) (n := 4) (Nat.le_of_ble_eq_true rfl)
  rw [lg_entry_eq]
  generalize (lg_sl ([Value.ref a, Value.int nl, Value.ref mi]) ++ List.replicate (4 - (lg_sl ([Value.ref a, Value.int nl, Value.ref mi])).length) Slot.unset).toArray = ls at hl ⊢
  have hl : lv_has ls 4 [(0, Value.ref a), (1, Value.int nl), (2, Value.ref mi)] := hl
  have hL31 : L < 2 ^ 31 := by omega
  refine lv_aload_n hx hb d_Arrays_copyOf1_0 rfl (lv_at hl 2 rfl) ?_
  refine va_ldcM hx hb hown (hts _ kk_Arrays_110) hMi d_Arrays_copyOf1_1 ?_
  refine lv_acmp_ne (rx := some mi) (ry := some mi) (tgt := 13) hx hb d_Arrays_copyOf1_3 (by decide) (fun c9 => absurd rfl c9) (fun _ => ?_)
  refine lv_iload_n hx hb d_Arrays_copyOf1_6 rfl (lv_at hl 1 rfl) ?_
  refine gz_newq 132 (C := "java/lang/Object") (N' := gn nl) hx hb hts hown kk_Arrays_2 kO_Object hK Z hA 7 ht7 hn0 rfl (by omega) (Nat.le_of_ble_eq_true rfl) (by show 0 + gn nl ≤ gn nl; omega) d_Arrays_copyOf1_7 (fun q H Z => ?_)
  refine W.widen (k := 1) (n := gn nl) (by decide) (by omega) ?_
  refine lv_goto (tgt := 24) hx hb d_Arrays_copyOf1_10 (by decide) ?_
  refine lv_astore_n (lv' := [(3, Value.ref q), (0, Value.ref a), (1, Value.int nl), (2, Value.ref mi)]) hx hb d_Arrays_copyOf1_24 rfl hl (by decide) rfl (fun ls hl => ?_)
  refine lv_aload_n hx hb d_Arrays_copyOf1_25 rfl (lv_at hl 1 rfl) ?_
  refine lv_iconst (v := 0) hx hb d_Arrays_copyOf1_26 (by decide) ?_
  refine lv_aload_n hx hb d_Arrays_copyOf1_27 rfl (lv_at hl 0 rfl) ?_
  refine lv_iconst (v := 0) hx hb d_Arrays_copyOf1_28 (by decide) ?_
  refine lv_aload_n hx hb d_Arrays_copyOf1_29 rfl (lv_at hl 1 rfl) ?_
  have f1 : gm_up h 132 (q, Sum.inl (cO, gn nl, Sum.inr (Sum.inr (Sum.inr (Sum.inr (fun _ => none)))))) na = some (a, Sum.inl (cO, L, Sum.inr (Sum.inr (Sum.inr (Sum.inr g))))) := gm_at f_na hna
  refine gz_alen (v := nI L) hx hb hK Z 7 f1 ht7 rfl d_Arrays_copyOf1_30 ?_
  refine lv_iload_n hx hb d_Arrays_copyOf1_31 rfl (lv_at hl 2 rfl) ?_
  refine va_mmin (x := nI L) (y := nl) hx hb (hml.trans hl.1.symm) hown (hts _ km_Arrays_304) (hts _ kM_smin) (hts _ kN_Math) (hts _ kM_cmin) (Nat.le_of_ble_eq_true rfl) (Nat.le_of_ble_eq_true rfl) (Nat.le_of_ble_eq_true rfl) (Nat.le_refl _) d_Arrays_copyOf1_32 ?_
  refine gx_topi (y := nI L) (if_neg hmin) ?_
  obtain ⟨ws9, hM9, hP9, hD9, hS9⟩ := Z
  obtain ⟨q0, hq0⟩ := hM9.1 _ _ f1
  obtain ⟨q1, hq1⟩ := hM9.1 132 _ gm_self
  have ec : (nI L).toNatClampNeg = L := nI_clamp hL31
  have e0 : (0 : Int32).toNatClampNeg = 0 := by decide
  refine va_copyq (C := "CommitLedger$LedgerFile") hx hb (hml.trans hl.1.symm) hown (hts _ km_Arrays_150) (hts _ kA_cnat) (hts _ kA_cstat) (hts _ kN_System) hK hP9 hD9 hS9 q0 q1 7 7 hq0 hq1 ht7 ht7 (by decide) (by decide) (nI_pos hL31) (by rw [ec, e0]; omega) (by rw [ec, e0]; omega) ?_ ?_ (Nat.le_of_ble_eq_true rfl) (Nat.le_of_ble_eq_true rfl) d_Arrays_copyOf1_35 (fun H locs a1 a2 a3 => ?_)
  · intro i hi y hy
    rw [ec] at hi
    rw [e0, Nat.zero_add] at hy
    obtain ⟨n1, vs, hn1, h1⟩ := hel i hi y hy
    obtain ⟨q2, hq2⟩ := hM9.1 _ _ (gm_at (n := 132) (x := (q, Sum.inl (cO, gn nl, Sum.inr (Sum.inr (Sum.inr (Sum.inr (fun _ => none))))))) h1 hn1)
    exact va_recv (q := ("CommitLedger$LedgerFile", F_Fi, 7)) hK hP9 rfl hq2
  · intro comp c0 h1 h2
    obtain ⟨c1, t1, f1, f2, f3⟩ := Cond.castable_spec (hts _ kW_FiObject)
    cases h2.symm.trans f1
    cases h1.symm.trans f2
    exact f3
  · rw [ec, e0] at a1 a2
    have hM8 := hM9.set (y := Sum.inl (cO, gn nl, Sum.inr (Sum.inr (Sum.inr (Sum.inr (va_cpy g (fun _ => none) 0 0 L)))))) gm_self hq1
    rw [gm_upup] at hM8
    refine lv_aload_n hx hb d_Arrays_copyOf1_38 rfl (lv_at hl 0 rfl) ?_
    exact gx_ret (W.aret (v := Value.ref q) hx hb hr (Or.inr ⟨_, rfl⟩) (Or.inr ⟨_, rfl⟩) (gx_post a1 hK a2 a3 ⟨_, hM8, q, rfl, rfl⟩) a3.2.2 d_Arrays_copyOf1_39)
set_option maxHeartbeats 4000000 in
set_option maxRecDepth 100000 in
theorem k_copyOf0 (l : Launch) (D : va_G) (tys : List (ClassId × FieldType)) (z sz : Nat) (ws : va_W) (h : gm_M) (hM : gm_S h ws) (cO : ClassId) (ht7 : tys[7]? = some ((cO, FieldType.object "java/lang/Object") : ClassId × FieldType)) (na a L : Nat) (g : Nat → Option Nat) (f_na : h na = some (a, Sum.inl (cO, L, Sum.inr (Sum.inr (Sum.inr (Sum.inr g)))))) (hna : na ≠ 132) (nl : Int32) (hn0 : ¬ nl < 0) (hLn : L ≤ gn nl) (hmin : ¬ nl < nI L) (hnl : gn nl ≤ 10000000) (hel : ∀ i, i < L → ∀ y, g i = some y → ∃ n1 vs, n1 ≠ 132 ∧ h n1 = some (y, Sum.inr (7, vs))) :
    gx_Met l y_Arrays_copyOf0 [Cond.code y_Arrays_copyOf0 b_Arrays_copyOf0 2 (some (.array (.object "java/lang/Object")))] { frames := 2, cells := 1, slots := gn nl, locals := 64 } (gx_P z sz D classes tys ws [Value.ref a, Value.int nl]) (gx_Q D classes tys (va_A ws sz) (gm_p (fun r h' => ∃ q : Nat, r = Sum.inl (some (Value.ref q)) ∧ h' = gm_up h 132 (q, Sum.inl (cO, gn nl, Sum.inr (Sum.inr (Sum.inr (Sum.inr (va_cpy g (fun _ => none) 0 0 L))))))))) 1 (gn nl) (va_A ws sz) := by
  refine gx_ofW (cc := b_Arrays_copyOf0) (maxL := 2) (ret := (some (.array (.object "java/lang/Object")))) (by decide) rfl ?_
  intro p e s m args below meth c s₁ B hml hv
  obtain ⟨rfl, hsz, hz, hP, hK, hD0, hY⟩ := hv
  have hx := B.exec
  have hb := B.bytes
  have hr := B.returns
  have hts := hY.hts (#[Value.ref a, Value.int nl] : Array Value)
  have hown : s.vm.findClass "java/util/Arrays" = some m.cls := findClass_of_methodNamed B.named
  have hlocks := B.notSynchronized
  have hne : c.exceptionTable.isEmpty = true := B.noHandlers (atoms_spec (ws := [Cond.code y_Arrays_copyOf0 b_Arrays_copyOf0 2 (some (.array (.object "java/lang/Object")))]) B.pre _ List.mem_cons_self)
  subst hsz
  have hAz := gx_az hD0 hz
  have hD := hD0.self (sz := s.heap.size)
  have hA : ∀ q : Nat, s.heap.size ≤ q → va_A ws s.heap.size q := fun q h => Or.inr h
  generalize va_A ws s.heap.size = A at hD hA hAz ⊢
  have hl := lv_entry ([Value.ref a, Value.int nl]) (n := 2) (Nat.le_of_ble_eq_true rfl)
  rw [lg_entry_eq]
  generalize (lg_sl ([Value.ref a, Value.int nl]) ++ List.replicate (2 - (lg_sl ([Value.ref a, Value.int nl])).length) Slot.unset).toArray = ls at hl ⊢
  have hl : lv_has ls 2 [(0, Value.ref a), (1, Value.int nl)] := hl
  obtain ⟨mi, hMi⟩ := va_Mi.of (hts _ kX_mir)
  obtain ⟨q0, hq0⟩ := hM.1 _ _ f_na
  have hcell : s.heap[a]? = some (vp_cell cO (L, Sum.inr (Sum.inr (Sum.inr (Sum.inr g))))) := hP q0 _ hq0
  have hcls : s.vm.findClass "[Ljava/lang/Object;" = some cO := by
    obtain ⟨kA, comp, -, -, -, h8⟩ := (hK.2 7 _ ht7).2
    rw [show "[" ++ (FieldType.object "java/lang/Object").toString = "[Ljava/lang/Object;" by decide +kernel] at h8
    exact h8
  refine lv_aload_n hx hb d_Arrays_copyOf0_0 rfl (lv_at hl 0 rfl) ?_
  refine lv_iload_n hx hb d_Arrays_copyOf0_1 rfl (lv_at hl 1 rfl) ?_
  refine lv_aload_n hx hb d_Arrays_copyOf0_2 rfl (lv_at hl 0 rfl) ?_
  refine va_getC (C := "[Ljava/lang/Object;") (mi := mi) hx hb (hml.trans hl.1.symm) hown (hts _ km_Arrays_86) (hts _ kG_decl) (hts _ kG_sel) (hts _ kG_inst) (hts _ kG_nat) hMi ⟨_, hcell, rfl, hcls⟩ (Nat.le_of_ble_eq_true rfl) (Nat.le_of_ble_eq_true rfl) d_Arrays_copyOf0_3 ?_
  refine gx_call (ig := .invokestatic 300) (k_copyOf1 l D tys z _ ws h hM cO ht7 na a L g f_na hna nl hn0 hLn hmin hnl mi hel) (gx_invS (As := [Value.ref a, Value.int nl, Value.ref mi]) (rest := []) hx hb hown hts km_Arrays_300 kS_Arrays_copyOf1 kN_Arrays kc_Arrays_copyOf1 (by decide) (show (parseMethodDescriptor y_Arrays_copyOf1.desc).map (fun d => d.parameters.length) = some 3 by decide +kernel) rfl rfl d_Arrays_copyOf0_6) (gx_cw (z := 0) hts kc_Arrays_copyOf1 kN_Arrays rfl rfl ⟨Nat.le_of_ble_eq_true rfl, Nat.le_of_ble_eq_true rfl⟩) hb hml gx_blindM (fun U hU hW => ⟨gx_pre hz hP hK hD hY va_S.rf hAz [Value.ref a, Value.int nl, Value.ref mi] U hU hW, va_Mi.moved hW.alike hMi⟩) rfl hl.1 (lv_room (Nat.le_of_ble_eq_true rfl)) d_Arrays_copyOf0_6 ⟨Nat.le_of_ble_eq_true rfl, by show 0 + gn nl ≤ gn nl; omega⟩ (fun v st t L9 h0 hW9 hQ hL9 => ?_) (fun x st t L9 h0 hW9 hQ hL9 => ?_)
  · obtain ⟨ws1, ⟨h1, b1, q, e1, e2⟩, b2, -, b3, b4⟩ := gx_back h0 hW9 hQ hL9 hD va_S.rf hA
    cases e1
    refine W.widen (k := 1) (n := gn nl) (by decide) (by omega) ?_
    exact gx_ret (W.aret (v := Value.ref q) hx hb hr (Or.inr ⟨_, rfl⟩) (Or.inr ⟨_, rfl⟩) (gx_post b2 hK b3 b4 ⟨h1, b1, q, rfl, e2⟩) b4.2.2 d_Arrays_copyOf0_9)
  · obtain ⟨E, ws1, ce, ⟨h1, b1, q, e1, e2⟩, hce, b2, -, b3, b4⟩ := gx_backT h0 hW9 hQ hL9 hD va_S.rf hA
    cases e1
