/-! THE THIRD LAYER, lists: grow(int); rows by hand -/
/-- what must hold so that the array at k can be made anew, x long -/
def gGr (X : gX) (k : Nat) (x : Int32) : Bool := decide (0 < x) && (decide (X.L k ≤ gn x) && (decide (gn x ≤ 10000000) && (decide (X.cc + 1 ≤ gCL) && (decide (X.ss + gn x ≤ gSL) && (List.range (X.L k)).all (fun i => gOf X.N (X.G k i))))))
theorem gGr.el {X : gX} {k : Nat} {x : Int32} (h : gGr X k x = true) : 0 < x ∧ X.L k ≤ gn x ∧ gn x ≤ 10000000 ∧ X.cc + 1 ≤ gCL ∧ X.ss + gn x ≤ gSL ∧ ∀ i, i < X.L k → gOf X.N (X.G k i) = true := by
  unfold gGr at h
  simp only [Bool.and_eq_true, decide_eq_true_eq, List.all_eq_true, List.mem_range] at h
  exact h
def f_Al_grow1 (X0 : gX) (n : Nat) (a1 : Int32) : Option (gR × gX) := (if X0.L (n + 124) = 0 then (if gGr X0 (n + 124) (if (10 : Int32) < a1 then a1 else 10) then some (gR.a (some (n + 124)), X0.gr (n + 124) (gn (if (10 : Int32) < a1 then a1 else 10))) else none) else gCi (f_ArraysSupport_newLength X0 (nI (X0.L (n + 124))) (a1 - nI (X0.L (n + 124))) ((nI (X0.L (n + 124))) >>> ((1 : Int32) &&& 31))) (fun x X1 => (if gGr X1 (n + 124) x then some (gR.a (some (n + 124)), X1.gr (n + 124) (gn x)) else none)))
theorem gn_pos {x : Int32} (h : 0 < x) : ¬ gn x = 0 := by
  have h1 := Int32.lt_iff_toInt_lt.mp h
  have h2 : gn x = x.toInt.toNat := rfl
  have h3 : (0 : Int32).toInt = 0 := by decide
  omega
theorem gn_nlt {x : Int32} (h : 0 < x) : ¬ x < 0 := fun q => by
  have h1 := Int32.lt_iff_toInt_lt.mp h
  have h2 := Int32.lt_iff_toInt_lt.mp q
  omega
theorem gn_min {x : Int32} {L : Nat} (h : 0 < x) (hL : L ≤ gn x) (h31 : L < 2 ^ 31) : ¬ x < nI L := fun q => by
  have h1 := Int32.lt_iff_toInt_lt.mp h
  have h2 := Int32.lt_iff_toInt_lt.mp q
  have h3 : (0 : Int32).toInt = 0 := by decide
  have h4 : gn x = x.toInt.toNat := rfl
  have h5 : (nI L).toInt.toNat = L := nI_clamp h31
  omega
theorem newLength_X {X0 : gX} {a0 a1 a2 : Int32} {o : gR × gX} (h : f_ArraysSupport_newLength X0 a0 a1 a2 = some o) : o.2 = X0 := by
  unfold f_ArraysSupport_newLength at h
  generalize (a0 + (if a1 < a2 then a2 else a1)) = y at h
  by_cases h1 : y ≤ 0
  · rw [if_pos h1] at h
    cases h
  · rw [if_neg h1] at h
    by_cases h2 : (2147483639 : Int32) < y
    · rw [if_pos h2] at h
      cases h
    · rw [if_neg h2] at h
      cases h
      rfl
section GGR
variable {p : Program} {l : Launch} {e : Env} {R : Room} {s : State} {m : MethodId} {args : Array Value} {below : List Frame} {meth : Method} {c : Code} {H : Heap} {locs : List Loc} {cells slots : Nat} {Q : State → Prop} {cc : ByteArray}
variable {D : va_G} {tys : List (ClassId × FieldType)} {A : Nat → Prop} {pc : Nat} {ls : Array Slot}
variable {t : Nat → ClassId} {b : Nat → Nat} {X : gX}
theorem gA_gr {n q k : Nat} {h h2 : gm_M} (hx : p.tables.exec = Jvm.exec) (hb : c.code = cc) (hr : meth.sig.returnType = some (.array (.object "java/lang/Object"))) (hlocks : meth.locks = false) (hK : va_K D classes tys s) (hw : gw D t b X h) (hn : gLis n = true) (hk : ¬ k = 0) (hc : X.cc + 1 ≤ gCL) (hs : X.ss + k ≤ gSL) (e_n : h2 n = some (b n, Sum.inr (3, [Value.ref q, Value.int (X.I n 1), Value.int (X.I n 2)]))) (e_q : h2 132 = some (q, Sum.inl (t 7, k, Sum.inr (Sum.inr (Sum.inr (Sum.inr (fun i => if i < X.L (n + 124) then (X.G (n + 124) i).map b else none))))))) (e_o : ∀ a, a ≠ n → a ≠ 132 → h2 a = h a) (Z : gz D A s.heap h2 H locs) (hcl : cells ≤ 1) (hsl : slots ≤ k) (hdg : decode cc pc = .ok (.areturn, 1)) :
    W p l e R s m args below meth c H locs cells slots (gx_MQ below (gx_Q D classes tys A (gPoA D t b X (gR.a (some (n + 124)), X.gr (n + 124) k))) args s ((X.gr (n + 124) k).cc + gT (gR.a (some (n + 124))) - X.cc) ((X.gr (n + 124) k).ss + 6 * gT (gR.a (some (n + 124))) - X.ss) A) (F0 m pc ls [Value.ref q]) := by
  have hn2 := gLis.or hn
  obtain ⟨ws9, hM9, hP9, hD9, hS9⟩ := Z
  have h1 : (X.gr (n + 124) k).cc = X.cc + 1 := rfl
  have h2 : (X.gr (n + 124) k).ss = X.ss + k := rfl
  have h3 : (X.gr (n + 124) k).N = X.N := rfl
  have h4 : gT (gR.a (some (n + 124))) = 0 := rfl
  have h5 : gLe X (X.gr (n + 124) k) := ⟨by omega, by omega, by omega, by omega, by omega⟩
  have e9 : Value.ref q = va_rf (Option.map (fun a => if a = n + 124 then q else b a) (some (n + 124))) := by
    show Value.ref q = Value.ref (if n + 124 = n + 124 then q else b (n + 124))
    rw [if_pos rfl]
  refine W.widen (k := (X.gr (n + 124) k).cc + gT (gR.a (some (n + 124))) - X.cc) (n := (X.gr (n + 124) k).ss + 6 * gT (gR.a (some (n + 124))) - X.ss) (by omega) (by omega) ?_
  exact gx_ret (W.aret (v := Value.ref q) hx hb hr (Or.inr ⟨_, rfl⟩) (Or.inr ⟨_, rfl⟩) (gx_post hP9 hK hD9 hS9 ⟨_, hM9.mv (k := n + 124) (by omega), (fun a => if a = n + 124 then q else b a), fun m hm => if_neg (by have := hm.2; omega), by show (Sum.inl (some (Value.ref q)) : Option Value ⊕ String) = Sum.inl (some _); rw [e9], hw.gr hn hk e_n e_q e_o, h5⟩) hS9.2.2 hdg)
end GGR
set_option maxHeartbeats 4000000 in
set_option maxRecDepth 100000 in
theorem K_Al_grow1 (l : Launch) (htr : l.stackTraces = false) (D : va_G) (tys : List (ClassId × FieldType)) (z sz : Nat) (ws : va_W) (h : gm_M) (hM : gm_S h ws) (t : Nat → ClassId) (ht : gTy t tys) (b : Nat → Nat) (X0 : gX) (hw : gw D t b X0 h) (n : Nat) (hn : gLis n = true) (a1 : Int32) (hc0 : X0.cc ≤ gCL) (hs0 : X0.ss ≤ gSL) (o : gR × gX) (hf : f_Al_grow1 X0 n a1 = some o) : gx_Met l y_Al_grow1 [Cond.code y_Al_grow1 b_Al_grow1 4 (some (.array (.object "java/lang/Object")))] { frames := 4, cells := gCL + 1 - X0.cc, slots := gSL + 6 - X0.ss, locals := 110 } (gx_P z sz D classes tys ws [Value.ref (b n), Value.int a1]) (gx_Q D classes tys (va_A ws sz) (gPoA D t b X0 o)) (o.2.cc + gT o.1 - X0.cc) (o.2.ss + 6 * gT o.1 - X0.ss) (va_A ws sz) := by
  refine gx_ofW (cc := b_Al_grow1) (maxL := 4) (ret := (some (.array (.object "java/lang/Object")))) (by decide) rfl ?_
  intro p e s m args below meth c s₁ B hml hv
  obtain ⟨rfl, hsz, hz, hP, hK, hD0, hY⟩ := hv
  have hx := B.exec
  have hb := B.bytes
  have hr := B.returns
  have hts := hY.hts (#[Value.ref (b n), Value.int a1] : Array Value)
  have hown : s.vm.findClass "java/util/ArrayList" = some m.cls := findClass_of_methodNamed B.named
  have hlocks := B.notSynchronized
  have hN := gx_ns hP
  subst hsz
  have hAz := gx_az hD0 hz
  have hD := hD0.self (sz := s.heap.size)
  have hA : ∀ q : Nat, s.heap.size ≤ q → va_A ws s.heap.size q := fun q h => Or.inr h
  generalize va_A ws s.heap.size = A at hD hA hAz hN ⊢
  have Z : gz D A s.heap h s.heap [] := ⟨ws, hM, hP, hD, va_S.rf⟩
  clear hP hD hM hD0
  obtain ⟨ht0, ht1, ht2, ht3, ht4, ht5, ht6, ht7, ht8⟩ := id ht
  have hl := lv_entry ([Value.ref (b n), Value.int a1]) (n := 4) (Nat.le_of_ble_eq_true rfl)
  rw [lg_entry_eq]
  generalize (lg_sl ([Value.ref (b n), Value.int a1]) ++ List.replicate (4 - (lg_sl ([Value.ref (b n), Value.int a1])).length) Slot.unset).toArray = ls at hl ⊢
  have hl : lv_has ls 4 [(0, Value.ref (b n)), (1, Value.int a1)] := hl
  have hn2 := gLis.or hn
  unfold f_Al_grow1 at hf
  by_cases hL : X0.L (n + 124) = 0
  · replace hf := gp_t hL hf
    obtain ⟨hG, hf⟩ := gp_g hf
    obtain ⟨g1, g2, g3, g4, g5, g6⟩ := gGr.el hG
    cases hf
    have f_n : h n = some (b n, Sum.inr (3, [Value.ref (gx_av D), Value.int (X0.I n 1), Value.int (X0.I n 2)])) := by
      have f9 := hw.1 _ _ (gF_Li hn)
      rw [if_pos hL] at f9
      exact f9
    refine lv_aload_n hx hb d_Al_grow1_0 rfl (lv_at hl 0 rfl) ?_
    refine gz_get (ci := 3) (v := Value.ref (gx_av D)) (C := "java/util/ArrayList") (T := F_Al) (N := 3) hx hb hts i_Al hown hK Z f_n rfl 0 (by decide) kf_Al_9 rfl d_Al_grow1_1 ?_
    refine gz_alenE hx hb hY hz hAz Z d_Al_grow1_4 ?_
    refine lv_istore_n (lv' := [(2, Value.int 0), (0, Value.ref (b n)), (1, Value.int a1)]) hx hb d_Al_grow1_5 rfl hl (by decide) rfl (fun ls hl => ?_)
    refine lv_iload_n hx hb d_Al_grow1_6 rfl (lv_at hl 0 rfl) ?_
    refine lv_if_gt (tgt := 20) hx hb d_Al_grow1_7 (by decide) (fun c9 => absurd c9 (by decide)) (fun _ => ?_)
    refine lv_aload_n hx hb d_Al_grow1_10 rfl (lv_at hl 1 rfl) ?_
    refine gz_get (ci := 3) (v := Value.ref (gx_av D)) (C := "java/util/ArrayList") (T := F_Al) (N := 3) hx hb hts i_Al hown hK Z f_n rfl 0 (by decide) kf_Al_9 rfl d_Al_grow1_11 ?_
    refine gz_getsE (D := D) hx hb hts kL_DEFAULTCAPACITY_EMPTY_ELEMENTDATA kN_Al kf_Al_39 hown hN hY Z d_Al_grow1_14 ?_
    refine lv_acmp_eq (rx := some (gx_av D)) (ry := some (gx_av D)) (tgt := 45) hx hb d_Al_grow1_17 (by decide) (fun _ => ?_) (fun c9 => absurd rfl c9)
    refine lv_aload_n hx hb d_Al_grow1_45 rfl (lv_at hl 1 rfl) ?_
    refine lv_bipush (v := 10) hx hb d_Al_grow1_46 (by decide) ?_
    refine lv_iload_n hx hb d_Al_grow1_48 rfl (lv_at hl 2 rfl) ?_
    refine va_mmax (x := 10) (y := a1) hx hb (hml.trans hl.1.symm) hown (hts _ km_Al_79) (hts _ kW_smax) (hts _ kN_Math) (hts _ kW_cmax) (Nat.le_of_ble_eq_true rfl) (Nat.le_of_ble_eq_true rfl) (Nat.zero_le _) (Nat.zero_le _) d_Al_grow1_49 ?_
    generalize (if (10 : Int32) < a1 then a1 else 10) = x at g1 g2 g3 g4 g5 g6 hG ⊢
    refine gz_newq 132 (C := "java/lang/Object") (N' := gn x) hx hb hts hown kk_Al_7 kO_Object hK Z hA 7 ht7 (gn_nlt g1) rfl (by omega) (by show 0 + 1 ≤ gCL + 1 - X0.cc; omega) (by show 0 + gn x ≤ gSL + 6 - X0.ss; omega) d_Al_grow1_52 (fun q H Z => ?_)
    refine lv_dup_x1 hx hb d_Al_grow1_55 rfl rfl ?_
    refine gz_put (ci := 3) (v := Value.ref q) (ty := .array (.object "java/lang/Object")) (C := "java/util/ArrayList") (T := F_Al) (N := 3) hx hb hts i_Al t_Al_ok n_Al hown hK Z (gm_at f_n (by omega)) rfl 0 (by decide) kf_Al_9 rfl (by decide +kernel) rfl rfl (Nat.le_of_ble_eq_true rfl) d_Al_grow1_56 (fun H locs Z => ?_)
    refine gA_gr hx hb hr hlocks hK hw hn (gn_pos g1) g4 g5 gm_self ?_ (fun a ha1 ha2 => (gm_off ha1).trans (gm_off ha2)) Z (by omega) (by omega) d_Al_grow1_59
    rw [gm_off (by omega), gm_self]
    have hfun : (fun i => if i < X0.L (n + 124) then (X0.G (n + 124) i).map b else none) = fun _ => none := by
      funext i
      rw [hL, if_neg (by omega)]
    rw [hfun]
  · replace hf := gp_f hL hf
    obtain ⟨x, X1, hF, hf9⟩ := gCi_el hf
    clear hf
    have hX1 : X1 = X0 := newLength_X hF
    rw [hX1] at hF hf9
    have hf := hf9
    clear hf9 hX1 X1
    obtain ⟨hG, hf⟩ := gp_g hf
    obtain ⟨g1, g2, g3, g4, g5, g6⟩ := gGr.el hG
    cases hf
    have h31 : X0.L (n + 124) < 2 ^ 31 := by omega
    have Y : gy D t b A s.heap X0 X0 s.heap [] := ⟨h, Z, hw, gEq.rf⟩
    refine lv_aload_n hx hb d_Al_grow1_0 rfl (lv_at hl 0 rfl) ?_
    refine gy_get (ci := 3) (v := Value.ref (b (n + 124))) (C := "java/util/ArrayList") (T := F_Al) (N := 3) hx hb hts i_Al hown hK Y (gF_LiA hn hL) rfl 0 (by decide) kf_Al_9 rfl d_Al_grow1_1 ?_
    refine gy_alen (v := nI (X0.L (n + 124))) hx hb hK Y 7 (gF_LA hn hL) ht7 rfl d_Al_grow1_4 ?_
    refine lv_istore_n (lv' := [(2, Value.int (nI (X0.L (n + 124)))), (0, Value.ref (b n)), (1, Value.int a1)]) hx hb d_Al_grow1_5 rfl hl (by decide) rfl (fun ls hl => ?_)
    refine lv_iload_n hx hb d_Al_grow1_6 rfl (lv_at hl 0 rfl) ?_
    refine lv_if_gt (tgt := 20) hx hb d_Al_grow1_7 (by decide) (fun _ => ?_) (fun c9 => absurd (nI_lt (a := 0) (by omega) h31) c9)
    refine lv_iload_n hx hb d_Al_grow1_20 rfl (lv_at hl 0 rfl) ?_
    refine lv_iload_n hx hb d_Al_grow1_21 rfl (lv_at hl 2 rfl) ?_
    refine lv_iload_n hx hb d_Al_grow1_22 rfl (lv_at hl 0 rfl) ?_
    refine lv_isub hx hb d_Al_grow1_23 ?_
    refine lv_iload_n hx hb d_Al_grow1_24 rfl (lv_at hl 0 rfl) ?_
    refine lv_iconst (v := 1) hx hb d_Al_grow1_25 (by decide) ?_
    refine lv_ishr hx hb d_Al_grow1_26 ?_
    refine gy_callI (rm := { frames := 1, cells := 0, slots := 0, locals := 24 }) (ig := .invokestatic 73) (av := [Value.int (nI (X0.L (n + 124))), Value.int (a1 - nI (X0.L (n + 124))), Value.int ((nI (X0.L (n + 124))) >>> ((1 : Int32) &&& 31))]) Y (fun ws h hS hw => K_ArraysSupport_newLength l htr D tys z _ ws h hS t ht b X0 hw _ _ _ (gR.i x, X0) hF) (gx_invS (As := [Value.int (nI (X0.L (n + 124))), Value.int (a1 - nI (X0.L (n + 124))), Value.int ((nI (X0.L (n + 124))) >>> ((1 : Int32) &&& 31))]) (rest := []) hx hb hown hts km_Al_73 kS_ArraysSupport_newLength kN_ArraysSupport kc_ArraysSupport_newLength (by decide) (show (parseMethodDescriptor y_ArraysSupport_newLength.desc).map (fun d => d.parameters.length) = some 3 by decide +kernel) rfl rfl d_Al_grow1_27) (gx_cw (z := 0) hts kc_ArraysSupport_newLength kN_ArraysSupport rfl rfl ⟨Nat.le_of_ble_eq_true rfl, Nat.le_of_ble_eq_true rfl⟩) hb hml hz hK hY hAz hA hl.1 (lv_room (Nat.le_of_ble_eq_true rfl)) d_Al_grow1_27 ⟨Nat.zero_le _, Nat.zero_le _⟩ (fun H locs Y => ?_)
    refine lv_istore_n (lv' := [(3, Value.int x), (2, Value.int (nI (X0.L (n + 124)))), (0, Value.ref (b n)), (1, Value.int a1)]) hx hb d_Al_grow1_30 rfl hl (by decide) rfl (fun ls hl => ?_)
    obtain ⟨h1, Z, hw, -⟩ := Y
    have f_n : h1 n = some (b n, Sum.inr (3, [Value.ref (b (n + 124)), Value.int (X0.I n 1), Value.int (X0.I n 2)])) := hw.1 _ _ (gF_LiA hn hL)
    have f_a : h1 (n + 124) = some (b (n + 124), Sum.inl (t 7, X0.L (n + 124), Sum.inr (Sum.inr (Sum.inr (Sum.inr (fun i => (X0.G (n + 124) i).map b)))))) := hw.1 _ _ (gF_LA hn hL)
    have hel : ∀ i, i < X0.L (n + 124) → ∀ y, (X0.G (n + 124) i).map b = some y → ∃ n1 vs, n1 ≠ 132 ∧ h1 n1 = some (y, Sum.inr (7, vs)) := fun i hi y hy => by
      have h9 := g6 i hi
      cases hg : X0.G (n + 124) i with
      | none => rw [hg] at hy; cases hy
      | some k =>
        rw [hg] at hy h9
        cases hy
        have h8 : gFile X0.N k = true := h9
        exact ⟨k, _, by have := gFile.lo h8; omega, hw.1 _ _ (gF_Fi h8)⟩
    refine lv_aload_n hx hb d_Al_grow1_31 rfl (lv_at hl 2 rfl) ?_
    refine lv_aload_n hx hb d_Al_grow1_32 rfl (lv_at hl 2 rfl) ?_
    refine gz_get (ci := 3) (v := Value.ref (b (n + 124))) (C := "java/util/ArrayList") (T := F_Al) (N := 3) hx hb hts i_Al hown hK Z f_n rfl 0 (by decide) kf_Al_9 rfl d_Al_grow1_33 ?_
    refine lv_iload_n hx hb d_Al_grow1_36 rfl (lv_at hl 0 rfl) ?_
    refine gz_call (ig := .invokestatic 66) (av := [Value.ref (b (n + 124)), Value.int x]) Z (fun ws hM => k_copyOf0 l D tys z _ ws h1 hM (t 7) ht7 (n + 124) (b (n + 124)) (X0.L (n + 124)) (fun i => (X0.G (n + 124) i).map b) f_a (by omega) x (gn_nlt g1) g2 (gn_min g1 g2 h31) g3 hel) (gx_invS (As := [Value.ref (b (n + 124)), Value.int x]) (rest := [Value.ref (b n)]) hx hb hown hts km_Al_66 kS_Arrays_copyOf0 kN_Arrays kc_Arrays_copyOf0 (by decide) (show (parseMethodDescriptor y_Arrays_copyOf0.desc).map (fun d => d.parameters.length) = some 2 by decide +kernel) rfl rfl d_Al_grow1_37) (gx_cw (z := 0) hts kc_Arrays_copyOf0 kN_Arrays rfl rfl ⟨Nat.le_of_ble_eq_true rfl, Nat.le_of_ble_eq_true rfl⟩) hb hml hz hK hY hAz hA hl.1 (lv_room (Nat.le_of_ble_eq_true rfl)) d_Al_grow1_37 ⟨by show 0 + 1 ≤ gCL + 1 - X0.cc; omega, by show 0 + gn x ≤ gSL + 6 - X0.ss; omega⟩ (fun v h2 H locs hp Z => ?_) (fun x9 E9 ce h2 H locs hp hce Z => ?_)
    · obtain ⟨q, e1, e2⟩ := hp
      cases e1
      subst e2
      refine W.eq (g2 := F0 m 40 ls [Value.ref q, Value.ref (b n)]) rfl ?_
      refine lv_dup_x1 hx hb d_Al_grow1_40 rfl rfl ?_
      refine gz_put (ci := 3) (v := Value.ref q) (ty := .array (.object "java/lang/Object")) (C := "java/util/ArrayList") (T := F_Al) (N := 3) hx hb hts i_Al t_Al_ok n_Al hown hK Z (gm_at f_n (by omega)) rfl 0 (by decide) kf_Al_9 rfl (by decide +kernel) rfl rfl (Nat.le_of_ble_eq_true rfl) d_Al_grow1_41 (fun H locs Z => ?_)
      refine gA_gr hx hb hr hlocks hK hw hn (gn_pos g1) g4 g5 gm_self ?_ (fun a ha1 ha2 => (gm_off ha1).trans (gm_off ha2)) Z (by omega) (by omega) d_Al_grow1_44
      rw [gm_off (by omega), gm_self]
      have hfun : (fun i => if i < X0.L (n + 124) then (X0.G (n + 124) i).map b else none) = va_cpy (fun i => (X0.G (n + 124) i).map b) (fun _ => none) 0 0 (X0.L (n + 124)) := by
        funext i
        unfold va_cpy
        by_cases q9 : i < X0.L (n + 124)
        · rw [if_pos q9, if_pos (by omega)]
          rw [Nat.sub_zero, Nat.zero_add]
        · rw [if_neg q9, if_neg (by omega)]
      rw [hfun]
    · obtain ⟨q, e1, e2⟩ := hp
      cases e1
