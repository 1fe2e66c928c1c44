/-! levelOf, allCanBeMerged, firstByPolicy over maps; rows printed by own text programs, but for the first -/
theorem gv_n_le {f : Nat → Int32} {a : Nat} : ∀ r : Nat, gv_n f a r ≤ r := by
  intro r
  induction r with
  | zero => exact Nat.le_refl _
  | succ r ih =>
    by_cases c0 : f (a + r) = 0
    · rw [gv_n_z c0]; omega
    · rw [gv_n_o c0]; omega
/-- the powers of the factor, and how many of the first n are at most lv -/
def gl_p (fa : Nat) : Nat → Nat
  | 0 => fa
  | k + 1 => gl_p fa k * fa
def gl (fa lv : Nat) : Nat → Nat → Nat
  | 0, _ => 0
  | n + 1, j => if gl_p fa j ≤ lv then gl fa lv n (j + 1) + 1 else 0
theorem gl_step {fa lv : Nat} : ∀ (n j i : Nat), i < gl fa lv n j → gl_p fa (j + i) ≤ lv ∧ i < n := by
  intro n
  induction n with
  | zero => intro j i h; exact absurd h (Nat.not_lt_zero i)
  | succ n ih =>
    intro j i h
    by_cases c : gl_p fa j ≤ lv
    · have e : gl fa lv (n + 1) j = gl fa lv n (j + 1) + 1 := if_pos c
      rw [e] at h
      cases i with
      | zero => exact ⟨c, Nat.succ_pos n⟩
      | succ i =>
        have h2 := ih (j + 1) i (by omega)
        exact ⟨by rw [show j + (i + 1) = j + 1 + i by omega]; exact h2.1, by omega⟩
    · have e : gl fa lv (n + 1) j = 0 := if_neg c
      rw [e] at h
      exact absurd h (Nat.not_lt_zero i)
theorem gl_end {fa lv : Nat} : ∀ (n j : Nat), gl fa lv n j = n ∨ ¬ gl_p fa (j + gl fa lv n j) ≤ lv := by
  intro n
  induction n with
  | zero => intro j; exact Or.inl rfl
  | succ n ih =>
    intro j
    by_cases c : gl_p fa j ≤ lv
    · have e : gl fa lv (n + 1) j = gl fa lv n (j + 1) + 1 := if_pos c
      rw [e]
      rcases ih (j + 1) with h | h
      · exact Or.inl (by rw [h])
      · exact Or.inr (by rw [show j + (gl fa lv n (j + 1) + 1) = j + 1 + gl fa lv n (j + 1) by omega]; exact h)
    · have e : gl fa lv (n + 1) j = 0 := if_neg c
      rw [e]
      exact Or.inr c
theorem gl_le {fa lv : Nat} : ∀ (n j : Nat), gl fa lv n j ≤ n := by
  intro n j
  rcases Nat.lt_or_ge n (gl fa lv n j) with h | h
  · exact absurd (gl_step n j n h).2 (Nat.lt_irrefl n)
  · exact h
theorem gl_b {fa lv k : Nat} (h1 : fa ≤ 64) (h2 : lv ≤ 4096) (hk : k ≤ gl fa lv 12 0) : gl_p fa k < 2 ^ 31 := by
  cases k with
  | zero => show fa < 2 ^ 31; omega
  | succ k =>
    have h3 := (gl_step (fa := fa) (lv := lv) 12 0 k (by omega)).1
    rw [Nat.zero_add] at h3
    show gl_p fa k * fa < 2 ^ 31
    have h4 : gl_p fa k * fa ≤ 4096 * 64 := Nat.mul_le_mul (by omega) h1
    omega
theorem gl_s1 {fa lv k : Nat} (h2 : lv ≤ 4096) (hk : k < gl fa lv 12 0) : ¬ nI lv < nI (gl_p fa k) := by
  have h3 := (gl_step 12 0 k hk).1
  rw [Nat.zero_add] at h3
  exact nI_nlt h3 (by omega)
theorem gl_s2 {fa lv k : Nat} (hk : k < gl fa lv 12 0) : ¬ (12 : Int32) ≤ nI k := show ¬ nI 12 ≤ nI k from nI_ge (gl_step 12 0 k hk).2 (by decide)
theorem gl_x {fa lv : Nat} (h1 : fa ≤ 64) (h2 : lv ≤ 4096) (c : ¬ nI lv < nI (gl_p fa (gl fa lv 12 0))) : (12 : Int32) ≤ nI (gl fa lv 12 0) := by
  rcases gl_end (fa := fa) (lv := lv) 12 0 with h | h
  · rw [h]; decide
  · rw [Nat.zero_add] at h
    exact absurd (nI_lt (by omega) (gl_b h1 h2 (Nat.le_refl _))) c
/-- so many at the end of the first i in a row -/
def gw (c : Nat → Bool) : Nat → Nat
  | 0 => 0
  | i + 1 => if c i = true then gw c i + 1 else 0
theorem gw_y {c : Nat → Bool} {i : Nat} (h : c i = true) : gw c (i + 1) = gw c i + 1 := if_pos h
theorem gw_n {c : Nat → Bool} {i : Nat} (h : ¬ c i = true) : gw c (i + 1) = 0 := if_neg h
theorem gw_le {c : Nat → Bool} : ∀ i : Nat, gw c i ≤ i := by
  intro i
  induction i with
  | zero => exact Nat.le_refl _
  | succ i ih =>
    by_cases h : c i = true
    · rw [gw_y h]; omega
    · rw [gw_n h]; omega
set_option maxHeartbeats 4000000 in
set_option maxRecDepth 100000 in
theorem k_Le_levelOf (l : Launch) (htr : l.stackTraces = false) (D : va_G) (tys : List (ClassId × FieldType)) (z sz : Nat) (ws : va_W) (h : gm_M) (hM : gm_S h ws) (cZ : ClassId) (cF : ClassId) (q0 : Nat) (q1 : Nat) (q5 : Nat) (q8 : Nat) (q20 : Nat) (q25 : Nat) (ec : Value) (ep : Value) (l7 : Int32) (l8 : Int32) (l9 : Int32) (l10 : Int32) (l12 : Int32) (l13 : Int32) (l14 : Int32) (l15 : Int32) (l16 : Int32) (l17 : Int32) (q9 : Nat) (q10 : Nat) (q11 : Nat) (u : Nat) (e0 : Value) (x5 : Int32) (g1 : Nat → Option Nat) (g2 : Nat → Option Nat) (f : Nat → Int32) (fa : Nat) (x : Nat) (P : Nat → Prop) (F : Nat → Nat → Nat) (f_0 : h 0 = some ((q0, Sum.inr (0, [Value.ref q1, Value.ref q5, Value.ref q8, Value.ref q20, Value.ref q25, ec, ep, Value.int l7, Value.int l8, Value.int l9, Value.int l10, Value.int (nI fa), Value.int l12, Value.int l13, Value.int l14, Value.int l15, Value.int l16, Value.int l17])) : Nat × va_E)) (f_8 : h 8 = some ((q8, Sum.inr (4, [Value.ref q9, Value.ref q10, Value.ref q11, e0, Value.int (nI u), Value.int x5])) : Nat × va_E)) (f_9 : h 9 = some ((q9, Sum.inl (cF, 4096, Sum.inr (Sum.inr (Sum.inr (Sum.inr g1))))) : Nat × va_E)) (f_10 : h 10 = some ((q10, Sum.inl (cF, 4096, Sum.inr (Sum.inr (Sum.inr (Sum.inr g2))))) : Nat × va_E)) (f_11 : h 11 = some ((q11, Sum.inl (cZ, 4096, Sum.inl f)) : Nat × va_E)) (ht1 : tys[1]? = some ((cZ, FieldType.boolean) : ClassId × FieldType)) (ht2 : tys[2]? = some ((cF, FieldType.object "CommitLedger$LedgerFile") : ClassId × FieldType)) (fam : gf_F P F h) (hfa : 2 ≤ fa ∧ fa ≤ 64) (hx9 : P x) (hs9 : ∀ x, P x → F x 5 ≤ 4096 ∧ F x 6 ≤ 4096) (h59 : F x 6 ≤ 4096) : gx_Met l y_Le_levelOf [Cond.code y_Le_levelOf b_Le_levelOf 5 (some .int)] { frames := 3, cells := 0, slots := 0, locals := 57 } (gx_P z sz D classes tys ws [Value.ref q0, Value.ref x]) (gx_Q D classes tys (va_A ws sz) (gm_p (fun r h' => (r = Sum.inl (some (Value.int (nI (gl fa (gv_n f (F x 5) (F x 6 - F x 5)) 12 0)))) ∧ h' = h)))) 0 0 (va_A ws sz) := by
  refine gx_ofW (cc := b_Le_levelOf) (maxL := 5) (ret := (some .int)) (by decide) rfl ?_
  intro p e s m args below meth c s₁ B hml hv
  obtain ⟨rfl, hsz, hz, hP, hK, hD0, hY⟩ := hv
  have hx := B.exec
  have hb := B.bytes
  have hr := B.returns
  have hts := hY.hts (#[Value.ref q0, Value.ref x] : Array Value)
  have hown : s.vm.findClass "CommitLedger" = some m.cls := findClass_of_methodNamed B.named
  have hlocks := B.notSynchronized
  have hne : c.exceptionTable.isEmpty = true := B.noHandlers (atoms_spec (ws := [Cond.code y_Le_levelOf b_Le_levelOf 5 (some .int)]) B.pre _ List.mem_cons_self)
  subst hsz
  have hAz := gx_az hD0 hz
  have hD := hD0.self (sz := s.heap.size)
  have hN := gx_ns hP
  have hA : ∀ q : Nat, s.heap.size ≤ q → va_A ws s.heap.size q := fun q h => Or.inr h
  generalize va_A ws s.heap.size = A at hD hN hA hAz ⊢
  generalize hPQ : (fun (r : Option Value ⊕ String) (h' : gm_M) => (r = Sum.inl (some (Value.int (nI (gl fa (gv_n f (F x 5) (F x 6 - F x 5)) 12 0)))) ∧ h' = h)) = PQ
  have Z : gz D A s.heap h s.heap [] := ⟨ws, hM, hP, hD, va_S.rf⟩
  clear hP hD hM hD0
  have hU : gm_g h h [] := gm_g.rf
  have hl := lv_entry ([Value.ref q0, Value.ref x]) (n := 5) (Nat.le_of_ble_eq_true rfl)
  rw [lg_entry_eq]
  generalize (lg_sl ([Value.ref q0, Value.ref x]) ++ List.replicate (5 - (lg_sl ([Value.ref q0, Value.ref x])).length) Slot.unset).toArray = ls at hl ⊢
  have hl : lv_has ls 5 [(0, Value.ref q0), (1, Value.ref x)] := hl
  refine lv_aload_n hx hb d_Le_levelOf_0 rfl (lv_at hl 0 rfl) ?_
  refine gz_get (ci := 0) (v := Value.ref q8) (C := "CommitLedger") (T := F_Le) (N := 18) hx hb hts i_Le hown hK Z f_0 rfl 2 (by decide) kf_Le_26 rfl d_Le_levelOf_1 ?_
  refine lv_aload_n hx hb d_Le_levelOf_4 rfl (lv_at hl 1 rfl) ?_
  refine gz_call (ig := .invokevirtual 261) (av := [Value.ref q8, Value.ref x]) Z (fun ws hM => k_Vi_liveIn l htr D tys z _ ws h hM cZ cF 8 q8 q9 q10 q11 u (e0) x5 g1 g2 f x P F f_8 f_9 f_10 f_11 ht1 ht2 fam hx9 (hs9 x hx9).1 h59) (gx_invV (As := [Value.ref x]) (rest := []) hx hb hown hts km_Le_261 kI_Vi_liveIn kV_Vi_liveIn kc_Vi_liveIn (by decide) (show (parseMethodDescriptor y_Vi_liveIn.desc).map (fun d => d.parameters.length) = some 1 by decide +kernel) (gz_recv (ci := 4) hK Z rfl f_8) rfl rfl d_Le_levelOf_5) (gx_cw (z := 0) hts kc_Vi_liveIn kN_Vi rfl rfl ⟨Nat.le_of_ble_eq_true rfl, Nat.le_of_ble_eq_true rfl⟩) hb hml hz hK hY hAz hA hl.1 (lv_room (Nat.le_of_ble_eq_true rfl)) d_Le_levelOf_5 ⟨Nat.le_of_ble_eq_true rfl, Nat.le_of_ble_eq_true rfl⟩ (fun v1 h2 H locs hp Z => ?_) (fun x1 E9 ce h2 H locs hp hce Z => ?_)
  · rcases hp with ⟨hv9, e_h2⟩
    cases hv9
    rw [e_h2] at Z
    refine W.eq (g2 := F0 m 8 ls [Value.int (nI (gv_n f (F x 5) (F x 6 - F x 5)))]) rfl ?_
    refine lv_istore_n (lv' := [(2, Value.int (nI (gv_n f (F x 5) (F x 6 - F x 5)))), (0, Value.ref q0), (1, Value.ref x)]) hx hb d_Le_levelOf_8 rfl hl (by decide) rfl (fun ls hl => ?_)
    refine lv_iconst (v := 0) hx hb d_Le_levelOf_9 (by decide) ?_
    refine lv_istore_n (lv' := [(3, Value.int 0), (2, Value.int (nI (gv_n f (F x 5) (F x 6 - F x 5)))), (0, Value.ref q0), (1, Value.ref x)]) hx hb d_Le_levelOf_10 rfl hl (by decide) rfl (fun ls hl => ?_)
    refine lv_aload_n hx hb d_Le_levelOf_11 rfl (lv_at hl 2 rfl) ?_
    refine gz_get (ci := 0) (v := Value.int (nI fa)) (C := "CommitLedger") (T := F_Le) (N := 18) hx hb hts i_Le hown hK Z f_0 rfl 11 (by decide) kf_Le_54 rfl d_Le_levelOf_12 ?_
    refine lv_istore (lv' := [(4, Value.int (nI fa)), (3, Value.int 0), (2, Value.int (nI (gv_n f (F x 5) (F x 6 - F x 5)))), (0, Value.ref q0), (1, Value.ref x)]) hx hb d_Le_levelOf_15 hl (by decide) rfl (fun ls hl => ?_)
    have hlv : gv_n f (F x 5) (F x 6 - F x 5) ≤ 4096 := Nat.le_trans (gv_n_le _) (by omega)
    have hl : lv_has ls 5 [(4, Value.int (nI (gl_p fa 0))), (3, Value.int (nI 0)), (2, Value.int (nI (gv_n f (F x 5) (F x 6 - F x 5)))), (0, Value.ref q0)] := lv_sub hl [0, 1, 2, 3] rfl
    refine gz_loop (N := (gl fa (gv_n f (F x 5) (F x 6 - F x 5)) 12 0)) (pc := 17) (fun _ => 0) (fun _ => 0) (fun k h9 ls => h9 = h ∧ lv_has ls 5 [(4, Value.int (nI (gl_p fa k))), (3, Value.int (nI k)), (2, Value.int (nI (gv_n f (F x 5) (F x 6 - F x 5)))), (0, Value.ref q0)]) (fun k w3 H locs ls hk hI Z ihk => ?_) (fun w3 H locs ls hI Z => ?_) ((gl fa (gv_n f (F x 5) (F x 6 - F x 5)) 12 0)) 0 _ _ _ _ (Nat.zero_add _) ⟨rfl, lv_sub hl [0, 1, 2, 3] rfl⟩ Z
    · obtain ⟨hU, hl⟩ := hI
      rw [hU] at Z
      have hU : gm_g h h [] := gm_g.rf
      refine lv_iload hx hb d_Le_levelOf_17 (lv_at hl 0 rfl) ?_
      refine lv_iload_n hx hb d_Le_levelOf_19 rfl (lv_at hl 2 rfl) ?_
      refine lv_icmp_gt (tgt := 44) hx hb d_Le_levelOf_20 (by decide) (fun c9 => absurd c9 (gl_s1 hlv hk)) (fun _ => ?_)
      refine lv_iload_n hx hb d_Le_levelOf_23 rfl (lv_at hl 1 rfl) ?_
      refine lv_bipush (v := 12) hx hb d_Le_levelOf_24 (by decide) ?_
      refine lv_icmp_ge (tgt := 44) hx hb d_Le_levelOf_26 (by decide) (fun c9 => absurd c9 (gl_s2 hk)) (fun _ => ?_)
      refine lv_iinc (v := nI (k + 1)) (lv' := [(3, Value.int (nI (k + 1))), (4, Value.int (nI (gl_p fa k))), (2, Value.int (nI (gv_n f (F x 5) (F x 6 - F x 5)))), (0, Value.ref q0)]) hx hb d_Le_levelOf_29 hl (k := 1) rfl (show nI k + 1 = nI (k + 1) from nI_1 _) (by decide) rfl (fun ls hl => ?_)
      refine lv_iload hx hb d_Le_levelOf_32 (lv_at hl 1 rfl) ?_
      refine lv_aload_n hx hb d_Le_levelOf_34 rfl (lv_at hl 3 rfl) ?_
      refine gz_get (ci := 0) (v := Value.int (nI fa)) (C := "CommitLedger") (T := F_Le) (N := 18) hx hb hts i_Le hown hK Z f_0 rfl 11 (by decide) kf_Le_54 rfl d_Le_levelOf_35 ?_
      refine lv_imul hx hb d_Le_levelOf_38 ?_
      refine gx_topi (y := nI ((gl_p fa k) * fa)) (pk_mul _ _) ?_
      refine lv_istore (lv' := [(4, Value.int (nI ((gl_p fa k) * fa))), (3, Value.int (nI (k + 1))), (2, Value.int (nI (gv_n f (F x 5) (F x 6 - F x 5)))), (0, Value.ref q0)]) hx hb d_Le_levelOf_39 hl (by decide) rfl (fun ls hl => ?_)
      refine lv_goto (tgt := 17) hx hb d_Le_levelOf_41 (by decide) ?_
      exact ihk _ _ _ _ ⟨rfl, lv_sub hl [0, 1, 2, 3] rfl⟩ Z
    · obtain ⟨hU, hl⟩ := hI
      rw [hU] at Z
      have hU : gm_g h h [] := gm_g.rf
      refine lv_iload hx hb d_Le_levelOf_17 (lv_at hl 0 rfl) ?_
      refine lv_iload_n hx hb d_Le_levelOf_19 rfl (lv_at hl 2 rfl) ?_
      refine lv_icmp_gt (tgt := 44) hx hb d_Le_levelOf_20 (by decide) (fun c20_6 => ?_) (fun c20_6 => ?_)
      · refine lv_iload_n hx hb d_Le_levelOf_44 rfl (lv_at hl 1 rfl) ?_
        exact gz_iret (v := nI (gl fa (gv_n f (F x 5) (F x 6 - F x 5)) 12 0)) hx hb hr hlocks hK Z (by decide) (by decide) (by rw [← hPQ]; exact ⟨rfl, rfl⟩) d_Le_levelOf_45
      · refine lv_iload_n hx hb d_Le_levelOf_23 rfl (lv_at hl 1 rfl) ?_
        refine lv_bipush (v := 12) hx hb d_Le_levelOf_24 (by decide) ?_
        refine lv_icmp_ge (tgt := 44) hx hb d_Le_levelOf_26 (by decide) (fun _ => ?_) (fun c9 => absurd (gl_x hfa.2 hlv (by assumption)) c9)
        refine lv_iload_n hx hb d_Le_levelOf_44 rfl (lv_at hl 1 rfl) ?_
        exact gz_iret (v := nI (gl fa (gv_n f (F x 5) (F x 6 - F x 5)) 12 0)) hx hb hr hlocks hK Z (by decide) (by decide) (by rw [← hPQ]; exact ⟨rfl, rfl⟩) d_Le_levelOf_45
  · rcases hp with ⟨hv9, e_h2⟩
    cases hv9
