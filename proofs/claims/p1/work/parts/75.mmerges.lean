/-! MERGES over maps: a family of four facts; the writer's segments moved together. Rows printed by own text programs. -/
def gM_F (qm : Nat → Nat) (M : Nat → Nat → Nat) (mf : Nat → Option Nat) (h : gm_M) : Prop := ∀ j : Nat, j < 4 → h (21 + j) = some ((qm j, Sum.inr (5, [Value.int (nI (M j 0)), Value.int (nI (M j 1)), Value.int (nI (M j 2)), va_rf (mf j)])) : Nat × va_E)
theorem gM_off {qm : Nat → Nat} {M : Nat → Nat → Nat} {mf : Nat → Option Nat} {h : gm_M} {n : Nat} {x : Nat × va_E} (hf : gM_F qm M mf h) (hn : n < 21 ∨ 25 ≤ n) : gM_F qm M mf (gm_up h n x) := fun j hj => gm_at (hf j hj) (by omega)
theorem gM_call {qm : Nat → Nat} {M : Nat → Nat → Nat} {mf : Nat → Option Nat} {h h1 : gm_M} {ks : List Nat} (hf : gM_F qm M mf h) (hg : gm_g h h1 ks) (hk : ∀ k ∈ ks, k < 21 ∨ 25 ≤ k) : gM_F qm M mf h1 := fun j hj => hg.at (hf j hj) (fun e => by have := hk _ e; omega)
/-- the merge covers a segment that begins at s -/
def gq_c (M : Nat → Nat → Nat) (p : Nat → Nat) (s i : Nat) : Prop := ¬ nI s < nI (M (p i) 1) ∧ ¬ nI (M (p i) 2) ≤ nI s
/-- the number of the first of the r merges from i on that covers it, or 0 -/
def gq_mo (M : Nat → Nat → Nat) (p : Nat → Nat) (s : Nat) : Nat → Nat → Nat
  | 0, _ => 0
  | r + 1, i => if ¬ nI s < nI (M (p i) 1) ∧ ¬ nI (M (p i) 2) ≤ nI s then M (p i) 0 else gq_mo M p s r (i + 1)
theorem gq_mo_yes {M : Nat → Nat → Nat} {p : Nat → Nat} {s r k : Nat} (hk : k < r) (c1 : ¬ nI s < nI (M (p k) 1)) (c2 : ¬ nI (M (p k) 2) ≤ nI s) : M (p k) 0 = gq_mo M p s (r - k) k := by
  obtain ⟨j, hj⟩ : ∃ j, r - k = j + 1 := ⟨r - k - 1, by omega⟩
  rw [hj]
  exact (if_pos ⟨c1, c2⟩).symm
theorem gq_mo_no {M : Nat → Nat → Nat} {p : Nat → Nat} {s r k : Nat} (hk : k < r) (c : ¬ (¬ nI s < nI (M (p k) 1) ∧ ¬ nI (M (p k) 2) ≤ nI s)) : gq_mo M p s (r - (k + 1)) (k + 1) = gq_mo M p s (r - k) k := by
  obtain ⟨j, hj⟩ : ∃ j, r - k = j + 1 := ⟨r - k - 1, by omega⟩
  have hj2 : r - (k + 1) = j := by omega
  rw [hj, hj2]
  exact (if_neg c).symm
/-- how many of the first k are kept, and where they come to stand -/
def gk (c : Nat → Bool) : Nat → Nat
  | 0 => 0
  | k + 1 => if c k = true then gk c k + 1 else gk c k
def gc (c : Nat → Bool) (g o : Nat → Option Nat) : Nat → Nat → Option Nat
  | 0 => o
  | k + 1 => if c k = true then va_up (gc c g o k) (gk c k) (g k) else gc c g o k
theorem gk_yes {c : Nat → Bool} {k : Nat} (h : c k = true) : gk c (k + 1) = gk c k + 1 := if_pos h
theorem gk_no {c : Nat → Bool} {k : Nat} (h : ¬ c k = true) : gk c (k + 1) = gk c k := if_neg h
theorem gc_yes {c : Nat → Bool} {g o : Nat → Option Nat} {k : Nat} {x : Option Nat} (h : c k = true) (e : g k = x) : gc c g o (k + 1) = va_up (gc c g o k) (gk c k) x := by rw [← e]; exact if_pos h
theorem gc_no {c : Nat → Bool} {g o : Nat → Option Nat} {k : Nat} (h : ¬ c k = true) : gc c g o (k + 1) = gc c g o k := if_neg h
theorem gk_le {c : Nat → Bool} : ∀ k : Nat, gk c k ≤ k := by
  intro k
  induction k with
  | zero => exact Nat.le_refl _
  | succ k ih =>
    by_cases h : c k = true
    · rw [gk_yes h]; omega
    · rw [gk_no h]; omega
theorem gc_at {c : Nat → Bool} {g o : Nat → Option Nat} : ∀ (k i : Nat), k ≤ i → gc c g o k i = o i := by
  intro k
  induction k with
  | zero => intro i _; rfl
  | succ k ih =>
    intro i hi
    by_cases h : c k = true
    · rw [gc_yes h rfl, va_up_ne _ _ (by have := gk_le (c := c) k; omega)]
      exact ih i (by omega)
    · rw [gc_no h]
      exact ih i (by omega)
/-- a segment stays if it has a live entry or takes part in a merge -/
def gd_k (f : Nat → Int32) (F M : Nat → Nat → Nat) (p : Nat → Nat) (rr : Nat) (sj : Nat → Nat) (k : Nat) : Bool := decide (0 < nI (gv_n f (F (sj k) 5) (F (sj k) 6 - F (sj k) 5)) ∨ ¬ nI (gq_mo M p (F (sj k) 5) rr 0) = 0)
set_option maxHeartbeats 4000000 in
set_option maxRecDepth 100000 in
theorem k_Me_begin (l : Launch) (htr : l.stackTraces = false) (D : va_G) (tys : List (ClassId × FieldType)) (z sz : Nat) (ws : va_W) (h : gm_M) (hM : gm_S h ws) (n : Nat) (a : Nat) (x : Nat) (m0 : Int32) (m1 : Int32) (m2 : Int32) (p1 : Int32) (p2 : Int32) (p3 : Int32) (e0 : Value) (f_n : h n = some ((a, Sum.inr (5, [Value.int m0, Value.int m1, Value.int m2, e0])) : Nat × va_E)) : gx_Met l y_Me_begin [Cond.code y_Me_begin b_Me_begin 5 none] { frames := 1, cells := 0, slots := 0, locals := 12 } (gx_P z sz D classes tys ws [Value.ref a, Value.int p1, Value.int p2, Value.int p3, Value.ref x]) (gx_Q D classes tys (va_A ws sz) (gm_p (fun r h' => (r = Sum.inl none ∧ gm_g h h' [n] ∧ h' n = some ((a, Sum.inr (5, [Value.int p1, Value.int p2, Value.int p3, Value.ref x])) : Nat × va_E))))) 0 0 (va_A ws sz) := by
  refine gx_ofW (cc := b_Me_begin) (maxL := 5) (ret := none) (by decide) rfl ?_
  intro p e s m args below meth c s₁ B hml hv
  obtain ⟨rfl, hsz, hz, hP, hK, hD0, hY⟩ := hv
  have hx := B.exec
  have hb := B.bytes
  have hr := B.returns
  have hts := hY.hts (#[Value.ref a, Value.int p1, Value.int p2, Value.int p3, Value.ref x] : Array Value)
  have hown : s.vm.findClass "CommitLedger$Merge" = some m.cls := findClass_of_methodNamed B.named
  have hlocks := B.notSynchronized
  have hne : c.exceptionTable.isEmpty = true := B.noHandlers (atoms_spec (ws := [Cond.code y_Me_begin b_Me_begin 5 none]) B.pre _ List.mem_cons_self)
  subst hsz
  have hAz := gx_az hD0 hz
  have hD := hD0.self (sz := s.heap.size)
  have hN := gx_ns hP
  have hA : ∀ q : Nat, s.heap.size ≤ q → va_A ws s.heap.size q := fun q h => Or.inr h
  generalize va_A ws s.heap.size = A at hD hN hA hAz ⊢
  generalize hPQ : (fun (r : Option Value ⊕ String) (h' : gm_M) => (r = Sum.inl none ∧ gm_g h h' [n] ∧ h' n = some ((a, Sum.inr (5, [Value.int p1, Value.int p2, Value.int p3, Value.ref x])) : Nat × va_E))) = PQ
  have Z : gz D A s.heap h s.heap [] := ⟨ws, hM, hP, hD, va_S.rf⟩
  clear hP hD hM hD0
  have hU : gm_g h h [n] := gm_g.rf
  have hl := lv_entry ([Value.ref a, Value.int p1, Value.int p2, Value.int p3, Value.ref x]) (n := 5) (Nat.le_of_ble_eq_true rfl)
  rw [lg_entry_eq]
  generalize (lg_sl ([Value.ref a, Value.int p1, Value.int p2, Value.int p3, Value.ref x]) ++ List.replicate (5 - (lg_sl ([Value.ref a, Value.int p1, Value.int p2, Value.int p3, Value.ref x])).length) Slot.unset).toArray = ls at hl ⊢
  have hl : lv_has ls 5 [(0, Value.ref a), (1, Value.int p1), (2, Value.int p2), (3, Value.int p3), (4, Value.ref x)] := hl
  refine lv_aload_n hx hb d_Me_begin_0 rfl (lv_at hl 0 rfl) ?_
  refine lv_iload_n hx hb d_Me_begin_1 rfl (lv_at hl 1 rfl) ?_
  refine gz_put (ci := 5) (v := Value.int p1) (ty := .int) (C := "CommitLedger$Merge") (T := F_Me) (N := 4) hx hb hts i_Me t_Me_ok n_Me hown hK Z f_n rfl 0 (by decide) kf_Me_7 rfl (by decide +kernel) rfl rfl (Nat.le_of_ble_eq_true rfl) d_Me_begin_2 (fun H locs Z => ?_)
  obtain ⟨h1, e_h1⟩ : ∃ z9 : gm_M, z9 = gm_up h n ((a, Sum.inr (5, [Value.int p1, Value.int m1, Value.int m2, e0])) : Nat × va_E) := ⟨_, rfl⟩
  replace Z : gz D A s.heap h1 H locs := by rw [e_h1]; exact Z
  have f_n_h1 : h1 n = some ((a, Sum.inr (5, [Value.int p1, Value.int m1, Value.int m2, e0])) : Nat × va_E) := by rw [e_h1]; exact gm_self
  replace hU : gm_g h h1 [n] := by rw [e_h1]; exact hU.put (by simp)
  refine lv_aload_n hx hb d_Me_begin_5 rfl (lv_at hl 0 rfl) ?_
  refine lv_iload_n hx hb d_Me_begin_6 rfl (lv_at hl 2 rfl) ?_
  refine gz_put (ci := 5) (v := Value.int p2) (ty := .int) (C := "CommitLedger$Merge") (T := F_Me) (N := 4) hx hb hts i_Me t_Me_ok n_Me hown hK Z f_n_h1 rfl 1 (by decide) kf_Me_13 rfl (by decide +kernel) rfl rfl (Nat.le_of_ble_eq_true rfl) d_Me_begin_7 (fun H locs Z => ?_)
  obtain ⟨h2, e_h2⟩ : ∃ z9 : gm_M, z9 = gm_up h1 n ((a, Sum.inr (5, [Value.int p1, Value.int p2, Value.int m2, e0])) : Nat × va_E) := ⟨_, rfl⟩
  replace Z : gz D A s.heap h2 H locs := by rw [e_h2]; exact Z
  have f_n_h2 : h2 n = some ((a, Sum.inr (5, [Value.int p1, Value.int p2, Value.int m2, e0])) : Nat × va_E) := by rw [e_h2]; exact gm_self
  replace hU : gm_g h h2 [n] := by rw [e_h2]; exact hU.put (by simp)
  refine lv_aload_n hx hb d_Me_begin_10 rfl (lv_at hl 0 rfl) ?_
  refine lv_iload_n hx hb d_Me_begin_11 rfl (lv_at hl 3 rfl) ?_
  refine gz_put (ci := 5) (v := Value.int p3) (ty := .int) (C := "CommitLedger$Merge") (T := F_Me) (N := 4) hx hb hts i_Me t_Me_ok n_Me hown hK Z f_n_h2 rfl 2 (by decide) kf_Me_16 rfl (by decide +kernel) rfl rfl (Nat.le_of_ble_eq_true rfl) d_Me_begin_12 (fun H locs Z => ?_)
  obtain ⟨h3, e_h3⟩ : ∃ z9 : gm_M, z9 = gm_up h2 n ((a, Sum.inr (5, [Value.int p1, Value.int p2, Value.int p3, e0])) : Nat × va_E) := ⟨_, rfl⟩
  replace Z : gz D A s.heap h3 H locs := by rw [e_h3]; exact Z
  have f_n_h3 : h3 n = some ((a, Sum.inr (5, [Value.int p1, Value.int p2, Value.int p3, e0])) : Nat × va_E) := by rw [e_h3]; exact gm_self
  replace hU : gm_g h h3 [n] := by rw [e_h3]; exact hU.put (by simp)
  refine lv_aload_n hx hb d_Me_begin_15 rfl (lv_at hl 0 rfl) ?_
  refine lv_aload hx hb d_Me_begin_16 (lv_at hl 4 rfl) ?_
  refine gz_put (ci := 5) (v := Value.ref x) (ty := .object "CommitLedger$LedgerFile") (C := "CommitLedger$Merge") (T := F_Me) (N := 4) hx hb hts i_Me t_Me_ok n_Me hown hK Z f_n_h3 rfl 3 (by decide) kf_Me_19 rfl (by decide +kernel) rfl rfl (Nat.le_of_ble_eq_true rfl) d_Me_begin_18 (fun H locs Z => ?_)
  obtain ⟨h4, e_h4⟩ : ∃ z9 : gm_M, z9 = gm_up h3 n ((a, Sum.inr (5, [Value.int p1, Value.int p2, Value.int p3, Value.ref x])) : Nat × va_E) := ⟨_, rfl⟩
  replace Z : gz D A s.heap h4 H locs := by rw [e_h4]; exact Z
  have f_n_h4 : h4 n = some ((a, Sum.inr (5, [Value.int p1, Value.int p2, Value.int p3, Value.ref x])) : Nat × va_E) := by rw [e_h4]; exact gm_self
  replace hU : gm_g h h4 [n] := by rw [e_h4]; exact hU.put (by simp)
  exact gz_vret hx hb hr hlocks hK Z (by decide) (by decide) (by rw [← hPQ]; exact ⟨rfl, hU, f_n_h4⟩) d_Me_begin_21

set_option maxHeartbeats 4000000 in
set_option maxRecDepth 100000 in
theorem k_Le_mergeOf (l : Launch) (htr : l.stackTraces = false) (D : va_G) (tys : List (ClassId × FieldType)) (z sz : Nat) (ws : va_W) (h : gm_M) (hM : gm_S h ws) (cM : ClassId) (q0 : Nat) (q1 : Nat) (q5 : Nat) (q8 : Nat) (q20 : Nat) (q25 : Nat) (ec : Value) (ep : Value) (l7 : Int32) (l8 : Int32) (l9 : Int32) (l10 : Int32) (l11 : Int32) (l13 : Int32) (l14 : Int32) (l15 : Int32) (l16 : Int32) (l17 : Int32) (rr : Nat) (x : Nat) (gp : Nat → Option Nat) (pi : Nat → Nat) (qm : Nat → Nat) (M : Nat → Nat → Nat) (mf : Nat → Option Nat) (P : Nat → Prop) (F : Nat → Nat → Nat) (f_0 : h 0 = some ((q0, Sum.inr (0, [Value.ref q1, Value.ref q5, Value.ref q8, Value.ref q20, Value.ref q25, ec, ep, Value.int l7, Value.int l8, Value.int l9, Value.int l10, Value.int l11, Value.int (nI rr), Value.int l13, Value.int l14, Value.int l15, Value.int l16, Value.int l17])) : Nat × va_E)) (f_20 : h 20 = some ((q20, Sum.inl (cM, 4, Sum.inr (Sum.inr (Sum.inr (Sum.inr gp))))) : Nat × va_E)) (ht3 : tys[3]? = some ((cM, FieldType.object "CommitLedger$Merge") : ClassId × FieldType)) (fam : gf_F P F h) (mfam : gM_F qm M mf h) (hrr : rr ≤ 4) (hgp : ∀ i, i < 4 → gp i = some (qm (pi i)) ∧ pi i < 4) (hx9 : P x) : gx_Met l y_Le_mergeOf [Cond.code y_Le_mergeOf b_Le_mergeOf 3 (some .int)] { frames := 2, cells := 0, slots := 0, locals := 33 } (gx_P z sz D classes tys ws [Value.ref q0, Value.ref x]) (gx_Q D classes tys (va_A ws sz) (gm_p (fun r h' => (r = Sum.inl (some (Value.int (nI (gq_mo M pi (F x 5) rr 0)))) ∧ h' = h)))) 0 0 (va_A ws sz) := by
  refine gx_ofW (cc := b_Le_mergeOf) (maxL := 3) (ret := (some .int)) (by decide) rfl ?_
  intro p e s m args below meth c s₁ B hml hv
  obtain ⟨rfl, hsz, hz, hP, hK, hD0, hY⟩ := hv
  have hx := B.exec
  have hb := B.bytes
  have hr := B.returns
  have hts := hY.hts (#[Value.ref q0, Value.ref x] : Array Value)
  have hown : s.vm.findClass "CommitLedger" = some m.cls := findClass_of_methodNamed B.named
  have hlocks := B.notSynchronized
  have hne : c.exceptionTable.isEmpty = true := B.noHandlers (atoms_spec (ws := [Cond.code y_Le_mergeOf b_Le_mergeOf 3 (some .int)]) B.pre _ List.mem_cons_self)
  subst hsz
  have hAz := gx_az hD0 hz
  have hD := hD0.self (sz := s.heap.size)
  have hN := gx_ns hP
  have hA : ∀ q : Nat, s.heap.size ≤ q → va_A ws s.heap.size q := fun q h => Or.inr h
  generalize va_A ws s.heap.size = A at hD hN hA hAz ⊢
  generalize hPQ : (fun (r : Option Value ⊕ String) (h' : gm_M) => (r = Sum.inl (some (Value.int (nI (gq_mo M pi (F x 5) rr 0)))) ∧ h' = h)) = PQ
  have Z : gz D A s.heap h s.heap [] := ⟨ws, hM, hP, hD, va_S.rf⟩
  clear hP hD hM hD0
  have hU : gm_g h h [] := gm_g.rf
  have hl := lv_entry ([Value.ref q0, Value.ref x]) (n := 3) (Nat.le_of_ble_eq_true rfl)
  rw [lg_entry_eq]
  generalize (lg_sl ([Value.ref q0, Value.ref x]) ++ List.replicate (3 - (lg_sl ([Value.ref q0, Value.ref x])).length) Slot.unset).toArray = ls at hl ⊢
  have hl : lv_has ls 3 [(0, Value.ref q0), (1, Value.ref x)] := hl
  refine lv_iconst (v := 0) hx hb d_Le_mergeOf_0 (by decide) ?_
  refine lv_istore_n (lv' := [(2, Value.int 0), (0, Value.ref q0), (1, Value.ref x)]) hx hb d_Le_mergeOf_1 rfl hl (by decide) rfl (fun ls hl => ?_)
  refine gz_loop (N := rr) (pc := 2) (fun _ => 0) (fun _ => 0) (fun k h9 ls => h9 = h ∧ (gq_mo M pi (F x 5) (rr - k) k = gq_mo M pi (F x 5) rr 0) ∧ lv_has ls 3 [(2, Value.int (nI k)), (0, Value.ref q0), (1, Value.ref x)]) (fun k w1 H locs ls hk hI Z ih => ?_) (fun w1 H locs ls hI Z => ?_) (rr) 0 _ _ _ _ (Nat.zero_add _) ⟨rfl, rfl, lv_sub hl [0, 1, 2] rfl⟩ Z
  · obtain ⟨hU, hj9, hl⟩ := hI
    rw [hU] at Z
    have hU : gm_g h h [] := gm_g.rf
    refine lv_iload_n hx hb d_Le_mergeOf_2 rfl (lv_at hl 0 rfl) ?_
    refine lv_aload_n hx hb d_Le_mergeOf_3 rfl (lv_at hl 1 rfl) ?_
    refine gz_get (ci := 0) (v := Value.int (nI rr)) (C := "CommitLedger") (T := F_Le) (N := 18) hx hb hts i_Le hown hK Z f_0 rfl 12 (by decide) kf_Le_142 rfl d_Le_mergeOf_4 ?_
    refine lv_icmp_ge (tgt := 39) hx hb d_Le_mergeOf_7 (by decide) (fun c9 => absurd c9 (nI_ge hk (by omega))) (fun _ => ?_)
    refine lv_aload_n hx hb d_Le_mergeOf_10 rfl (lv_at hl 1 rfl) ?_
    refine gz_get (ci := 0) (v := Value.ref q20) (C := "CommitLedger") (T := F_Le) (N := 18) hx hb hts i_Le hown hK Z f_0 rfl 3 (by decide) kf_Le_38 rfl d_Le_mergeOf_11 ?_
    refine lv_iload_n hx hb d_Le_mergeOf_14 rfl (lv_at hl 0 rfl) ?_
    refine gz_aald (v := Value.ref (qm (pi k))) (j := k) hx hb hK Z 3 f_20 ht3 (by omega) (rfl) (by decide) (by rw [(hgp k (by omega)).1]; rfl) d_Le_mergeOf_15 ?_
    refine lv_aload_n hx hb d_Le_mergeOf_16 rfl (lv_at hl 2 rfl) ?_
    refine gz_call (ig := .invokevirtual 330) (av := [Value.ref (qm (pi k)), Value.ref x]) Z (fun ws hM => k_Me_covers l htr D tys z _ ws h hM (21 + pi k) (qm (pi k)) x (M (pi k) 1) (M (pi k) 2) (nI (M (pi k) 0)) (va_rf (mf (pi k))) P F (mfam (pi k) (hgp k (by omega)).2) fam hx9) (gx_invV (As := [Value.ref x]) (rest := []) hx hb hown hts km_Le_330 kI_Me_covers kV_Me_covers kc_Me_covers (by decide) (show (parseMethodDescriptor y_Me_covers.desc).map (fun d => d.parameters.length) = some 1 by decide +kernel) (gz_recv (ci := 5) hK Z rfl (mfam (pi k) (hgp k (by omega)).2)) rfl rfl d_Le_mergeOf_17) (gx_cw (z := 0) hts kc_Me_covers kN_Me rfl rfl ⟨Nat.le_of_ble_eq_true rfl, Nat.le_of_ble_eq_true rfl⟩) hb hml hz hK hY hAz hA hl.1 (lv_room (Nat.le_of_ble_eq_true rfl)) d_Le_mergeOf_17 ⟨Nat.le_of_ble_eq_true rfl, Nat.le_of_ble_eq_true rfl⟩ (fun v3 h4 H locs hp Z => ?_) (fun x3 E9 ce h4 H locs hp hce Z => ?_)
    · rcases hp with ⟨hv9, e_h4, g3_0, g3_1⟩ | ⟨hv9, e_h4, g3_0⟩ | ⟨hv9, e_h4, g3_0, g3_1⟩
      · cases hv9
        rw [e_h4] at Z
        refine W.eq (g2 := F0 m 20 ls [Value.int 1]) rfl ?_
        refine lv_if_eq (tgt := 33) hx hb d_Le_mergeOf_20 (by decide) (fun c9 => absurd c9 (by decide)) (fun _ => ?_)
        refine lv_aload_n hx hb d_Le_mergeOf_23 rfl (lv_at hl 1 rfl) ?_
        refine gz_get (ci := 0) (v := Value.ref q20) (C := "CommitLedger") (T := F_Le) (N := 18) hx hb hts i_Le hown hK Z f_0 rfl 3 (by decide) kf_Le_38 rfl d_Le_mergeOf_24 ?_
        refine lv_iload_n hx hb d_Le_mergeOf_27 rfl (lv_at hl 0 rfl) ?_
        refine gz_aald (v := Value.ref (qm (pi k))) (j := k) hx hb hK Z 3 f_20 ht3 (by omega) (rfl) (by decide) (by rw [(hgp k (by omega)).1]; rfl) d_Le_mergeOf_28 ?_
        refine gz_get (ci := 5) (v := Value.int (nI (M (pi k) 0))) (C := "CommitLedger$Merge") (T := F_Me) (N := 4) hx hb hts i_Me hown hK Z (mfam (pi k) (hgp k (by omega)).2) rfl 0 (by decide) kf_Le_334 rfl d_Le_mergeOf_29 ?_
        refine gx_topi (y := nI (gq_mo M pi (F x 5) rr 0)) (congrArg nI ((gq_mo_yes hk g3_0 g3_1).trans hj9)) ?_
        exact gz_iret (v := nI (gq_mo M pi (F x 5) rr 0)) hx hb hr hlocks hK Z (by decide) (by decide) (by rw [← hPQ]; exact ⟨rfl, rfl⟩) d_Le_mergeOf_32
      · cases hv9
        rw [e_h4] at Z
        refine W.eq (g2 := F0 m 20 ls [Value.int 0]) rfl ?_
        refine lv_if_eq (tgt := 33) hx hb d_Le_mergeOf_20 (by decide) (fun _ => ?_) (fun c9 => absurd (by decide) c9)
        refine lv_iinc (v := nI (k + 1)) (lv' := [(2, Value.int (nI (k + 1))), (0, Value.ref q0), (1, Value.ref x)]) hx hb d_Le_mergeOf_33 hl (k := 0) rfl (show nI k + 1 = nI (k + 1) from nI_1 _) (by decide) rfl (fun ls hl => ?_)
        refine lv_goto (tgt := 2) hx hb d_Le_mergeOf_36 (by decide) ?_
        exact ih _ _ _ _ ⟨rfl, ((gq_mo_no hk (fun e9 => e9.1 g3_0)).trans hj9), lv_sub hl [0, 1, 2] rfl⟩ Z
      · cases hv9
        rw [e_h4] at Z
        refine W.eq (g2 := F0 m 20 ls [Value.int 0]) rfl ?_
        refine lv_if_eq (tgt := 33) hx hb d_Le_mergeOf_20 (by decide) (fun _ => ?_) (fun c9 => absurd (by decide) c9)
        refine lv_iinc (v := nI (k + 1)) (lv' := [(2, Value.int (nI (k + 1))), (0, Value.ref q0), (1, Value.ref x)]) hx hb d_Le_mergeOf_33 hl (k := 0) rfl (show nI k + 1 = nI (k + 1) from nI_1 _) (by decide) rfl (fun ls hl => ?_)
        refine lv_goto (tgt := 2) hx hb d_Le_mergeOf_36 (by decide) ?_
        exact ih _ _ _ _ ⟨rfl, ((gq_mo_no hk (fun e9 => e9.2 g3_1)).trans hj9), lv_sub hl [0, 1, 2] rfl⟩ Z
    · rcases hp with ⟨hv9, e_h4, g3_0, g3_1⟩ | ⟨hv9, e_h4, g3_0⟩ | ⟨hv9, e_h4, g3_0, g3_1⟩
      · cases hv9
      · cases hv9
      · cases hv9
  · obtain ⟨hU, hj9, hl⟩ := hI
    rw [hU] at Z
    have hU : gm_g h h [] := gm_g.rf
    refine lv_iload_n hx hb d_Le_mergeOf_2 rfl (lv_at hl 0 rfl) ?_
    refine lv_aload_n hx hb d_Le_mergeOf_3 rfl (lv_at hl 1 rfl) ?_
    refine gz_get (ci := 0) (v := Value.int (nI rr)) (C := "CommitLedger") (T := F_Le) (N := 18) hx hb hts i_Le hown hK Z f_0 rfl 12 (by decide) kf_Le_142 rfl d_Le_mergeOf_4 ?_
    refine lv_icmp_ge (tgt := 39) hx hb d_Le_mergeOf_7 (by decide) (fun _ => ?_) (fun c9 => absurd (nI_le (Nat.le_refl _) (by omega)) c9)
    refine lv_iconst (v := 0) hx hb d_Le_mergeOf_39 (by decide) ?_
    refine gx_topi (y := nI (gq_mo M pi (F x 5) rr 0)) (by rw [← hj9, Nat.sub_self]; rfl) ?_
    exact gz_iret (v := nI (gq_mo M pi (F x 5) rr 0)) hx hb hr hlocks hK Z (by decide) (by decide) (by rw [← hPQ]; exact ⟨rfl, rfl⟩) d_Le_mergeOf_40
