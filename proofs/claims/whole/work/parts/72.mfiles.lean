/-! FILES: the objects of LedgerFile, named 1000 + their address: a family of facts. Views over maps. Rows printed by own text programs. -/
def gf_F (P : Nat → Prop) (F : Nat → Nat → Nat) (h : gm_M) : Prop := ∀ a : Nat, P a → h (1000 + a) = some ((a, Sum.inr (7, [Value.int (nI (F a 0)), Value.int (nI (F a 1)), Value.int (nI (F a 2)), Value.int (nI (F a 3)), Value.int (nI (F a 4)), Value.int (nI (F a 5)), Value.int (nI (F a 6))])) : Nat × va_E)
def gf_up (F : Nat → Nat → Nat) (a i x : Nat) : Nat → Nat → Nat := fun b j => if b = a ∧ j = i then x else F b j
theorem gf_up_self {F : Nat → Nat → Nat} {a i x : Nat} : gf_up F a i x a i = x := if_pos ⟨rfl, rfl⟩
theorem gf_up_a {F : Nat → Nat → Nat} {a b i j x : Nat} (hb : b ≠ a) : gf_up F a i x b j = F b j := if_neg (fun e => hb e.1)
theorem gf_up_i {F : Nat → Nat → Nat} {a b i j x : Nat} (hj : j ≠ i) : gf_up F a i x b j = F b j := if_neg (fun e => hj e.2)
theorem gf_off {P : Nat → Prop} {F : Nat → Nat → Nat} {h : gm_M} {n : Nat} {x : Nat × va_E} (hf : gf_F P F h) (hn : n < 1000) : gf_F P F (gm_up h n x) := fun a ha => gm_at (hf a ha) (by omega)
theorem gf_call {P : Nat → Prop} {F : Nat → Nat → Nat} {h h1 : gm_M} {ks : List Nat} (hf : gf_F P F h) (hg : gm_g h h1 ks) (hk : ∀ k ∈ ks, k < 1000) : gf_F P F h1 := fun a ha => hg.at (hf a ha) (fun e => by have := hk _ e; omega)
theorem gf_put0 {P : Nat → Prop} {F : Nat → Nat → Nat} {h : gm_M} {a x : Nat} (hf : gf_F P F h) : gf_F P (gf_up F a 0 x) (gm_up h (1000 + a) ((a, Sum.inr (7, [Value.int (nI x), Value.int (nI (F a 1)), Value.int (nI (F a 2)), Value.int (nI (F a 3)), Value.int (nI (F a 4)), Value.int (nI (F a 5)), Value.int (nI (F a 6))])) : Nat × va_E)) := by
  intro b hb
  by_cases e : b = a
  · rw [e, gm_self, gf_up_self, gf_up_i (j := 1) (by decide), gf_up_i (j := 2) (by decide), gf_up_i (j := 3) (by decide), gf_up_i (j := 4) (by decide), gf_up_i (j := 5) (by decide), gf_up_i (j := 6) (by decide)]
  · rw [gm_off (by omega), gf_up_a (j := 0) e, gf_up_a (j := 1) e, gf_up_a (j := 2) e, gf_up_a (j := 3) e, gf_up_a (j := 4) e, gf_up_a (j := 5) e, gf_up_a (j := 6) e]
    exact hf b hb
theorem gf_put1 {P : Nat → Prop} {F : Nat → Nat → Nat} {h : gm_M} {a x : Nat} (hf : gf_F P F h) : gf_F P (gf_up F a 1 x) (gm_up h (1000 + a) ((a, Sum.inr (7, [Value.int (nI (F a 0)), Value.int (nI x), Value.int (nI (F a 2)), Value.int (nI (F a 3)), Value.int (nI (F a 4)), Value.int (nI (F a 5)), Value.int (nI (F a 6))])) : Nat × va_E)) := by
  intro b hb
  by_cases e : b = a
  · rw [e, gm_self, gf_up_self, gf_up_i (j := 0) (by decide), gf_up_i (j := 2) (by decide), gf_up_i (j := 3) (by decide), gf_up_i (j := 4) (by decide), gf_up_i (j := 5) (by decide), gf_up_i (j := 6) (by decide)]
  · rw [gm_off (by omega), gf_up_a (j := 0) e, gf_up_a (j := 1) e, gf_up_a (j := 2) e, gf_up_a (j := 3) e, gf_up_a (j := 4) e, gf_up_a (j := 5) e, gf_up_a (j := 6) e]
    exact hf b hb
theorem gf_put2 {P : Nat → Prop} {F : Nat → Nat → Nat} {h : gm_M} {a x : Nat} (hf : gf_F P F h) : gf_F P (gf_up F a 2 x) (gm_up h (1000 + a) ((a, Sum.inr (7, [Value.int (nI (F a 0)), Value.int (nI (F a 1)), Value.int (nI x), Value.int (nI (F a 3)), Value.int (nI (F a 4)), Value.int (nI (F a 5)), Value.int (nI (F a 6))])) : Nat × va_E)) := by
  intro b hb
  by_cases e : b = a
  · rw [e, gm_self, gf_up_self, gf_up_i (j := 0) (by decide), gf_up_i (j := 1) (by decide), gf_up_i (j := 3) (by decide), gf_up_i (j := 4) (by decide), gf_up_i (j := 5) (by decide), gf_up_i (j := 6) (by decide)]
  · rw [gm_off (by omega), gf_up_a (j := 0) e, gf_up_a (j := 1) e, gf_up_a (j := 2) e, gf_up_a (j := 3) e, gf_up_a (j := 4) e, gf_up_a (j := 5) e, gf_up_a (j := 6) e]
    exact hf b hb
theorem gf_put3 {P : Nat → Prop} {F : Nat → Nat → Nat} {h : gm_M} {a x : Nat} (hf : gf_F P F h) : gf_F P (gf_up F a 3 x) (gm_up h (1000 + a) ((a, Sum.inr (7, [Value.int (nI (F a 0)), Value.int (nI (F a 1)), Value.int (nI (F a 2)), Value.int (nI x), Value.int (nI (F a 4)), Value.int (nI (F a 5)), Value.int (nI (F a 6))])) : Nat × va_E)) := by
  intro b hb
  by_cases e : b = a
  · rw [e, gm_self, gf_up_self, gf_up_i (j := 0) (by decide), gf_up_i (j := 1) (by decide), gf_up_i (j := 2) (by decide), gf_up_i (j := 4) (by decide), gf_up_i (j := 5) (by decide), gf_up_i (j := 6) (by decide)]
  · rw [gm_off (by omega), gf_up_a (j := 0) e, gf_up_a (j := 1) e, gf_up_a (j := 2) e, gf_up_a (j := 3) e, gf_up_a (j := 4) e, gf_up_a (j := 5) e, gf_up_a (j := 6) e]
    exact hf b hb
theorem gf_put4 {P : Nat → Prop} {F : Nat → Nat → Nat} {h : gm_M} {a x : Nat} (hf : gf_F P F h) : gf_F P (gf_up F a 4 x) (gm_up h (1000 + a) ((a, Sum.inr (7, [Value.int (nI (F a 0)), Value.int (nI (F a 1)), Value.int (nI (F a 2)), Value.int (nI (F a 3)), Value.int (nI x), Value.int (nI (F a 5)), Value.int (nI (F a 6))])) : Nat × va_E)) := by
  intro b hb
  by_cases e : b = a
  · rw [e, gm_self, gf_up_self, gf_up_i (j := 0) (by decide), gf_up_i (j := 1) (by decide), gf_up_i (j := 2) (by decide), gf_up_i (j := 3) (by decide), gf_up_i (j := 5) (by decide), gf_up_i (j := 6) (by decide)]
  · rw [gm_off (by omega), gf_up_a (j := 0) e, gf_up_a (j := 1) e, gf_up_a (j := 2) e, gf_up_a (j := 3) e, gf_up_a (j := 4) e, gf_up_a (j := 5) e, gf_up_a (j := 6) e]
    exact hf b hb
theorem gf_put5 {P : Nat → Prop} {F : Nat → Nat → Nat} {h : gm_M} {a x : Nat} (hf : gf_F P F h) : gf_F P (gf_up F a 5 x) (gm_up h (1000 + a) ((a, Sum.inr (7, [Value.int (nI (F a 0)), Value.int (nI (F a 1)), Value.int (nI (F a 2)), Value.int (nI (F a 3)), Value.int (nI (F a 4)), Value.int (nI x), Value.int (nI (F a 6))])) : Nat × va_E)) := by
  intro b hb
  by_cases e : b = a
  · rw [e, gm_self, gf_up_self, gf_up_i (j := 0) (by decide), gf_up_i (j := 1) (by decide), gf_up_i (j := 2) (by decide), gf_up_i (j := 3) (by decide), gf_up_i (j := 4) (by decide), gf_up_i (j := 6) (by decide)]
  · rw [gm_off (by omega), gf_up_a (j := 0) e, gf_up_a (j := 1) e, gf_up_a (j := 2) e, gf_up_a (j := 3) e, gf_up_a (j := 4) e, gf_up_a (j := 5) e, gf_up_a (j := 6) e]
    exact hf b hb
theorem gf_put6 {P : Nat → Prop} {F : Nat → Nat → Nat} {h : gm_M} {a x : Nat} (hf : gf_F P F h) : gf_F P (gf_up F a 6 x) (gm_up h (1000 + a) ((a, Sum.inr (7, [Value.int (nI (F a 0)), Value.int (nI (F a 1)), Value.int (nI (F a 2)), Value.int (nI (F a 3)), Value.int (nI (F a 4)), Value.int (nI (F a 5)), Value.int (nI x)])) : Nat × va_E)) := by
  intro b hb
  by_cases e : b = a
  · rw [e, gm_self, gf_up_self, gf_up_i (j := 0) (by decide), gf_up_i (j := 1) (by decide), gf_up_i (j := 2) (by decide), gf_up_i (j := 3) (by decide), gf_up_i (j := 4) (by decide), gf_up_i (j := 5) (by decide)]
  · rw [gm_off (by omega), gf_up_a (j := 0) e, gf_up_a (j := 1) e, gf_up_a (j := 2) e, gf_up_a (j := 3) e, gf_up_a (j := 4) e, gf_up_a (j := 5) e, gf_up_a (j := 6) e]
    exact hf b hb
/-- all names below 1000 but those of ks stand as they stood -/
def gm_f (h h1 : gm_M) (ks : List Nat) : Prop := ∀ n : Nat, n < 1000 → n ∉ ks → h1 n = h n
theorem gm_f.rf {h : gm_M} {ks : List Nat} : gm_f h h ks := fun _ _ _ => rfl
theorem gm_f.put {h h1 : gm_M} {ks : List Nat} {n : Nat} {x : Nat × va_E} (hg : gm_f h h1 ks) (hn : n ∈ ks) : gm_f h (gm_up h1 n x) ks := fun b h0 hb => (gm_off (fun e => hb (by rw [e]; exact hn))).trans (hg b h0 hb)
theorem gm_f.file {h h1 : gm_M} {ks : List Nat} {a : Nat} {x : Nat × va_E} (hg : gm_f h h1 ks) : gm_f h (gm_up h1 (1000 + a) x) ks := fun b h0 hb => (gm_off (by omega)).trans (hg b h0 hb)
theorem gm_f.call {h h1 h2 : gm_M} {ks ks1 : List Nat} (hg : gm_f h h1 ks) (hc : gm_f h1 h2 ks1) (hs : ∀ k ∈ ks1, k ∈ ks) : gm_f h h2 ks := fun b h0 hb => (hc b h0 (fun e => hb (hs b e))).trans (hg b h0 hb)
theorem gm_f.callg {h h1 h2 : gm_M} {ks ks1 : List Nat} (hg : gm_f h h1 ks) (hc : gm_g h1 h2 ks1) (hs : ∀ k ∈ ks1, k ∈ ks) : gm_f h h2 ks := fun b h0 hb => (hc b (fun e => hb (hs b e))).trans (hg b h0 hb)
theorem gm_f.at {h h1 : gm_M} {ks : List Nat} {n : Nat} {x : Option (Nat × va_E)} (hg : gm_f h h1 ks) (f : h n = x) (hn : n < 1000 ∧ n ∉ ks) : h1 n = x := (hg n hn.1 hn.2).trans f
theorem gv_n_z {f : Nat → Int32} {a k : Nat} (c0 : f (a + k) = 0) : gv_n f a (k + 1) = gv_n f a k := by simp [gv_n, c0]
theorem gv_n_o {f : Nat → Int32} {a k : Nat} (c0 : ¬ f (a + k) = 0) : gv_n f a (k + 1) = gv_n f a k + 1 := by simp [gv_n, c0]
/-- the files of the first k places are needed -/
def gn_seg (F : Nat → Nat → Nat) (s : Nat → Nat) : Nat → Nat → Nat → Nat
  | 0 => F
  | k + 1 => gf_up (gn_seg F s k) (s k) 3 1
def gn_opt (F : Nat → Nat → Nat) : Option Nat → Nat → Nat → Nat
  | none => F
  | some a => gf_up F a 3 1
def gn_li (F : Nat → Nat → Nat) (g : Nat → Option Nat) : Nat → Nat → Nat → Nat
  | 0 => F
  | k + 1 => gn_opt (gn_li F g k) (g k)
/-- the sum of what the first k say -/
def gs_sum (t : Nat → Nat) : Nat → Nat
  | 0 => 0
  | k + 1 => gs_sum t k + t k
set_option maxHeartbeats 4000000 in
set_option maxRecDepth 100000 in
theorem k_Me_covers (l : Launch) (htr : l.stackTraces = false) (D : va_G) (tys : List (ClassId × FieldType)) (z sz : Nat) (ws : va_W) (h : gm_M) (hM : gm_S h ws) (n : Nat) (a : Nat) (x : Nat) (ms : Nat) (me : Nat) (m0 : Int32) (e0 : Value) (P : Nat → Prop) (F : Nat → Nat → Nat) (f_n : h n = some ((a, Sum.inr (5, [Value.int m0, Value.int (nI ms), Value.int (nI me), e0])) : Nat × va_E)) (fam : gf_F P F h) (hx9 : P x) : gx_Met l y_Me_covers [Cond.code y_Me_covers b_Me_covers 2 (some .boolean)] { frames := 1, cells := 0, slots := 0, locals := 12 } (gx_P z sz D classes tys ws [Value.ref a, Value.ref x]) (gx_Q D classes tys (va_A ws sz) (gm_p (fun r h' => (r = Sum.inl (some (Value.int 1)) ∧ h' = h ∧ ¬ (nI (F x 5)) < (nI ms) ∧ ¬ (nI me) ≤ (nI (F x 5))) ∨ (r = Sum.inl (some (Value.int 0)) ∧ h' = h ∧ (nI (F x 5)) < (nI ms)) ∨ (r = Sum.inl (some (Value.int 0)) ∧ h' = h ∧ ¬ (nI (F x 5)) < (nI ms) ∧ (nI me) ≤ (nI (F x 5)))))) 0 0 (va_A ws sz) := by
  refine gx_ofW (cc := b_Me_covers) (maxL := 2) (ret := (some .boolean)) (by decide) rfl ?_
  intro p e s m args below meth c s₁ B hml hv
  obtain ⟨rfl, hsz, hz, hP, hK, hD0, hY⟩ := hv
  have hx := B.exec
  have hb := B.bytes
  have hr := B.returns
  have hts := hY.hts (#[Value.ref a, Value.ref x] : Array Value)
  have hown : s.vm.findClass "CommitLedger$Merge" = some m.cls := findClass_of_methodNamed B.named
  have hlocks := B.notSynchronized
  have hne : c.exceptionTable.isEmpty = true := B.noHandlers (atoms_spec (ws := [Cond.code y_Me_covers b_Me_covers 2 (some .boolean)]) B.pre _ List.mem_cons_self)
  subst hsz
  have hAz := gx_az hD0 hz
  have hD := hD0.self (sz := s.heap.size)
  have hN := gx_ns hP
  have hA : ∀ q : Nat, s.heap.size ≤ q → va_A ws s.heap.size q := fun q h => Or.inr h
  generalize va_A ws s.heap.size = A at hD hN hA hAz ⊢
  generalize hPQ : (fun (r : Option Value ⊕ String) (h' : gm_M) => (r = Sum.inl (some (Value.int 1)) ∧ h' = h ∧ ¬ (nI (F x 5)) < (nI ms) ∧ ¬ (nI me) ≤ (nI (F x 5))) ∨ (r = Sum.inl (some (Value.int 0)) ∧ h' = h ∧ (nI (F x 5)) < (nI ms)) ∨ (r = Sum.inl (some (Value.int 0)) ∧ h' = h ∧ ¬ (nI (F x 5)) < (nI ms) ∧ (nI me) ≤ (nI (F x 5)))) = PQ
  have Z : gz D A s.heap h s.heap [] := ⟨ws, hM, hP, hD, va_S.rf⟩
  clear hP hD hM hD0
  have hU : gm_g h h [] := gm_g.rf
  have hl := lv_entry ([Value.ref a, Value.ref x]) (n := 2) (Nat.le_of_ble_eq_true rfl)
  rw [lg_entry_eq]
  generalize (lg_sl ([Value.ref a, Value.ref x]) ++ List.replicate (2 - (lg_sl ([Value.ref a, Value.ref x])).length) Slot.unset).toArray = ls at hl ⊢
  have hl : lv_has ls 2 [(0, Value.ref a), (1, Value.ref x)] := hl
  refine lv_aload_n hx hb d_Me_covers_0 rfl (lv_at hl 0 rfl) ?_
  refine gz_get (ci := 5) (v := Value.int (nI ms)) (C := "CommitLedger$Merge") (T := F_Me) (N := 4) hx hb hts i_Me hown hK Z f_n rfl 1 (by decide) kf_Me_13 rfl d_Me_covers_1 ?_
  refine lv_aload_n hx hb d_Me_covers_4 rfl (lv_at hl 1 rfl) ?_
  refine gz_get (ci := 7) (v := Value.int (nI (F x 5))) (C := "CommitLedger$LedgerFile") (T := F_Fi) (N := 7) hx hb hts i_Fi hown hK Z (fam x hx9) rfl 5 (by decide) kf_Me_23 rfl d_Me_covers_5 ?_
  refine lv_icmp_gt (tgt := 26) hx hb d_Me_covers_8 (by decide) (fun c8_1 => ?_) (fun c8_1 => ?_)
  · refine lv_iconst (v := 0) hx hb d_Me_covers_26 (by decide) ?_
    exact gz_zret (v := 0) hx hb hr hlocks hK Z (by decide) (by decide) (rfl) (by rw [← hPQ]; exact Or.inr (Or.inl ⟨rfl, rfl, c8_1⟩)) d_Me_covers_27
  · refine lv_aload_n hx hb d_Me_covers_11 rfl (lv_at hl 1 rfl) ?_
    refine gz_get (ci := 7) (v := Value.int (nI (F x 5))) (C := "CommitLedger$LedgerFile") (T := F_Fi) (N := 7) hx hb hts i_Fi hown hK Z (fam x hx9) rfl 5 (by decide) kf_Me_23 rfl d_Me_covers_12 ?_
    refine lv_aload_n hx hb d_Me_covers_15 rfl (lv_at hl 0 rfl) ?_
    refine gz_get (ci := 5) (v := Value.int (nI me)) (C := "CommitLedger$Merge") (T := F_Me) (N := 4) hx hb hts i_Me hown hK Z f_n rfl 2 (by decide) kf_Me_16 rfl d_Me_covers_16 ?_
    refine lv_icmp_ge (tgt := 26) hx hb d_Me_covers_19 (by decide) (fun c19_2 => ?_) (fun c19_2 => ?_)
    · refine lv_iconst (v := 0) hx hb d_Me_covers_26 (by decide) ?_
      exact gz_zret (v := 0) hx hb hr hlocks hK Z (by decide) (by decide) (rfl) (by rw [← hPQ]; exact Or.inr (Or.inr (⟨rfl, rfl, c8_1, c19_2⟩))) d_Me_covers_27
    · refine lv_iconst (v := 1) hx hb d_Me_covers_22 (by decide) ?_
      refine lv_goto (tgt := 27) hx hb d_Me_covers_23 (by decide) ?_
      exact gz_zret (v := 1) hx hb hr hlocks hK Z (by decide) (by decide) (rfl) (by rw [← hPQ]; exact Or.inl ⟨rfl, rfl, c8_1, c19_2⟩) d_Me_covers_27

set_option maxHeartbeats 4000000 in
set_option maxRecDepth 100000 in
theorem k_Le_need (l : Launch) (htr : l.stackTraces = false) (D : va_G) (tys : List (ClassId × FieldType)) (z sz : Nat) (ws : va_W) (h : gm_M) (hM : gm_S h ws) (x : Nat) (P : Nat → Prop) (F : Nat → Nat → Nat) (fam : gf_F P F h) (hx9 : P x) : gx_Met l y_Le_need [Cond.code y_Le_need b_Le_need 1 none] { frames := 1, cells := 0, slots := 0, locals := 12 } (gx_P z sz D classes tys ws [Value.ref x]) (gx_Q D classes tys (va_A ws sz) (gm_p (fun r h' => (r = Sum.inl none ∧ gm_f h h' [] ∧ gf_F P (gf_up F x 3 1) h')))) 0 0 (va_A ws sz) := by
  refine gx_ofW (cc := b_Le_need) (maxL := 1) (ret := none) (by decide) rfl ?_
  intro p e s m args below meth c s₁ B hml hv
  obtain ⟨rfl, hsz, hz, hP, hK, hD0, hY⟩ := hv
  have hx := B.exec
  have hb := B.bytes
  have hr := B.returns
  have hts := hY.hts (#[Value.ref x] : Array Value)
  have hown : s.vm.findClass "CommitLedger" = some m.cls := findClass_of_methodNamed B.named
  have hlocks := B.notSynchronized
  have hne : c.exceptionTable.isEmpty = true := B.noHandlers (atoms_spec (ws := [Cond.code y_Le_need b_Le_need 1 none]) B.pre _ List.mem_cons_self)
  subst hsz
  have hAz := gx_az hD0 hz
  have hD := hD0.self (sz := s.heap.size)
  have hN := gx_ns hP
  have hA : ∀ q : Nat, s.heap.size ≤ q → va_A ws s.heap.size q := fun q h => Or.inr h
  generalize va_A ws s.heap.size = A at hD hN hA hAz ⊢
  generalize hPQ : (fun (r : Option Value ⊕ String) (h' : gm_M) => (r = Sum.inl none ∧ gm_f h h' [] ∧ gf_F P (gf_up F x 3 1) h')) = PQ
  have Z : gz D A s.heap h s.heap [] := ⟨ws, hM, hP, hD, va_S.rf⟩
  clear hP hD hM hD0
  have hU : gm_f h h [] := gm_f.rf
  have hl := lv_entry ([Value.ref x]) (n := 1) (Nat.le_of_ble_eq_true rfl)
  rw [lg_entry_eq]
  generalize (lg_sl ([Value.ref x]) ++ List.replicate (1 - (lg_sl ([Value.ref x])).length) Slot.unset).toArray = ls at hl ⊢
  have hl : lv_has ls 1 [(0, Value.ref x)] := hl
  refine lv_aload_n hx hb d_Le_need_0 rfl (lv_at hl 0 rfl) ?_
  refine lv_ifnull hx hb d_Le_need_1 ?_
  refine lv_aload_n hx hb d_Le_need_4 rfl (lv_at hl 0 rfl) ?_
  refine lv_iconst (v := 1) hx hb d_Le_need_5 (by decide) ?_
  refine gz_put (ci := 7) (v := Value.int 1) (ty := .boolean) (C := "CommitLedger$LedgerFile") (T := F_Fi) (N := 7) hx hb hts i_Fi t_Fi_ok n_Fi hown hK Z (fam x hx9) rfl 3 (by decide) kf_Le_394 rfl (by decide +kernel) rfl rfl (Nat.le_of_ble_eq_true rfl) d_Le_need_6 (fun H locs Z => ?_)
  obtain ⟨h1, e_h1⟩ : ∃ z9 : gm_M, z9 = gm_up h (1000 + x) ((x, Sum.inr (7, [Value.int (nI (F x 0)), Value.int (nI (F x 1)), Value.int (nI (F x 2)), Value.int 1, Value.int (nI (F x 4)), Value.int (nI (F x 5)), Value.int (nI (F x 6))])) : Nat × va_E) := ⟨_, rfl⟩
  replace Z : gz D A s.heap h1 H locs := by rw [e_h1]; exact Z
  have fam_h1 : gf_F P (gf_up F x 3 1) h1 := by rw [e_h1]; exact gf_put3 fam
  replace hU : gm_f h h1 [] := by rw [e_h1]; exact hU.file
  exact gz_vret hx hb hr hlocks hK Z (by decide) (by decide) (by rw [← hPQ]; exact ⟨rfl, hU, fam_h1⟩) d_Le_need_9

set_option maxHeartbeats 4000000 in
set_option maxRecDepth 100000 in
theorem k_Le_need_null (l : Launch) (htr : l.stackTraces = false) (D : va_G) (tys : List (ClassId × FieldType)) (z sz : Nat) (ws : va_W) (h : gm_M) (hM : gm_S h ws) : gx_Met l y_Le_need [Cond.code y_Le_need b_Le_need 1 none] { frames := 1, cells := 0, slots := 0, locals := 12 } (gx_P z sz D classes tys ws [Value.null]) (gx_Q D classes tys (va_A ws sz) (gm_p (fun r h' => (r = Sum.inl none ∧ h' = h)))) 0 0 (va_A ws sz) := by
  refine gx_ofW (cc := b_Le_need) (maxL := 1) (ret := none) (by decide) rfl ?_
  intro p e s m args below meth c s₁ B hml hv
  obtain ⟨rfl, hsz, hz, hP, hK, hD0, hY⟩ := hv
  have hx := B.exec
  have hb := B.bytes
  have hr := B.returns
  have hts := hY.hts (#[Value.null] : Array Value)
  have hown : s.vm.findClass "CommitLedger" = some m.cls := findClass_of_methodNamed B.named
  have hlocks := B.notSynchronized
  have hne : c.exceptionTable.isEmpty = true := B.noHandlers (atoms_spec (ws := [Cond.code y_Le_need b_Le_need 1 none]) B.pre _ List.mem_cons_self)
  subst hsz
  have hAz := gx_az hD0 hz
  have hD := hD0.self (sz := s.heap.size)
  have hN := gx_ns hP
  have hA : ∀ q : Nat, s.heap.size ≤ q → va_A ws s.heap.size q := fun q h => Or.inr h
  generalize va_A ws s.heap.size = A at hD hN hA hAz ⊢
  generalize hPQ : (fun (r : Option Value ⊕ String) (h' : gm_M) => (r = Sum.inl none ∧ h' = h)) = PQ
  have Z : gz D A s.heap h s.heap [] := ⟨ws, hM, hP, hD, va_S.rf⟩
  clear hP hD hM hD0
  have hU : gm_g h h [] := gm_g.rf
  have hl := lv_entry ([Value.null]) (n := 1) (Nat.le_of_ble_eq_true rfl)
  rw [lg_entry_eq]
  generalize (lg_sl ([Value.null]) ++ List.replicate (1 - (lg_sl ([Value.null])).length) Slot.unset).toArray = ls at hl ⊢
  have hl : lv_has ls 1 [(0, Value.null)] := hl
  refine lv_aload_nN hx hb d_Le_need_0 rfl (lv_at hl 0 rfl) ?_
  refine lv_ifnullN (tgt := 9) hx hb d_Le_need_1 (by decide) ?_
  exact gz_vret hx hb hr hlocks hK Z (by decide) (by decide) (by rw [← hPQ]; exact ⟨rfl, rfl⟩) d_Le_need_9

set_option maxHeartbeats 4000000 in
set_option maxRecDepth 100000 in
theorem k_Vi_liveBetween (l : Launch) (htr : l.stackTraces = false) (D : va_G) (tys : List (ClassId × FieldType)) (z sz : Nat) (ws : va_W) (h : gm_M) (hM : gm_S h ws) (cZ : ClassId) (cF : ClassId) (n : Nat) (a : Nat) (a1 : Nat) (a2 : Nat) (a3 : Nat) (u : Nat) (e0 : Value) (x5 : Int32) (g1 : Nat → Option Nat) (g2 : Nat → Option Nat) (f : Nat → Int32) (a0 : Nat) (b0 : Nat) (f_n : h n = some ((a, Sum.inr (4, [Value.ref a1, Value.ref a2, Value.ref a3, e0, Value.int (nI u), Value.int x5])) : Nat × va_E)) (f_n_1 : h (n + 1) = some ((a1, Sum.inl (cF, 4096, Sum.inr (Sum.inr (Sum.inr (Sum.inr g1))))) : Nat × va_E)) (f_n_2 : h (n + 2) = some ((a2, Sum.inl (cF, 4096, Sum.inr (Sum.inr (Sum.inr (Sum.inr g2))))) : Nat × va_E)) (f_n_3 : h (n + 3) = some ((a3, Sum.inl (cZ, 4096, Sum.inl f)) : Nat × va_E)) (ht1 : tys[1]? = some ((cZ, FieldType.boolean) : ClassId × FieldType)) (ht2 : tys[2]? = some ((cF, FieldType.object "CommitLedger$LedgerFile") : ClassId × FieldType)) (ha0 : a0 ≤ 4096) (hb0 : b0 ≤ 4096) : gx_Met l y_Vi_liveBetween [Cond.code y_Vi_liveBetween b_Vi_liveBetween 5 (some .int)] { frames := 1, cells := 0, slots := 0, locals := 12 } (gx_P z sz D classes tys ws [Value.ref a, Value.int (nI a0), Value.int (nI b0)]) (gx_Q D classes tys (va_A ws sz) (gm_p (fun r h' => (r = Sum.inl (some (Value.int (nI (gv_n f a0 (b0 - a0))))) ∧ h' = h)))) 0 0 (va_A ws sz) := by
  refine gx_ofW (cc := b_Vi_liveBetween) (maxL := 5) (ret := (some .int)) (by decide) rfl ?_
  intro p e s m args below meth c s₁ B hml hv
  obtain ⟨rfl, hsz, hz, hP, hK, hD0, hY⟩ := hv
  have hx := B.exec
  have hb := B.bytes
  have hr := B.returns
  have hts := hY.hts (#[Value.ref a, Value.int (nI a0), Value.int (nI b0)] : Array Value)
  have hown : s.vm.findClass "CommitLedger$View" = some m.cls := findClass_of_methodNamed B.named
  have hlocks := B.notSynchronized
  have hne : c.exceptionTable.isEmpty = true := B.noHandlers (atoms_spec (ws := [Cond.code y_Vi_liveBetween b_Vi_liveBetween 5 (some .int)]) B.pre _ List.mem_cons_self)
  subst hsz
  have hAz := gx_az hD0 hz
  have hD := hD0.self (sz := s.heap.size)
  have hN := gx_ns hP
  have hA : ∀ q : Nat, s.heap.size ≤ q → va_A ws s.heap.size q := fun q h => Or.inr h
  generalize va_A ws s.heap.size = A at hD hN hA hAz ⊢
  generalize hPQ : (fun (r : Option Value ⊕ String) (h' : gm_M) => (r = Sum.inl (some (Value.int (nI (gv_n f a0 (b0 - a0))))) ∧ h' = h)) = PQ
  have Z : gz D A s.heap h s.heap [] := ⟨ws, hM, hP, hD, va_S.rf⟩
  clear hP hD hM hD0
  have hU : gm_g h h [] := gm_g.rf
  have hl := lv_entry ([Value.ref a, Value.int (nI a0), Value.int (nI b0)]) (n := 5) (Nat.le_of_ble_eq_true rfl)
  rw [lg_entry_eq]
  generalize (lg_sl ([Value.ref a, Value.int (nI a0), Value.int (nI b0)]) ++ List.replicate (5 - (lg_sl ([Value.ref a, Value.int (nI a0), Value.int (nI b0)])).length) Slot.unset).toArray = ls at hl ⊢
  have hl : lv_has ls 5 [(0, Value.ref a), (1, Value.int (nI a0)), (2, Value.int (nI b0))] := hl
  refine lv_iconst (v := 0) hx hb d_Vi_liveBetween_0 (by decide) ?_
  refine lv_istore_n (lv' := [(3, Value.int 0), (0, Value.ref a), (1, Value.int (nI a0)), (2, Value.int (nI b0))]) hx hb d_Vi_liveBetween_1 rfl hl (by decide) rfl (fun ls hl => ?_)
  refine lv_iload_n hx hb d_Vi_liveBetween_2 rfl (lv_at hl 2 rfl) ?_
  refine lv_istore (lv' := [(4, Value.int (nI a0)), (3, Value.int 0), (0, Value.ref a), (1, Value.int (nI a0)), (2, Value.int (nI b0))]) hx hb d_Vi_liveBetween_3 hl (by decide) rfl (fun ls hl => ?_)
  have hl : lv_has ls 5 [(4, Value.int (nI (a0 + 0))), (3, Value.int (nI (gv_n f a0 0))), (0, Value.ref a), (2, Value.int (nI b0))] := lv_sub hl [0, 1, 2, 4] rfl
  refine gz_loop (N := (b0 - a0)) (pc := 5) (fun _ => 0) (fun _ => 0) (fun k h9 ls => h9 = h ∧ lv_has ls 5 [(4, Value.int (nI (a0 + k))), (3, Value.int (nI (gv_n f a0 k))), (0, Value.ref a), (2, Value.int (nI b0))]) (fun k w1 H locs ls hk hI Z ih => ?_) (fun w1 H locs ls hI Z => ?_) ((b0 - a0)) 0 _ _ _ _ (Nat.zero_add _) ⟨rfl, lv_sub hl [0, 1, 2, 3] rfl⟩ Z
  · obtain ⟨hU, hl⟩ := hI
    rw [hU] at Z
    have hU : gm_g h h [] := gm_g.rf
    refine lv_iload hx hb d_Vi_liveBetween_5 (lv_at hl 0 rfl) ?_
    refine lv_iload_n hx hb d_Vi_liveBetween_7 rfl (lv_at hl 3 rfl) ?_
    refine lv_icmp_ge (tgt := 30) hx hb d_Vi_liveBetween_8 (by decide) (fun c9 => absurd c9 (nI_ge (by omega) (by omega))) (fun _ => ?_)
    refine lv_aload_n hx hb d_Vi_liveBetween_11 rfl (lv_at hl 2 rfl) ?_
    refine gz_get (ci := 4) (v := Value.ref a3) (C := "CommitLedger$View") (T := F_Vi) (N := 6) hx hb hts i_Vi hown hK Z f_n rfl 2 (by decide) kf_Vi_20 rfl d_Vi_liveBetween_12 ?_
    refine lv_iload hx hb d_Vi_liveBetween_15 (lv_at hl 0 rfl) ?_
    refine gz_zald (j := a0 + k) hx hb hK Z 1 f_n_3 ht1 ((by omega)) (rfl) (by decide) d_Vi_liveBetween_17 ?_
    refine lv_if_eq (tgt := 24) hx hb d_Vi_liveBetween_18 (by decide) (fun c18_3 => ?_) (fun c18_3 => ?_)
    · refine lv_iinc (v := nI ((a0 + k) + 1)) (lv' := [(4, Value.int (nI ((a0 + k) + 1))), (3, Value.int (nI (gv_n f a0 k))), (0, Value.ref a), (2, Value.int (nI b0))]) hx hb d_Vi_liveBetween_24 hl (k := 0) rfl (show nI (a0 + k) + 1 = nI ((a0 + k) + 1) from nI_1 _) (by decide) rfl (fun ls hl => ?_)
      refine lv_goto (tgt := 5) hx hb d_Vi_liveBetween_27 (by decide) ?_
      rw [← gv_n_z c18_3] at hl
      exact ih _ _ _ _ ⟨rfl, lv_sub hl [0, 1, 2, 3] rfl⟩ Z
    · refine lv_iinc (v := nI ((gv_n f a0 k) + 1)) (lv' := [(3, Value.int (nI ((gv_n f a0 k) + 1))), (4, Value.int (nI (a0 + k))), (0, Value.ref a), (2, Value.int (nI b0))]) hx hb d_Vi_liveBetween_21 hl (k := 1) rfl (show nI (gv_n f a0 k) + 1 = nI ((gv_n f a0 k) + 1) from nI_1 _) (by decide) rfl (fun ls hl => ?_)
      refine lv_iinc (v := nI ((a0 + k) + 1)) (lv' := [(4, Value.int (nI ((a0 + k) + 1))), (3, Value.int (nI ((gv_n f a0 k) + 1))), (0, Value.ref a), (2, Value.int (nI b0))]) hx hb d_Vi_liveBetween_24 hl (k := 1) rfl (show nI (a0 + k) + 1 = nI ((a0 + k) + 1) from nI_1 _) (by decide) rfl (fun ls hl => ?_)
      refine lv_goto (tgt := 5) hx hb d_Vi_liveBetween_27 (by decide) ?_
      rw [← gv_n_o c18_3] at hl
      exact ih _ _ _ _ ⟨rfl, lv_sub hl [0, 1, 2, 3] rfl⟩ Z
  · obtain ⟨hU, hl⟩ := hI
    rw [hU] at Z
    have hU : gm_g h h [] := gm_g.rf
    refine lv_iload hx hb d_Vi_liveBetween_5 (lv_at hl 0 rfl) ?_
    refine lv_iload_n hx hb d_Vi_liveBetween_7 rfl (lv_at hl 3 rfl) ?_
    refine lv_icmp_ge (tgt := 30) hx hb d_Vi_liveBetween_8 (by decide) (fun _ => ?_) (fun c9 => absurd (nI_le (by omega) (by omega)) c9)
    refine lv_iload_n hx hb d_Vi_liveBetween_30 rfl (lv_at hl 1 rfl) ?_
    exact gz_iret (v := nI (gv_n f a0 (b0 - a0))) hx hb hr hlocks hK Z (by decide) (by decide) (by rw [← hPQ]; exact ⟨rfl, rfl⟩) d_Vi_liveBetween_31

set_option maxHeartbeats 4000000 in
set_option maxRecDepth 100000 in
theorem k_Vi_liveIn (l : Launch) (htr : l.stackTraces = false) (D : va_G) (tys : List (ClassId × FieldType)) (z sz : Nat) (ws : va_W) (h : gm_M) (hM : gm_S h ws) (cZ : ClassId) (cF : ClassId) (n : Nat) (a : Nat) (a1 : Nat) (a2 : Nat) (a3 : Nat) (u : Nat) (e0 : Value) (x5 : Int32) (g1 : Nat → Option Nat) (g2 : Nat → Option Nat) (f : Nat → Int32) (x : Nat) (P : Nat → Prop) (F : Nat → Nat → Nat) (f_n : h n = some ((a, Sum.inr (4, [Value.ref a1, Value.ref a2, Value.ref a3, e0, Value.int (nI u), Value.int x5])) : Nat × va_E)) (f_n_1 : h (n + 1) = some ((a1, Sum.inl (cF, 4096, Sum.inr (Sum.inr (Sum.inr (Sum.inr g1))))) : Nat × va_E)) (f_n_2 : h (n + 2) = some ((a2, Sum.inl (cF, 4096, Sum.inr (Sum.inr (Sum.inr (Sum.inr g2))))) : Nat × va_E)) (f_n_3 : h (n + 3) = some ((a3, Sum.inl (cZ, 4096, Sum.inl f)) : Nat × va_E)) (ht1 : tys[1]? = some ((cZ, FieldType.boolean) : ClassId × FieldType)) (ht2 : tys[2]? = some ((cF, FieldType.object "CommitLedger$LedgerFile") : ClassId × FieldType)) (fam : gf_F P F h) (hx9 : P x) (ha9 : F x 5 ≤ 4096) (hb9 : F x 6 ≤ 4096) : gx_Met l y_Vi_liveIn [Cond.code y_Vi_liveIn b_Vi_liveIn 2 (some .int)] { frames := 2, cells := 0, slots := 0, locals := 36 } (gx_P z sz D classes tys ws [Value.ref a, Value.ref x]) (gx_Q D classes tys (va_A ws sz) (gm_p (fun r h' => (r = Sum.inl (some (Value.int (nI (gv_n f (F x 5) (F x 6 - F x 5))))) ∧ h' = h)))) 0 0 (va_A ws sz) := by
  refine gx_ofW (cc := b_Vi_liveIn) (maxL := 2) (ret := (some .int)) (by decide) rfl ?_
  intro p e s m args below meth c s₁ B hml hv
  obtain ⟨rfl, hsz, hz, hP, hK, hD0, hY⟩ := hv
  have hx := B.exec
  have hb := B.bytes
  have hr := B.returns
  have hts := hY.hts (#[Value.ref a, Value.ref x] : Array Value)
  have hown : s.vm.findClass "CommitLedger$View" = some m.cls := findClass_of_methodNamed B.named
  have hlocks := B.notSynchronized
  have hne : c.exceptionTable.isEmpty = true := B.noHandlers (atoms_spec (ws := [Cond.code y_Vi_liveIn b_Vi_liveIn 2 (some .int)]) B.pre _ List.mem_cons_self)
  subst hsz
  have hAz := gx_az hD0 hz
  have hD := hD0.self (sz := s.heap.size)
  have hN := gx_ns hP
  have hA : ∀ q : Nat, s.heap.size ≤ q → va_A ws s.heap.size q := fun q h => Or.inr h
  generalize va_A ws s.heap.size = A at hD hN hA hAz ⊢
  generalize hPQ : (fun (r : Option Value ⊕ String) (h' : gm_M) => (r = Sum.inl (some (Value.int (nI (gv_n f (F x 5) (F x 6 - F x 5))))) ∧ h' = h)) = PQ
  have Z : gz D A s.heap h s.heap [] := ⟨ws, hM, hP, hD, va_S.rf⟩
  clear hP hD hM hD0
  have hU : gm_g h h [] := gm_g.rf
  have hl := lv_entry ([Value.ref a, Value.ref x]) (n := 2) (Nat.le_of_ble_eq_true rfl)
  rw [lg_entry_eq]
  generalize (lg_sl ([Value.ref a, Value.ref x]) ++ List.replicate (2 - (lg_sl ([Value.ref a, Value.ref x])).length) Slot.unset).toArray = ls at hl ⊢
  have hl : lv_has ls 2 [(0, Value.ref a), (1, Value.ref x)] := hl
  refine lv_aload_n hx hb d_Vi_liveIn_0 rfl (lv_at hl 0 rfl) ?_
  refine lv_aload_n hx hb d_Vi_liveIn_1 rfl (lv_at hl 1 rfl) ?_
  refine gz_get (ci := 7) (v := Value.int (nI (F x 5))) (C := "CommitLedger$LedgerFile") (T := F_Fi) (N := 7) hx hb hts i_Fi hown hK Z (fam x hx9) rfl 5 (by decide) kf_Vi_45 rfl d_Vi_liveIn_2 ?_
  refine lv_aload_n hx hb d_Vi_liveIn_5 rfl (lv_at hl 1 rfl) ?_
  refine gz_get (ci := 7) (v := Value.int (nI (F x 6))) (C := "CommitLedger$LedgerFile") (T := F_Fi) (N := 7) hx hb hts i_Fi hown hK Z (fam x hx9) rfl 6 (by decide) kf_Vi_48 rfl d_Vi_liveIn_6 ?_
  refine gz_call (ig := .invokevirtual 51) (av := [Value.ref a, Value.int (nI (F x 5)), Value.int (nI (F x 6))]) Z (fun ws hM => k_Vi_liveBetween l htr D tys z _ ws h hM cZ cF n a a1 a2 a3 u (e0) x5 g1 g2 f (F x 5) (F x 6) f_n f_n_1 f_n_2 f_n_3 ht1 ht2 (by first | assumption | decide | omega) (by first | assumption | decide | omega)) (gx_invV (As := [Value.int (nI (F x 5)), Value.int (nI (F x 6))]) (rest := []) hx hb hown hts km_Vi_51 kI_Vi_liveBetween kV_Vi_liveBetween kc_Vi_liveBetween (by decide) (show (parseMethodDescriptor y_Vi_liveBetween.desc).map (fun d => d.parameters.length) = some 2 by decide +kernel) (gz_recv (ci := 4) hK Z rfl f_n) rfl rfl d_Vi_liveIn_9) (gx_cw (z := 0) hts kc_Vi_liveBetween kN_Vi rfl rfl ⟨Nat.le_of_ble_eq_true rfl, Nat.le_of_ble_eq_true rfl⟩) hb hml hz hK hY hAz hA hl.1 (lv_room (Nat.le_of_ble_eq_true rfl)) d_Vi_liveIn_9 ⟨Nat.le_of_ble_eq_true rfl, Nat.le_of_ble_eq_true rfl⟩ (fun v1 h2 H locs hp Z => ?_) (fun x1 E9 ce h2 H locs hp hce Z => ?_)
  · rcases hp with ⟨hv9, e_h2⟩
    cases hv9
    rw [e_h2] at Z
    refine W.eq (g2 := F0 m 12 ls [Value.int (nI (gv_n f (F x 5) ((F x 6) - (F x 5))))]) rfl ?_
    exact gz_iret (v := nI (gv_n f (F x 5) ((F x 6) - (F x 5)))) hx hb hr hlocks hK Z (by decide) (by decide) (by rw [← hPQ]; exact ⟨rfl, rfl⟩) d_Vi_liveIn_12
  · rcases hp with ⟨hv9, e_h2⟩
    cases hv9
