/-! replaceMerged, levelOf over maps; rows printed by own text programs, but for the first -/
section GXV
variable {p : Program} {l : Launch} {e : Env} {R : Room} {s : State} {m : MethodId} {args : Array Value} {below : List Frame} {meth : Method} {c : Code} {H : Heap} {locs : List Loc} {cells slots : Nat} {Q : State → Prop}
theorem gx_topv {v w : Value} {pc : Nat} {ls : Array Slot} {rest : List Value} (h : v = w) (k : W p l e R s m args below meth c H locs cells slots Q (F0 m pc ls (w :: rest))) : W p l e R s m args below meth c H locs cells slots Q (F0 m pc ls (v :: rest)) := by rw [h]; exact k
end GXV
def gb (b : Bool) : Int32 := if b = true then 1 else 0
theorem gb_0 {b : Bool} (h : gb b = 0) : ¬ b = true := fun e => by rw [e] at h; exact absurd h (by decide)
theorem gb_1 {b : Bool} (h : ¬ gb b = 0) : b = true := by
  cases b with
  | true => rfl
  | false => exact absurd rfl h
/-- the covered segments are replaced by one: whether it stands already, how many stand, what stands where -/
def gr_r (c : Nat → Bool) : Nat → Bool
  | 0 => false
  | k + 1 => gr_r c k || c k
def gr_n (c : Nat → Bool) : Nat → Nat
  | 0 => 0
  | k + 1 => if c k = true ∧ gr_r c k = true then gr_n c k else gr_n c k + 1
def gr_g (c : Nat → Bool) (g : Nat → Option Nat) (x : Option Nat) : Nat → Nat → Option Nat
  | 0 => g
  | k + 1 => if c k = true then (if gr_r c k = true then gr_g c g x k else va_up (gr_g c g x k) (gr_n c k) x) else va_up (gr_g c g x k) (gr_n c k) (g k)
theorem gr_n1 {c : Nat → Bool} {k : Nat} (hc : ¬ c k = true) : gr_n c (k + 1) = gr_n c k + 1 := if_neg (fun e => hc e.1)
theorem gr_n2 {c : Nat → Bool} {k : Nat} (hr : ¬ gr_r c k = true) : gr_n c (k + 1) = gr_n c k + 1 := if_neg (fun e => hr e.2)
theorem gr_n3 {c : Nat → Bool} {k : Nat} (hc : c k = true) (hr : gr_r c k = true) : gr_n c (k + 1) = gr_n c k := if_pos ⟨hc, hr⟩
theorem gr_r1 {c : Nat → Bool} {k : Nat} (hc : ¬ c k = true) : gr_r c (k + 1) = gr_r c k := by
  show (gr_r c k || c k) = gr_r c k
  rw [Bool.eq_false_iff.mpr hc, Bool.or_false]
theorem gr_r2 {c : Nat → Bool} {k : Nat} (hc : c k = true) : gb (gr_r c (k + 1)) = 1 := by
  show gb (gr_r c k || c k) = 1
  rw [hc, Bool.or_true]
  rfl
theorem gr_r3 {c : Nat → Bool} {k : Nat} (hr : gr_r c k = true) : gr_r c (k + 1) = gr_r c k := by
  show (gr_r c k || c k) = gr_r c k
  rw [hr, Bool.true_or]
theorem gr_g1 {c : Nat → Bool} {g : Nat → Option Nat} {x y : Option Nat} {k : Nat} (hc : ¬ c k = true) (e : g k = y) : gr_g c g x (k + 1) = va_up (gr_g c g x k) (gr_n c k) y := by rw [← e]; exact if_neg hc
theorem gr_g2 {c : Nat → Bool} {g : Nat → Option Nat} {x : Option Nat} {k : Nat} (hc : c k = true) (hr : ¬ gr_r c k = true) : gr_g c g x (k + 1) = va_up (gr_g c g x k) (gr_n c k) x := (if_pos hc).trans (if_neg hr)
theorem gr_g3 {c : Nat → Bool} {g : Nat → Option Nat} {x : Option Nat} {k : Nat} (hc : c k = true) (hr : gr_r c k = true) : gr_g c g x (k + 1) = gr_g c g x k := (if_pos hc).trans (if_pos hr)
theorem gr_le {c : Nat → Bool} : ∀ k : Nat, gr_n c k ≤ k := by
  intro k
  induction k with
  | zero => exact Nat.le_refl _
  | succ k ih =>
    by_cases hr : gr_r c k = true
    · by_cases hc : c k = true
      · rw [gr_n3 hc hr]; omega
      · rw [gr_n1 hc]; omega
    · rw [gr_n2 hr]; omega
theorem gr_at {c : Nat → Bool} {g : Nat → Option Nat} {x : Option Nat} : ∀ (k i : Nat), k ≤ i → gr_g c g x k i = g i := by
  intro k
  induction k with
  | zero => intro i _; rfl
  | succ k ih =>
    intro i hi
    have hle := gr_le (c := c) k
    by_cases hc : c k = true
    · by_cases hr : gr_r c k = true
      · rw [gr_g3 hc hr]
        exact ih i (by omega)
      · rw [gr_g2 hc hr, va_up_ne _ _ (by omega)]
        exact ih i (by omega)
    · rw [gr_g1 hc rfl, va_up_ne _ _ (by omega)]
      exact ih i (by omega)
def gr_c (F : Nat → Nat → Nat) (ms me : Nat) (sj : Nat → Nat) (k : Nat) : Bool := decide (¬ nI (F (sj k) 5) < nI ms ∧ ¬ nI me ≤ nI (F (sj k) 5))
theorem gr_cy {F : Nat → Nat → Nat} {ms me : Nat} {sj : Nat → Nat} {k : Nat} (a : ¬ nI (F (sj k) 5) < nI ms) (b : ¬ nI me ≤ nI (F (sj k) 5)) : gr_c F ms me sj k = true := decide_eq_true ⟨a, b⟩
theorem gr_ca {F : Nat → Nat → Nat} {ms me : Nat} {sj : Nat → Nat} {k : Nat} (a : nI (F (sj k) 5) < nI ms) : ¬ gr_c F ms me sj k = true := fun e => (of_decide_eq_true e).1 a
theorem gr_cb {F : Nat → Nat → Nat} {ms me : Nat} {sj : Nat → Nat} {k : Nat} (b : nI me ≤ nI (F (sj k) 5)) : ¬ gr_c F ms me sj k = true := fun e => (of_decide_eq_true e).2 b
set_option maxHeartbeats 4000000 in
set_option maxRecDepth 100000 in
theorem k_Vi_replaceMerged (l : Launch) (htr : l.stackTraces = false) (D : va_G) (tys : List (ClassId × FieldType)) (z sz : Nat) (ws : va_W) (h : gm_M) (hM : gm_S h ws) (cZ : ClassId) (cF : ClassId) (n : Nat) (a : Nat) (a1 : Nat) (a2 : Nat) (a3 : Nat) (u : Nat) (e0 : Value) (x5 : Int32) (g1 : Nat → Option Nat) (g2 : Nat → Option Nat) (f : Nat → Int32) (sj : Nat → Nat) (mm : Nat) (b : Nat) (ms : Nat) (me : Nat) (fr : Nat) (m0 : Int32) (y : Option Nat) (P : Nat → Prop) (F : Nat → Nat → Nat) (f_n : h n = some ((a, Sum.inr (4, [Value.ref a1, Value.ref a2, Value.ref a3, e0, Value.int (nI u), Value.int x5])) : Nat × va_E)) (f_n_1 : h (n + 1) = some ((a1, Sum.inl (cF, 4096, Sum.inr (Sum.inr (Sum.inr (Sum.inr g1))))) : Nat × va_E)) (f_n_2 : h (n + 2) = some ((a2, Sum.inl (cF, 4096, Sum.inr (Sum.inr (Sum.inr (Sum.inr g2))))) : Nat × va_E)) (f_n_3 : h (n + 3) = some ((a3, Sum.inl (cZ, 4096, Sum.inl f)) : Nat × va_E)) (f_mm : h mm = some ((b, Sum.inr (5, [Value.int m0, Value.int (nI ms), Value.int (nI me), va_rf y])) : Nat × va_E)) (ht1 : tys[1]? = some ((cZ, FieldType.boolean) : ClassId × FieldType)) (ht2 : tys[2]? = some ((cF, FieldType.object "CommitLedger$LedgerFile") : ClassId × FieldType)) (fam : gf_F P F h) (hu : u ≤ 4096) (hn : n + 3 < 1000) (hmm : mm < n ∨ n + 3 < mm) (hm2 : mm < 1000) (hsg : ∀ i, i < u → g1 i = some (sj i) ∧ P (sj i)) (hli : ∀ i, i < u → g2 i = none ∨ ∃ x, g2 i = some x ∧ P x) (hfr : y = some fr) (hpf : P fr) : gx_Met l y_Vi_replaceMerged [Cond.code y_Vi_replaceMerged b_Vi_replaceMerged 5 none] { frames := 2, cells := 0, slots := 0, locals := 35 } (gx_P z sz D classes tys ws [Value.ref a, Value.ref b]) (gx_Q D classes tys (va_A ws sz) (gm_p (fun r h' => (r = Sum.inl none ∧ gm_g h h' [n, n + 1, n + 2, n + 3] ∧ h' n = some ((a, Sum.inr (4, [Value.ref a1, Value.ref a2, Value.ref a3, e0, Value.int (nI (gr_n (gr_c F ms me sj) u)), Value.int x5])) : Nat × va_E) ∧ h' (n + 1) = some ((a1, Sum.inl (cF, 4096, Sum.inr (Sum.inr (Sum.inr (Sum.inr (gr_g (gr_c F ms me sj) g1 (some fr) u)))))) : Nat × va_E) ∧ h' (n + 2) = some ((a2, Sum.inl (cF, 4096, Sum.inr (Sum.inr (Sum.inr (Sum.inr (gr_g (gr_c F ms me sj) g2 none u)))))) : Nat × va_E) ∧ h' (n + 3) = some ((a3, Sum.inl (cZ, 4096, Sum.inl f)) : Nat × va_E))))) 0 0 (va_A ws sz) := by
  refine gx_ofW (cc := b_Vi_replaceMerged) (maxL := 5) (ret := none) (by decide) rfl ?_
  intro p e s m args below meth c s₁ B hml hv
  obtain ⟨rfl, hsz, hz, hP, hK, hD0, hY⟩ := hv
  have hx := B.exec
  have hb := B.bytes
  have hr := B.returns
  have hts := hY.hts (#[Value.ref a, Value.ref b] : Array Value)
  have hown : s.vm.findClass "CommitLedger$View" = some m.cls := findClass_of_methodNamed B.named
  have hlocks := B.notSynchronized
  have hne : c.exceptionTable.isEmpty = true := B.noHandlers (atoms_spec (ws := [Cond.code y_Vi_replaceMerged b_Vi_replaceMerged 5 none]) B.pre _ List.mem_cons_self)
  subst hsz
  have hAz := gx_az hD0 hz
  have hD := hD0.self (sz := s.heap.size)
  have hN := gx_ns hP
  have hA : ∀ q : Nat, s.heap.size ≤ q → va_A ws s.heap.size q := fun q h => Or.inr h
  generalize va_A ws s.heap.size = A at hD hN hA hAz ⊢
  generalize hPQ : (fun (r : Option Value ⊕ String) (h' : gm_M) => (r = Sum.inl none ∧ gm_g h h' [n, n + 1, n + 2, n + 3] ∧ h' n = some ((a, Sum.inr (4, [Value.ref a1, Value.ref a2, Value.ref a3, e0, Value.int (nI (gr_n (gr_c F ms me sj) u)), Value.int x5])) : Nat × va_E) ∧ h' (n + 1) = some ((a1, Sum.inl (cF, 4096, Sum.inr (Sum.inr (Sum.inr (Sum.inr (gr_g (gr_c F ms me sj) g1 (some fr) u)))))) : Nat × va_E) ∧ h' (n + 2) = some ((a2, Sum.inl (cF, 4096, Sum.inr (Sum.inr (Sum.inr (Sum.inr (gr_g (gr_c F ms me sj) g2 none u)))))) : Nat × va_E) ∧ h' (n + 3) = some ((a3, Sum.inl (cZ, 4096, Sum.inl f)) : Nat × va_E))) = PQ
  have Z : gz D A s.heap h s.heap [] := ⟨ws, hM, hP, hD, va_S.rf⟩
  clear hP hD hM hD0
  have hU : gm_g h h [n, n + 1, n + 2, n + 3] := gm_g.rf
  have hl := lv_entry ([Value.ref a, Value.ref b]) (n := 5) (Nat.le_of_ble_eq_true rfl)
  rw [lg_entry_eq]
  generalize (lg_sl ([Value.ref a, Value.ref b]) ++ List.replicate (5 - (lg_sl ([Value.ref a, Value.ref b])).length) Slot.unset).toArray = ls at hl ⊢
  have hl : lv_has ls 5 [(0, Value.ref a), (1, Value.ref b)] := hl
  refine lv_iconst (v := 0) hx hb d_Vi_replaceMerged_0 (by decide) ?_
  refine lv_istore_n (lv' := [(2, Value.int 0), (0, Value.ref a), (1, Value.ref b)]) hx hb d_Vi_replaceMerged_1 rfl hl (by decide) rfl (fun ls hl => ?_)
  refine lv_iconst (v := 0) hx hb d_Vi_replaceMerged_2 (by decide) ?_
  refine lv_istore_n (lv' := [(3, Value.int 0), (2, Value.int 0), (0, Value.ref a), (1, Value.ref b)]) hx hb d_Vi_replaceMerged_3 rfl hl (by decide) rfl (fun ls hl => ?_)
  refine lv_iconst (v := 0) hx hb d_Vi_replaceMerged_4 (by decide) ?_
  refine lv_istore (lv' := [(4, Value.int 0), (3, Value.int 0), (2, Value.int 0), (0, Value.ref a), (1, Value.ref b)]) hx hb d_Vi_replaceMerged_5 hl (by decide) rfl (fun ls hl => ?_)
  have hl : lv_has ls 5 [(4, Value.int (nI 0)), (3, Value.int (gb (gr_r (gr_c F ms me sj) 0))), (2, Value.int (nI (gr_n (gr_c F ms me sj) 0))), (0, Value.ref a), (1, Value.ref b)] := hl
  have f_n_1_n : h (n + 1) = some ((a1, Sum.inl (cF, 4096, Sum.inr (Sum.inr (Sum.inr (Sum.inr (gr_g (gr_c F ms me sj) g1 (some fr) 0)))))) : Nat × va_E) := by skip; exact f_n_1
  have f_n_2_n : h (n + 2) = some ((a2, Sum.inl (cF, 4096, Sum.inr (Sum.inr (Sum.inr (Sum.inr (gr_g (gr_c F ms me sj) g2 none 0)))))) : Nat × va_E) := by skip; exact f_n_2
  refine gz_loop (N := u) (pc := 7) (fun _ => 0) (fun _ => 0) (fun k h9 ls => gm_g h h9 [n, n + 1, n + 2, n + 3] ∧ h9 n = some ((a, Sum.inr (4, [Value.ref a1, Value.ref a2, Value.ref a3, e0, Value.int (nI u), Value.int x5])) : Nat × va_E) ∧ h9 (n + 1) = some ((a1, Sum.inl (cF, 4096, Sum.inr (Sum.inr (Sum.inr (Sum.inr (gr_g (gr_c F ms me sj) g1 (some fr) k)))))) : Nat × va_E) ∧ h9 (n + 2) = some ((a2, Sum.inl (cF, 4096, Sum.inr (Sum.inr (Sum.inr (Sum.inr (gr_g (gr_c F ms me sj) g2 none k)))))) : Nat × va_E) ∧ h9 (n + 3) = some ((a3, Sum.inl (cZ, 4096, Sum.inl f)) : Nat × va_E) ∧ lv_has ls 5 [(4, Value.int (nI k)), (3, Value.int (gb (gr_r (gr_c F ms me sj) k))), (2, Value.int (nI (gr_n (gr_c F ms me sj) k))), (0, Value.ref a), (1, Value.ref b)]) (fun k w1 H locs ls hk hI Z ih => ?_) (fun w1 H locs ls hI Z => ?_) (u) 0 _ _ _ _ (Nat.zero_add _) ⟨hU, f_n, f_n_1_n, f_n_2_n, f_n_3, lv_sub hl [0, 1, 2, 3, 4] rfl⟩ Z
  · obtain ⟨hU, f_n_w1, f_n_1_w1, f_n_2_w1, f_n_3_w1, hl⟩ := hI
    have e_w1 := hU
    refine lv_iload hx hb d_Vi_replaceMerged_7 (lv_at hl 0 rfl) ?_
    refine lv_aload_n hx hb d_Vi_replaceMerged_9 rfl (lv_at hl 3 rfl) ?_
    refine gz_get (ci := 4) (v := Value.int (nI u)) (C := "CommitLedger$View") (T := F_Vi) (N := 6) hx hb hts i_Vi hown hK Z f_n_w1 rfl 4 (by decide) kf_Vi_24 rfl d_Vi_replaceMerged_10 ?_
    refine lv_icmp_ge (tgt := 80) hx hb d_Vi_replaceMerged_13 (by decide) (fun c9 => absurd c9 (nI_ge hk (by omega))) (fun _ => ?_)
    refine lv_aload_n hx hb d_Vi_replaceMerged_16 rfl (lv_at hl 4 rfl) ?_
    refine lv_aload_n hx hb d_Vi_replaceMerged_17 rfl (lv_at hl 3 rfl) ?_
    refine gz_get (ci := 4) (v := Value.ref a1) (C := "CommitLedger$View") (T := F_Vi) (N := 6) hx hb hts i_Vi hown hK Z f_n_w1 rfl 0 (by decide) kf_Vi_11 rfl d_Vi_replaceMerged_18 ?_
    refine lv_iload hx hb d_Vi_replaceMerged_21 (lv_at hl 0 rfl) ?_
    refine gz_aald (v := Value.ref (sj k)) (j := k) hx hb hK Z 2 f_n_1_w1 ht2 (by omega) (rfl) (by decide) (by rw [gr_at _ _ (Nat.le_refl _), (hsg k hk).1]; rfl) d_Vi_replaceMerged_23 ?_
    have f_mm_w1 : w1 mm = some ((b, Sum.inr (5, [Value.int m0, Value.int (nI ms), Value.int (nI me), va_rf y])) : Nat × va_E) := e_w1.at f_mm (by first | decide | (simp; done) | (simp; omega))
    have fam_w1 : gf_F P F w1 := gf_call fam e_w1 (by first | decide | (simp; done) | (simp; omega))
    refine gz_call (ig := .invokevirtual 35) (av := [Value.ref b, Value.ref (sj k)]) Z (fun ws hM => k_Me_covers l htr D tys z _ ws w1 hM mm b (sj k) ms me m0 (va_rf y) P F f_mm_w1 fam_w1 (hsg k hk).2) (gx_invV (As := [Value.ref (sj k)]) (rest := []) hx hb hown hts km_Vi_35 kI_Me_covers kV_Me_covers kc_Me_covers (by decide) (show (parseMethodDescriptor y_Me_covers.desc).map (fun d => d.parameters.length) = some 1 by decide +kernel) (gz_recv (ci := 5) hK Z rfl f_mm_w1) rfl rfl d_Vi_replaceMerged_24) (gx_cw (z := 0) hts kc_Me_covers kN_Me rfl rfl ⟨Nat.le_of_ble_eq_true rfl, Nat.le_of_ble_eq_true rfl⟩) hb hml hz hK hY hAz hA hl.1 (lv_room (Nat.le_of_ble_eq_true rfl)) d_Vi_replaceMerged_24 ⟨Nat.le_of_ble_eq_true rfl, Nat.le_of_ble_eq_true rfl⟩ (fun v3 h4 H locs hp Z => ?_) (fun x3 E9 ce h4 H locs hp hce Z => ?_)
    · rcases hp with ⟨hv9, e_h4, g3_0, g3_1⟩ | ⟨hv9, e_h4, g3_0⟩ | ⟨hv9, e_h4, g3_0, g3_1⟩
      · cases hv9
        rw [e_h4] at Z
        refine W.eq (g2 := F0 m 27 ls [Value.int 1]) rfl ?_
        refine lv_if_ne (tgt := 55) hx hb d_Vi_replaceMerged_27 (by decide) (fun _ => ?_) (fun c9 => absurd c9 (by decide))
        refine lv_iload_n hx hb d_Vi_replaceMerged_55 rfl (lv_at hl 1 rfl) ?_
        refine lv_if_ne (tgt := 74) hx hb d_Vi_replaceMerged_56 (by decide) (fun c56_5 => ?_) (fun c56_5 => ?_)
        · refine lv_iinc (v := nI (k + 1)) (lv' := [(4, Value.int (nI (k + 1))), (3, Value.int (gb (gr_r (gr_c F ms me sj) k))), (2, Value.int (nI (gr_n (gr_c F ms me sj) k))), (0, Value.ref a), (1, Value.ref b)]) hx hb d_Vi_replaceMerged_74 hl (k := 0) rfl (show nI k + 1 = nI (k + 1) from nI_1 _) (by decide) rfl (fun ls hl => ?_)
          refine lv_goto (tgt := 7) hx hb d_Vi_replaceMerged_77 (by decide) ?_
          have hc9 : (gr_c F ms me sj) k = true := gr_cy g3_0 g3_1
          have hr9 := gb_1 c56_5
          rw [← gr_n3 hc9 hr9, ← gr_r3 hr9] at hl
          have f_n_1_n : w1 (n + 1) = some ((a1, Sum.inl (cF, 4096, Sum.inr (Sum.inr (Sum.inr (Sum.inr (gr_g (gr_c F ms me sj) g1 (some fr) (k + 1))))))) : Nat × va_E) := by rw [gr_g3 hc9 hr9]; exact f_n_1_w1
          have f_n_2_n : w1 (n + 2) = some ((a2, Sum.inl (cF, 4096, Sum.inr (Sum.inr (Sum.inr (Sum.inr (gr_g (gr_c F ms me sj) g2 none (k + 1))))))) : Nat × va_E) := by rw [gr_g3 hc9 hr9]; exact f_n_2_w1
          exact ih _ _ _ _ ⟨hU, f_n_w1, f_n_1_n, f_n_2_n, f_n_3_w1, lv_sub hl [0, 1, 2, 3, 4] rfl⟩ Z
        · refine lv_aload_n hx hb d_Vi_replaceMerged_59 rfl (lv_at hl 3 rfl) ?_
          refine lv_iload_n hx hb d_Vi_replaceMerged_60 rfl (lv_at hl 2 rfl) ?_
          refine lv_aload_n hx hb d_Vi_replaceMerged_61 rfl (lv_at hl 4 rfl) ?_
          refine gz_get (ci := 5) (v := va_rf y) (C := "CommitLedger$Merge") (T := F_Me) (N := 4) hx hb hts i_Me hown hK Z f_mm_w1 rfl 3 (by decide) kf_Vi_41 rfl d_Vi_replaceMerged_62 ?_
          refine gx_topv (w := Value.ref fr) (by rw [hfr]; rfl) ?_
          refine lv_null hx hb d_Vi_replaceMerged_65 ?_
          refine gz_call (ig := .invokevirtual 31) (av := [Value.ref a, Value.int (nI (gr_n (gr_c F ms me sj) k)), Value.ref fr, Value.null]) Z (fun ws hM => k_Vi_put_n l htr D tys z _ ws w1 hM cZ cF n a a1 a2 a3 u (e0) x5 (gr_g (gr_c F ms me sj) g1 (some fr) k) (gr_g (gr_c F ms me sj) g2 none k) f (gr_n (gr_c F ms me sj) k) fr P F f_n_w1 f_n_1_w1 f_n_2_w1 f_n_3_w1 ht1 ht2 fam_w1 (by have h9 := gr_le (c := (gr_c F ms me sj)) k; omega) hn hpf) (gx_invV (As := [Value.int (nI (gr_n (gr_c F ms me sj) k)), Value.ref fr, Value.null]) (rest := []) hx hb hown hts km_Vi_31 kI_Vi_put kV_Vi_put kc_Vi_put (by decide) (show (parseMethodDescriptor y_Vi_put.desc).map (fun d => d.parameters.length) = some 3 by decide +kernel) (gz_recv (ci := 4) hK Z rfl f_n_w1) rfl rfl d_Vi_replaceMerged_66) (gx_cw (z := 0) hts kc_Vi_put kN_Vi rfl rfl ⟨Nat.le_of_ble_eq_true rfl, Nat.le_of_ble_eq_true rfl⟩) hb hml hz hK hY hAz hA hl.1 (lv_room (Nat.le_of_ble_eq_true rfl)) d_Vi_replaceMerged_66 ⟨Nat.le_of_ble_eq_true rfl, Nat.le_of_ble_eq_true rfl⟩ (fun v6 h7 H locs hp Z => ?_) (fun x6 E9 ce h7 H locs hp hce Z => ?_)
          · rcases hp with ⟨hv9, e_h7, f_n_1_h7, f_n_2_h7⟩
            cases hv9
            have f_n_1_h7 : h7 (n + 1) = some ((a1, Sum.inl (cF, 4096, Sum.inr (Sum.inr (Sum.inr (Sum.inr (va_up (gr_g (gr_c F ms me sj) g1 (some fr) k) (gr_n (gr_c F ms me sj) k) (some fr))))))) : Nat × va_E) := f_n_1_h7
            have f_n_2_h7 : h7 (n + 2) = some ((a2, Sum.inl (cF, 4096, Sum.inr (Sum.inr (Sum.inr (Sum.inr (va_up (gr_g (gr_c F ms me sj) g2 none k) (gr_n (gr_c F ms me sj) k) none)))))) : Nat × va_E) := f_n_2_h7
            replace hU : gm_g h h7 [n, n + 1, n + 2, n + 3] := hU.call e_h7 (by first | decide | (simp; done) | (simp; omega))
            refine W.eq (g2 := F0 m 69 ls []) rfl ?_
            refine lv_iinc (v := nI ((gr_n (gr_c F ms me sj) k) + 1)) (lv' := [(2, Value.int (nI ((gr_n (gr_c F ms me sj) k) + 1))), (4, Value.int (nI k)), (3, Value.int (gb (gr_r (gr_c F ms me sj) k))), (0, Value.ref a), (1, Value.ref b)]) hx hb d_Vi_replaceMerged_69 hl (k := 2) rfl (show nI (gr_n (gr_c F ms me sj) k) + 1 = nI ((gr_n (gr_c F ms me sj) k) + 1) from nI_1 _) (by decide) rfl (fun ls hl => ?_)
            refine lv_iconst (v := 1) hx hb d_Vi_replaceMerged_72 (by decide) ?_
            refine lv_istore_n (lv' := [(3, Value.int 1), (2, Value.int (nI ((gr_n (gr_c F ms me sj) k) + 1))), (4, Value.int (nI k)), (0, Value.ref a), (1, Value.ref b)]) hx hb d_Vi_replaceMerged_73 rfl hl (by decide) rfl (fun ls hl => ?_)
            refine lv_iinc (v := nI (k + 1)) (lv' := [(4, Value.int (nI (k + 1))), (3, Value.int 1), (2, Value.int (nI ((gr_n (gr_c F ms me sj) k) + 1))), (0, Value.ref a), (1, Value.ref b)]) hx hb d_Vi_replaceMerged_74 hl (k := 2) rfl (show nI k + 1 = nI (k + 1) from nI_1 _) (by decide) rfl (fun ls hl => ?_)
            refine lv_goto (tgt := 7) hx hb d_Vi_replaceMerged_77 (by decide) ?_
            have hc9 : (gr_c F ms me sj) k = true := gr_cy g3_0 g3_1
            have hr9 := gb_0 c56_5
            rw [← gr_n2 hr9, ← gr_r2 hc9] at hl
            have f_n_h7 : h7 n = some ((a, Sum.inr (4, [Value.ref a1, Value.ref a2, Value.ref a3, e0, Value.int (nI u), Value.int x5])) : Nat × va_E) := e_h7.at f_n_w1 (by first | decide | (simp; done) | (simp; omega))
            have f_n_1_n : h7 (n + 1) = some ((a1, Sum.inl (cF, 4096, Sum.inr (Sum.inr (Sum.inr (Sum.inr (gr_g (gr_c F ms me sj) g1 (some fr) (k + 1))))))) : Nat × va_E) := by rw [gr_g2 hc9 hr9]; exact f_n_1_h7
            have f_n_2_n : h7 (n + 2) = some ((a2, Sum.inl (cF, 4096, Sum.inr (Sum.inr (Sum.inr (Sum.inr (gr_g (gr_c F ms me sj) g2 none (k + 1))))))) : Nat × va_E) := by rw [gr_g2 hc9 hr9]; exact f_n_2_h7
            have f_n_3_h7 : h7 (n + 3) = some ((a3, Sum.inl (cZ, 4096, Sum.inl f)) : Nat × va_E) := e_h7.at f_n_3_w1 (by first | decide | (simp; done) | (simp; omega))
            exact ih _ _ _ _ ⟨hU, f_n_h7, f_n_1_n, f_n_2_n, f_n_3_h7, lv_sub hl [0, 1, 2, 3, 4] rfl⟩ Z
          · rcases hp with ⟨hv9, e_h7, f_n_1_h7, f_n_2_h7⟩
            cases hv9
      · cases hv9
        rw [e_h4] at Z
        refine W.eq (g2 := F0 m 27 ls [Value.int 0]) rfl ?_
        refine lv_if_ne (tgt := 55) hx hb d_Vi_replaceMerged_27 (by decide) (fun c9 => absurd (by decide) c9) (fun _ => ?_)
        refine lv_aload_n hx hb d_Vi_replaceMerged_30 rfl (lv_at hl 3 rfl) ?_
        refine lv_iload_n hx hb d_Vi_replaceMerged_31 rfl (lv_at hl 2 rfl) ?_
        refine lv_aload_n hx hb d_Vi_replaceMerged_32 rfl (lv_at hl 3 rfl) ?_
        refine gz_get (ci := 4) (v := Value.ref a1) (C := "CommitLedger$View") (T := F_Vi) (N := 6) hx hb hts i_Vi hown hK Z f_n_w1 rfl 0 (by decide) kf_Vi_11 rfl d_Vi_replaceMerged_33 ?_
        refine lv_iload hx hb d_Vi_replaceMerged_36 (lv_at hl 0 rfl) ?_
        refine gz_aald (v := Value.ref (sj k)) (j := k) hx hb hK Z 2 f_n_1_w1 ht2 (by omega) (rfl) (by decide) (by rw [gr_at _ _ (Nat.le_refl _), (hsg k hk).1]; rfl) d_Vi_replaceMerged_38 ?_
        refine lv_aload_n hx hb d_Vi_replaceMerged_39 rfl (lv_at hl 3 rfl) ?_
        refine gz_get (ci := 4) (v := Value.ref a2) (C := "CommitLedger$View") (T := F_Vi) (N := 6) hx hb hts i_Vi hown hK Z f_n_w1 rfl 1 (by decide) kf_Vi_17 rfl d_Vi_replaceMerged_40 ?_
        refine lv_iload hx hb d_Vi_replaceMerged_43 (lv_at hl 0 rfl) ?_
        rcases hli k (hk) with q9_8 | ⟨x8, q9_8, q8_8⟩
        · refine gz_aald (v := Value.null) (j := k) hx hb hK Z 2 f_n_2_w1 ht2 (by omega) (rfl) (by decide) (by rw [gr_at _ _ (Nat.le_refl _), q9_8]; rfl) d_Vi_replaceMerged_45 ?_
          refine gz_call (ig := .invokevirtual 31) (av := [Value.ref a, Value.int (nI (gr_n (gr_c F ms me sj) k)), Value.ref (sj k), Value.null]) Z (fun ws hM => k_Vi_put_n l htr D tys z _ ws w1 hM cZ cF n a a1 a2 a3 u (e0) x5 (gr_g (gr_c F ms me sj) g1 (some fr) k) (gr_g (gr_c F ms me sj) g2 none k) f (gr_n (gr_c F ms me sj) k) (sj k) P F f_n_w1 f_n_1_w1 f_n_2_w1 f_n_3_w1 ht1 ht2 fam_w1 (by have h9 := gr_le (c := (gr_c F ms me sj)) k; omega) hn (hsg k hk).2) (gx_invV (As := [Value.int (nI (gr_n (gr_c F ms me sj) k)), Value.ref (sj k), Value.null]) (rest := []) hx hb hown hts km_Vi_31 kI_Vi_put kV_Vi_put kc_Vi_put (by decide) (show (parseMethodDescriptor y_Vi_put.desc).map (fun d => d.parameters.length) = some 3 by decide +kernel) (gz_recv (ci := 4) hK Z rfl f_n_w1) rfl rfl d_Vi_replaceMerged_46) (gx_cw (z := 0) hts kc_Vi_put kN_Vi rfl rfl ⟨Nat.le_of_ble_eq_true rfl, Nat.le_of_ble_eq_true rfl⟩) hb hml hz hK hY hAz hA hl.1 (lv_room (Nat.le_of_ble_eq_true rfl)) d_Vi_replaceMerged_46 ⟨Nat.le_of_ble_eq_true rfl, Nat.le_of_ble_eq_true rfl⟩ (fun v9 h10 H locs hp Z => ?_) (fun x9 E9 ce h10 H locs hp hce Z => ?_)
          · rcases hp with ⟨hv9, e_h10, f_n_1_h10, f_n_2_h10⟩
            cases hv9
            have f_n_1_h10 : h10 (n + 1) = some ((a1, Sum.inl (cF, 4096, Sum.inr (Sum.inr (Sum.inr (Sum.inr (va_up (gr_g (gr_c F ms me sj) g1 (some fr) k) (gr_n (gr_c F ms me sj) k) (some (sj k)))))))) : Nat × va_E) := f_n_1_h10
            have f_n_2_h10 : h10 (n + 2) = some ((a2, Sum.inl (cF, 4096, Sum.inr (Sum.inr (Sum.inr (Sum.inr (va_up (gr_g (gr_c F ms me sj) g2 none k) (gr_n (gr_c F ms me sj) k) none)))))) : Nat × va_E) := f_n_2_h10
            replace hU : gm_g h h10 [n, n + 1, n + 2, n + 3] := hU.call e_h10 (by first | decide | (simp; done) | (simp; omega))
            refine W.eq (g2 := F0 m 49 ls []) rfl ?_
            refine lv_iinc (v := nI ((gr_n (gr_c F ms me sj) k) + 1)) (lv' := [(2, Value.int (nI ((gr_n (gr_c F ms me sj) k) + 1))), (4, Value.int (nI k)), (3, Value.int (gb (gr_r (gr_c F ms me sj) k))), (0, Value.ref a), (1, Value.ref b)]) hx hb d_Vi_replaceMerged_49 hl (k := 2) rfl (show nI (gr_n (gr_c F ms me sj) k) + 1 = nI ((gr_n (gr_c F ms me sj) k) + 1) from nI_1 _) (by decide) rfl (fun ls hl => ?_)
            refine lv_goto (tgt := 74) hx hb d_Vi_replaceMerged_52 (by decide) ?_
            refine lv_iinc (v := nI (k + 1)) (lv' := [(4, Value.int (nI (k + 1))), (2, Value.int (nI ((gr_n (gr_c F ms me sj) k) + 1))), (3, Value.int (gb (gr_r (gr_c F ms me sj) k))), (0, Value.ref a), (1, Value.ref b)]) hx hb d_Vi_replaceMerged_74 hl (k := 1) rfl (show nI k + 1 = nI (k + 1) from nI_1 _) (by decide) rfl (fun ls hl => ?_)
            refine lv_goto (tgt := 7) hx hb d_Vi_replaceMerged_77 (by decide) ?_
            have hc9 : ¬ (gr_c F ms me sj) k = true := gr_ca g3_0
            rw [← gr_n1 hc9, ← gr_r1 hc9] at hl
            have f_n_h10 : h10 n = some ((a, Sum.inr (4, [Value.ref a1, Value.ref a2, Value.ref a3, e0, Value.int (nI u), Value.int x5])) : Nat × va_E) := e_h10.at f_n_w1 (by first | decide | (simp; done) | (simp; omega))
            have f_n_1_n : h10 (n + 1) = some ((a1, Sum.inl (cF, 4096, Sum.inr (Sum.inr (Sum.inr (Sum.inr (gr_g (gr_c F ms me sj) g1 (some fr) (k + 1))))))) : Nat × va_E) := by rw [gr_g1 hc9 (hsg k hk).1]; exact f_n_1_h10
            have f_n_2_n : h10 (n + 2) = some ((a2, Sum.inl (cF, 4096, Sum.inr (Sum.inr (Sum.inr (Sum.inr (gr_g (gr_c F ms me sj) g2 none (k + 1))))))) : Nat × va_E) := by rw [gr_g1 hc9 q9_8]; exact f_n_2_h10
            have f_n_3_h10 : h10 (n + 3) = some ((a3, Sum.inl (cZ, 4096, Sum.inl f)) : Nat × va_E) := e_h10.at f_n_3_w1 (by first | decide | (simp; done) | (simp; omega))
            exact ih _ _ _ _ ⟨hU, f_n_h10, f_n_1_n, f_n_2_n, f_n_3_h10, lv_sub hl [0, 2, 1, 3, 4] rfl⟩ Z
          · rcases hp with ⟨hv9, e_h10, f_n_1_h10, f_n_2_h10⟩
            cases hv9
        · refine gz_aald (v := Value.ref x8) (j := k) hx hb hK Z 2 f_n_2_w1 ht2 (by omega) (rfl) (by decide) (by rw [gr_at _ _ (Nat.le_refl _), q9_8]; rfl) d_Vi_replaceMerged_45 ?_
          refine gz_call (ig := .invokevirtual 31) (av := [Value.ref a, Value.int (nI (gr_n (gr_c F ms me sj) k)), Value.ref (sj k), Value.ref x8]) Z (fun ws hM => k_Vi_put_f l htr D tys z _ ws w1 hM cZ cF n a a1 a2 a3 u (e0) x5 (gr_g (gr_c F ms me sj) g1 (some fr) k) (gr_g (gr_c F ms me sj) g2 none k) f (gr_n (gr_c F ms me sj) k) (sj k) x8 P F f_n_w1 f_n_1_w1 f_n_2_w1 f_n_3_w1 ht1 ht2 fam_w1 (by have h9 := gr_le (c := (gr_c F ms me sj)) k; omega) hn (hsg k hk).2 q8_8) (gx_invV (As := [Value.int (nI (gr_n (gr_c F ms me sj) k)), Value.ref (sj k), Value.ref x8]) (rest := []) hx hb hown hts km_Vi_31 kI_Vi_put kV_Vi_put kc_Vi_put (by decide) (show (parseMethodDescriptor y_Vi_put.desc).map (fun d => d.parameters.length) = some 3 by decide +kernel) (gz_recv (ci := 4) hK Z rfl f_n_w1) rfl rfl d_Vi_replaceMerged_46) (gx_cw (z := 0) hts kc_Vi_put kN_Vi rfl rfl ⟨Nat.le_of_ble_eq_true rfl, Nat.le_of_ble_eq_true rfl⟩) hb hml hz hK hY hAz hA hl.1 (lv_room (Nat.le_of_ble_eq_true rfl)) d_Vi_replaceMerged_46 ⟨Nat.le_of_ble_eq_true rfl, Nat.le_of_ble_eq_true rfl⟩ (fun v11 h12 H locs hp Z => ?_) (fun x11 E9 ce h12 H locs hp hce Z => ?_)
          · rcases hp with ⟨hv9, e_h12, f_n_1_h12, f_n_2_h12⟩
            cases hv9
            have f_n_1_h12 : h12 (n + 1) = some ((a1, Sum.inl (cF, 4096, Sum.inr (Sum.inr (Sum.inr (Sum.inr (va_up (gr_g (gr_c F ms me sj) g1 (some fr) k) (gr_n (gr_c F ms me sj) k) (some (sj k)))))))) : Nat × va_E) := f_n_1_h12
            have f_n_2_h12 : h12 (n + 2) = some ((a2, Sum.inl (cF, 4096, Sum.inr (Sum.inr (Sum.inr (Sum.inr (va_up (gr_g (gr_c F ms me sj) g2 none k) (gr_n (gr_c F ms me sj) k) (some x8))))))) : Nat × va_E) := f_n_2_h12
            replace hU : gm_g h h12 [n, n + 1, n + 2, n + 3] := hU.call e_h12 (by first | decide | (simp; done) | (simp; omega))
            refine W.eq (g2 := F0 m 49 ls []) rfl ?_
            refine lv_iinc (v := nI ((gr_n (gr_c F ms me sj) k) + 1)) (lv' := [(2, Value.int (nI ((gr_n (gr_c F ms me sj) k) + 1))), (4, Value.int (nI k)), (3, Value.int (gb (gr_r (gr_c F ms me sj) k))), (0, Value.ref a), (1, Value.ref b)]) hx hb d_Vi_replaceMerged_49 hl (k := 2) rfl (show nI (gr_n (gr_c F ms me sj) k) + 1 = nI ((gr_n (gr_c F ms me sj) k) + 1) from nI_1 _) (by decide) rfl (fun ls hl => ?_)
            refine lv_goto (tgt := 74) hx hb d_Vi_replaceMerged_52 (by decide) ?_
            refine lv_iinc (v := nI (k + 1)) (lv' := [(4, Value.int (nI (k + 1))), (2, Value.int (nI ((gr_n (gr_c F ms me sj) k) + 1))), (3, Value.int (gb (gr_r (gr_c F ms me sj) k))), (0, Value.ref a), (1, Value.ref b)]) hx hb d_Vi_replaceMerged_74 hl (k := 1) rfl (show nI k + 1 = nI (k + 1) from nI_1 _) (by decide) rfl (fun ls hl => ?_)
            refine lv_goto (tgt := 7) hx hb d_Vi_replaceMerged_77 (by decide) ?_
            have hc9 : ¬ (gr_c F ms me sj) k = true := gr_ca g3_0
            rw [← gr_n1 hc9, ← gr_r1 hc9] at hl
            have f_n_h12 : h12 n = some ((a, Sum.inr (4, [Value.ref a1, Value.ref a2, Value.ref a3, e0, Value.int (nI u), Value.int x5])) : Nat × va_E) := e_h12.at f_n_w1 (by first | decide | (simp; done) | (simp; omega))
            have f_n_1_n : h12 (n + 1) = some ((a1, Sum.inl (cF, 4096, Sum.inr (Sum.inr (Sum.inr (Sum.inr (gr_g (gr_c F ms me sj) g1 (some fr) (k + 1))))))) : Nat × va_E) := by rw [gr_g1 hc9 (hsg k hk).1]; exact f_n_1_h12
            have f_n_2_n : h12 (n + 2) = some ((a2, Sum.inl (cF, 4096, Sum.inr (Sum.inr (Sum.inr (Sum.inr (gr_g (gr_c F ms me sj) g2 none (k + 1))))))) : Nat × va_E) := by rw [gr_g1 hc9 q9_8]; exact f_n_2_h12
            have f_n_3_h12 : h12 (n + 3) = some ((a3, Sum.inl (cZ, 4096, Sum.inl f)) : Nat × va_E) := e_h12.at f_n_3_w1 (by first | decide | (simp; done) | (simp; omega))
            exact ih _ _ _ _ ⟨hU, f_n_h12, f_n_1_n, f_n_2_n, f_n_3_h12, lv_sub hl [0, 2, 1, 3, 4] rfl⟩ Z
          · rcases hp with ⟨hv9, e_h12, f_n_1_h12, f_n_2_h12⟩
            cases hv9
      · cases hv9
        rw [e_h4] at Z
        refine W.eq (g2 := F0 m 27 ls [Value.int 0]) rfl ?_
        refine lv_if_ne (tgt := 55) hx hb d_Vi_replaceMerged_27 (by decide) (fun c9 => absurd (by decide) c9) (fun _ => ?_)
        refine lv_aload_n hx hb d_Vi_replaceMerged_30 rfl (lv_at hl 3 rfl) ?_
        refine lv_iload_n hx hb d_Vi_replaceMerged_31 rfl (lv_at hl 2 rfl) ?_
        refine lv_aload_n hx hb d_Vi_replaceMerged_32 rfl (lv_at hl 3 rfl) ?_
        refine gz_get (ci := 4) (v := Value.ref a1) (C := "CommitLedger$View") (T := F_Vi) (N := 6) hx hb hts i_Vi hown hK Z f_n_w1 rfl 0 (by decide) kf_Vi_11 rfl d_Vi_replaceMerged_33 ?_
        refine lv_iload hx hb d_Vi_replaceMerged_36 (lv_at hl 0 rfl) ?_
        refine gz_aald (v := Value.ref (sj k)) (j := k) hx hb hK Z 2 f_n_1_w1 ht2 (by omega) (rfl) (by decide) (by rw [gr_at _ _ (Nat.le_refl _), (hsg k hk).1]; rfl) d_Vi_replaceMerged_38 ?_
        refine lv_aload_n hx hb d_Vi_replaceMerged_39 rfl (lv_at hl 3 rfl) ?_
        refine gz_get (ci := 4) (v := Value.ref a2) (C := "CommitLedger$View") (T := F_Vi) (N := 6) hx hb hts i_Vi hown hK Z f_n_w1 rfl 1 (by decide) kf_Vi_17 rfl d_Vi_replaceMerged_40 ?_
        refine lv_iload hx hb d_Vi_replaceMerged_43 (lv_at hl 0 rfl) ?_
        rcases hli k (hk) with q9_13 | ⟨x13, q9_13, q8_13⟩
        · refine gz_aald (v := Value.null) (j := k) hx hb hK Z 2 f_n_2_w1 ht2 (by omega) (rfl) (by decide) (by rw [gr_at _ _ (Nat.le_refl _), q9_13]; rfl) d_Vi_replaceMerged_45 ?_
          refine gz_call (ig := .invokevirtual 31) (av := [Value.ref a, Value.int (nI (gr_n (gr_c F ms me sj) k)), Value.ref (sj k), Value.null]) Z (fun ws hM => k_Vi_put_n l htr D tys z _ ws w1 hM cZ cF n a a1 a2 a3 u (e0) x5 (gr_g (gr_c F ms me sj) g1 (some fr) k) (gr_g (gr_c F ms me sj) g2 none k) f (gr_n (gr_c F ms me sj) k) (sj k) P F f_n_w1 f_n_1_w1 f_n_2_w1 f_n_3_w1 ht1 ht2 fam_w1 (by have h9 := gr_le (c := (gr_c F ms me sj)) k; omega) hn (hsg k hk).2) (gx_invV (As := [Value.int (nI (gr_n (gr_c F ms me sj) k)), Value.ref (sj k), Value.null]) (rest := []) hx hb hown hts km_Vi_31 kI_Vi_put kV_Vi_put kc_Vi_put (by decide) (show (parseMethodDescriptor y_Vi_put.desc).map (fun d => d.parameters.length) = some 3 by decide +kernel) (gz_recv (ci := 4) hK Z rfl f_n_w1) rfl rfl d_Vi_replaceMerged_46) (gx_cw (z := 0) hts kc_Vi_put kN_Vi rfl rfl ⟨Nat.le_of_ble_eq_true rfl, Nat.le_of_ble_eq_true rfl⟩) hb hml hz hK hY hAz hA hl.1 (lv_room (Nat.le_of_ble_eq_true rfl)) d_Vi_replaceMerged_46 ⟨Nat.le_of_ble_eq_true rfl, Nat.le_of_ble_eq_true rfl⟩ (fun v14 h15 H locs hp Z => ?_) (fun x14 E9 ce h15 H locs hp hce Z => ?_)
          · rcases hp with ⟨hv9, e_h15, f_n_1_h15, f_n_2_h15⟩
            cases hv9
            have f_n_1_h15 : h15 (n + 1) = some ((a1, Sum.inl (cF, 4096, Sum.inr (Sum.inr (Sum.inr (Sum.inr (va_up (gr_g (gr_c F ms me sj) g1 (some fr) k) (gr_n (gr_c F ms me sj) k) (some (sj k)))))))) : Nat × va_E) := f_n_1_h15
            have f_n_2_h15 : h15 (n + 2) = some ((a2, Sum.inl (cF, 4096, Sum.inr (Sum.inr (Sum.inr (Sum.inr (va_up (gr_g (gr_c F ms me sj) g2 none k) (gr_n (gr_c F ms me sj) k) none)))))) : Nat × va_E) := f_n_2_h15
            replace hU : gm_g h h15 [n, n + 1, n + 2, n + 3] := hU.call e_h15 (by first | decide | (simp; done) | (simp; omega))
            refine W.eq (g2 := F0 m 49 ls []) rfl ?_
            refine lv_iinc (v := nI ((gr_n (gr_c F ms me sj) k) + 1)) (lv' := [(2, Value.int (nI ((gr_n (gr_c F ms me sj) k) + 1))), (4, Value.int (nI k)), (3, Value.int (gb (gr_r (gr_c F ms me sj) k))), (0, Value.ref a), (1, Value.ref b)]) hx hb d_Vi_replaceMerged_49 hl (k := 2) rfl (show nI (gr_n (gr_c F ms me sj) k) + 1 = nI ((gr_n (gr_c F ms me sj) k) + 1) from nI_1 _) (by decide) rfl (fun ls hl => ?_)
            refine lv_goto (tgt := 74) hx hb d_Vi_replaceMerged_52 (by decide) ?_
            refine lv_iinc (v := nI (k + 1)) (lv' := [(4, Value.int (nI (k + 1))), (2, Value.int (nI ((gr_n (gr_c F ms me sj) k) + 1))), (3, Value.int (gb (gr_r (gr_c F ms me sj) k))), (0, Value.ref a), (1, Value.ref b)]) hx hb d_Vi_replaceMerged_74 hl (k := 1) rfl (show nI k + 1 = nI (k + 1) from nI_1 _) (by decide) rfl (fun ls hl => ?_)
            refine lv_goto (tgt := 7) hx hb d_Vi_replaceMerged_77 (by decide) ?_
            have hc9 : ¬ (gr_c F ms me sj) k = true := gr_cb g3_1
            rw [← gr_n1 hc9, ← gr_r1 hc9] at hl
            have f_n_h15 : h15 n = some ((a, Sum.inr (4, [Value.ref a1, Value.ref a2, Value.ref a3, e0, Value.int (nI u), Value.int x5])) : Nat × va_E) := e_h15.at f_n_w1 (by first | decide | (simp; done) | (simp; omega))
            have f_n_1_n : h15 (n + 1) = some ((a1, Sum.inl (cF, 4096, Sum.inr (Sum.inr (Sum.inr (Sum.inr (gr_g (gr_c F ms me sj) g1 (some fr) (k + 1))))))) : Nat × va_E) := by rw [gr_g1 hc9 (hsg k hk).1]; exact f_n_1_h15
            have f_n_2_n : h15 (n + 2) = some ((a2, Sum.inl (cF, 4096, Sum.inr (Sum.inr (Sum.inr (Sum.inr (gr_g (gr_c F ms me sj) g2 none (k + 1))))))) : Nat × va_E) := by rw [gr_g1 hc9 q9_13]; exact f_n_2_h15
            have f_n_3_h15 : h15 (n + 3) = some ((a3, Sum.inl (cZ, 4096, Sum.inl f)) : Nat × va_E) := e_h15.at f_n_3_w1 (by first | decide | (simp; done) | (simp; omega))
            exact ih _ _ _ _ ⟨hU, f_n_h15, f_n_1_n, f_n_2_n, f_n_3_h15, lv_sub hl [0, 2, 1, 3, 4] rfl⟩ Z
          · rcases hp with ⟨hv9, e_h15, f_n_1_h15, f_n_2_h15⟩
            cases hv9
        · refine gz_aald (v := Value.ref x13) (j := k) hx hb hK Z 2 f_n_2_w1 ht2 (by omega) (rfl) (by decide) (by rw [gr_at _ _ (Nat.le_refl _), q9_13]; rfl) d_Vi_replaceMerged_45 ?_
          refine gz_call (ig := .invokevirtual 31) (av := [Value.ref a, Value.int (nI (gr_n (gr_c F ms me sj) k)), Value.ref (sj k), Value.ref x13]) Z (fun ws hM => k_Vi_put_f l htr D tys z _ ws w1 hM cZ cF n a a1 a2 a3 u (e0) x5 (gr_g (gr_c F ms me sj) g1 (some fr) k) (gr_g (gr_c F ms me sj) g2 none k) f (gr_n (gr_c F ms me sj) k) (sj k) x13 P F f_n_w1 f_n_1_w1 f_n_2_w1 f_n_3_w1 ht1 ht2 fam_w1 (by have h9 := gr_le (c := (gr_c F ms me sj)) k; omega) hn (hsg k hk).2 q8_13) (gx_invV (As := [Value.int (nI (gr_n (gr_c F ms me sj) k)), Value.ref (sj k), Value.ref x13]) (rest := []) hx hb hown hts km_Vi_31 kI_Vi_put kV_Vi_put kc_Vi_put (by decide) (show (parseMethodDescriptor y_Vi_put.desc).map (fun d => d.parameters.length) = some 3 by decide +kernel) (gz_recv (ci := 4) hK Z rfl f_n_w1) rfl rfl d_Vi_replaceMerged_46) (gx_cw (z := 0) hts kc_Vi_put kN_Vi rfl rfl ⟨Nat.le_of_ble_eq_true rfl, Nat.le_of_ble_eq_true rfl⟩) hb hml hz hK hY hAz hA hl.1 (lv_room (Nat.le_of_ble_eq_true rfl)) d_Vi_replaceMerged_46 ⟨Nat.le_of_ble_eq_true rfl, Nat.le_of_ble_eq_true rfl⟩ (fun v16 h17 H locs hp Z => ?_) (fun x16 E9 ce h17 H locs hp hce Z => ?_)
          · rcases hp with ⟨hv9, e_h17, f_n_1_h17, f_n_2_h17⟩
            cases hv9
            have f_n_1_h17 : h17 (n + 1) = some ((a1, Sum.inl (cF, 4096, Sum.inr (Sum.inr (Sum.inr (Sum.inr (va_up (gr_g (gr_c F ms me sj) g1 (some fr) k) (gr_n (gr_c F ms me sj) k) (some (sj k)))))))) : Nat × va_E) := f_n_1_h17
            have f_n_2_h17 : h17 (n + 2) = some ((a2, Sum.inl (cF, 4096, Sum.inr (Sum.inr (Sum.inr (Sum.inr (va_up (gr_g (gr_c F ms me sj) g2 none k) (gr_n (gr_c F ms me sj) k) (some x13))))))) : Nat × va_E) := f_n_2_h17
            replace hU : gm_g h h17 [n, n + 1, n + 2, n + 3] := hU.call e_h17 (by first | decide | (simp; done) | (simp; omega))
            refine W.eq (g2 := F0 m 49 ls []) rfl ?_
            refine lv_iinc (v := nI ((gr_n (gr_c F ms me sj) k) + 1)) (lv' := [(2, Value.int (nI ((gr_n (gr_c F ms me sj) k) + 1))), (4, Value.int (nI k)), (3, Value.int (gb (gr_r (gr_c F ms me sj) k))), (0, Value.ref a), (1, Value.ref b)]) hx hb d_Vi_replaceMerged_49 hl (k := 2) rfl (show nI (gr_n (gr_c F ms me sj) k) + 1 = nI ((gr_n (gr_c F ms me sj) k) + 1) from nI_1 _) (by decide) rfl (fun ls hl => ?_)
            refine lv_goto (tgt := 74) hx hb d_Vi_replaceMerged_52 (by decide) ?_
            refine lv_iinc (v := nI (k + 1)) (lv' := [(4, Value.int (nI (k + 1))), (2, Value.int (nI ((gr_n (gr_c F ms me sj) k) + 1))), (3, Value.int (gb (gr_r (gr_c F ms me sj) k))), (0, Value.ref a), (1, Value.ref b)]) hx hb d_Vi_replaceMerged_74 hl (k := 1) rfl (show nI k + 1 = nI (k + 1) from nI_1 _) (by decide) rfl (fun ls hl => ?_)
            refine lv_goto (tgt := 7) hx hb d_Vi_replaceMerged_77 (by decide) ?_
            have hc9 : ¬ (gr_c F ms me sj) k = true := gr_cb g3_1
            rw [← gr_n1 hc9, ← gr_r1 hc9] at hl
            have f_n_h17 : h17 n = some ((a, Sum.inr (4, [Value.ref a1, Value.ref a2, Value.ref a3, e0, Value.int (nI u), Value.int x5])) : Nat × va_E) := e_h17.at f_n_w1 (by first | decide | (simp; done) | (simp; omega))
            have f_n_1_n : h17 (n + 1) = some ((a1, Sum.inl (cF, 4096, Sum.inr (Sum.inr (Sum.inr (Sum.inr (gr_g (gr_c F ms me sj) g1 (some fr) (k + 1))))))) : Nat × va_E) := by rw [gr_g1 hc9 (hsg k hk).1]; exact f_n_1_h17
            have f_n_2_n : h17 (n + 2) = some ((a2, Sum.inl (cF, 4096, Sum.inr (Sum.inr (Sum.inr (Sum.inr (gr_g (gr_c F ms me sj) g2 none (k + 1))))))) : Nat × va_E) := by rw [gr_g1 hc9 q9_13]; exact f_n_2_h17
            have f_n_3_h17 : h17 (n + 3) = some ((a3, Sum.inl (cZ, 4096, Sum.inl f)) : Nat × va_E) := e_h17.at f_n_3_w1 (by first | decide | (simp; done) | (simp; omega))
            exact ih _ _ _ _ ⟨hU, f_n_h17, f_n_1_n, f_n_2_n, f_n_3_h17, lv_sub hl [0, 2, 1, 3, 4] rfl⟩ Z
          · rcases hp with ⟨hv9, e_h17, f_n_1_h17, f_n_2_h17⟩
            cases hv9
    · rcases hp with ⟨hv9, e_h4, g3_0, g3_1⟩ | ⟨hv9, e_h4, g3_0⟩ | ⟨hv9, e_h4, g3_0, g3_1⟩
      · cases hv9
      · cases hv9
      · cases hv9
  · obtain ⟨hU, f_n_w1, f_n_1_w1, f_n_2_w1, f_n_3_w1, hl⟩ := hI
    have e_w1 := hU
    refine lv_iload hx hb d_Vi_replaceMerged_7 (lv_at hl 0 rfl) ?_
    refine lv_aload_n hx hb d_Vi_replaceMerged_9 rfl (lv_at hl 3 rfl) ?_
    refine gz_get (ci := 4) (v := Value.int (nI u)) (C := "CommitLedger$View") (T := F_Vi) (N := 6) hx hb hts i_Vi hown hK Z f_n_w1 rfl 4 (by decide) kf_Vi_24 rfl d_Vi_replaceMerged_10 ?_
    refine lv_icmp_ge (tgt := 80) hx hb d_Vi_replaceMerged_13 (by decide) (fun _ => ?_) (fun c9 => absurd (nI_le (Nat.le_refl _) (by omega)) c9)
    refine lv_aload_n hx hb d_Vi_replaceMerged_80 rfl (lv_at hl 3 rfl) ?_
    refine lv_iload_n hx hb d_Vi_replaceMerged_81 rfl (lv_at hl 2 rfl) ?_
    refine gz_put (ci := 4) (v := Value.int (nI (gr_n (gr_c F ms me sj) u))) (ty := .int) (C := "CommitLedger$View") (T := F_Vi) (N := 6) hx hb hts i_Vi t_Vi_ok n_Vi hown hK Z f_n_w1 rfl 4 (by decide) kf_Vi_24 rfl (by decide +kernel) rfl rfl (Nat.le_of_ble_eq_true rfl) d_Vi_replaceMerged_82 (fun H locs Z => ?_)
    obtain ⟨h19, e_h19⟩ : ∃ z9 : gm_M, z9 = gm_up w1 n ((a, Sum.inr (4, [Value.ref a1, Value.ref a2, Value.ref a3, e0, Value.int (nI (gr_n (gr_c F ms me sj) u)), Value.int x5])) : Nat × va_E) := ⟨_, rfl⟩
    replace Z : gz D A s.heap h19 H locs := by rw [e_h19]; exact Z
    have f_n_h19 : h19 n = some ((a, Sum.inr (4, [Value.ref a1, Value.ref a2, Value.ref a3, e0, Value.int (nI (gr_n (gr_c F ms me sj) u)), Value.int x5])) : Nat × va_E) := by rw [e_h19]; exact gm_self
    replace hU : gm_g h h19 [n, n + 1, n + 2, n + 3] := by rw [e_h19]; exact hU.put (by simp)
    have f_n_1_h19 : h19 (n + 1) = some ((a1, Sum.inl (cF, 4096, Sum.inr (Sum.inr (Sum.inr (Sum.inr (gr_g (gr_c F ms me sj) g1 (some fr) u)))))) : Nat × va_E) := by rw [e_h19]; exact gm_at f_n_1_w1 (by omega)
    have f_n_2_h19 : h19 (n + 2) = some ((a2, Sum.inl (cF, 4096, Sum.inr (Sum.inr (Sum.inr (Sum.inr (gr_g (gr_c F ms me sj) g2 none u)))))) : Nat × va_E) := by rw [e_h19]; exact gm_at f_n_2_w1 (by omega)
    have f_n_3_h19 : h19 (n + 3) = some ((a3, Sum.inl (cZ, 4096, Sum.inl f)) : Nat × va_E) := by rw [e_h19]; exact gm_at f_n_3_w1 (by omega)
    exact gz_vret hx hb hr hlocks hK Z (by decide) (by decide) (by rw [← hPQ]; exact ⟨rfl, hU, f_n_h19, f_n_1_h19, f_n_2_h19, f_n_3_h19⟩) d_Vi_replaceMerged_85
