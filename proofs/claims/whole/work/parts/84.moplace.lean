/-! place(f) of the reference over maps; rows printed by own text programs, but for the first -/
theorem gi32_lt {a b c : Int32} (h1 : a ≤ b) (h2 : b < c) : a < c := by
  rw [Int32.le_iff_toInt_le] at h1
  rw [Int32.lt_iff_toInt_lt] at h2 ⊢
  omega
theorem gi32_nlt {a b c : Int32} (h1 : a ≤ b) (h2 : ¬ a < c) : ¬ b < c := fun h => h2 (by
  rw [Int32.le_iff_toInt_le] at h1
  rw [Int32.lt_iff_toInt_lt] at h ⊢
  omega)
theorem gi32_ne {a c : Int32} (h : a < c) : ¬ a = c := fun e => by
  rw [e, Int32.lt_iff_toInt_lt] at h
  omega
theorem gi32_ne2 {a b c : Int32} (h1 : a ≤ b) (h2 : ¬ a < c) (h3 : ¬ a = c) : ¬ b = c := fun e => by
  rw [e, Int32.le_iff_toInt_le] at h1
  rw [Int32.lt_iff_toInt_lt] at h2
  rw [← Int32.toInt_inj] at h3
  omega
section GZW
variable {p : Program} {l : Launch} {e : Env} {R : Room} {s : State} {m : MethodId} {args : Array Value} {below : List Frame} {meth : Method} {c : Code} {cells slots : Nat} {Q : State → Prop} {D : va_G} {A : Nat → Prop} {pc : Nat}
/-- A LOOP whose measure falls -/
theorem gz_wf (I : Nat → gm_M → Array Slot → Prop)
    (step : ∀ (k : Nat) (h : gm_M) (H : Heap) (locs : List Loc) (ls : Array Slot), I k h ls → gz D A s.heap h H locs → (∀ (j : Nat) (h1 : gm_M) (H1 : Heap) (locs1 : List Loc) (ls1 : Array Slot), j < k → I j h1 ls1 → gz D A s.heap h1 H1 locs1 → W p l e R s m args below meth c H1 locs1 cells slots Q (F0 m pc ls1 [])) → W p l e R s m args below meth c H locs cells slots Q (F0 m pc ls [])) :
    ∀ (k : Nat) (h : gm_M) (H : Heap) (locs : List Loc) (ls : Array Slot), I k h ls → gz D A s.heap h H locs → W p l e R s m args below meth c H locs cells slots Q (F0 m pc ls []) := by
  intro k
  induction k using Nat.strongRecOn with
  | ind k ih =>
    intro h H locs ls hI Z
    exact step k h H locs ls hI Z (fun j h1 H1 locs1 ls1 hj hI1 Z1 => ih j hj h1 H1 locs1 ls1 hI1 Z1)
end GZW
set_option maxHeartbeats 4000000 in
set_option maxRecDepth 100000 in
theorem k_Mo_place (l : Launch) (htr : l.stackTraces = false) (D : va_G) (tys : List (ClassId × FieldType)) (z sz : Nat) (ws : va_W) (h : gm_M) (hM : gm_S h ws) (cI : ClassId) (q46 : Nat) (q47 : Nat) (q48 : Nat) (q49 : Nat) (q50 : Nat) (q51 : Nat) (q52 : Nat) (q53 : Nat) (q54 : Nat) (q62 : Nat) (q70 : Nat) (q78 : Nat) (q79 : Nat) (q80 : Nat) (q81 : Nat) (q82 : Nat) (q83 : Nat) (um : Value) (m_error : Int32) (m_thrown : Int32) (m_docs : Int32) (m_files : Int32) (m_actions : Int32) (m_power : Int32) (m_lost : Int32) (m_open : Int32) (m_isPrepared : Int32) (m_generation : Int32) (m_buffered : Int32) (m_limit : Int32) (m_factor : Int32) (m_merges : Int32) (m_opened : Int32) (m_chosenMany : Int32) (m_begun : Int32) (fnu : Nat → Nat) (ft : Nat) (p1 : Int32) (f_46 : h 46 = some ((q46, Sum.inr (8, [Value.int m_error, Value.int m_thrown, Value.ref q47, Value.ref q48, Value.ref q49, Value.int m_docs, Value.ref q50, Value.ref q51, Value.ref q52, Value.ref q53, Value.int (nI ft), Value.int m_files, Value.int m_actions, Value.int m_power, Value.int m_lost, Value.ref q54, Value.ref q62, Value.ref q70, Value.int m_open, Value.int m_isPrepared, Value.int m_generation, Value.ref q78, Value.ref q79, Value.int m_buffered, Value.int m_limit, Value.int m_factor, um, Value.ref q80, Value.ref q81, Value.ref q82, Value.int m_merges, Value.ref q83, Value.int m_opened, Value.int m_chosenMany, Value.int m_begun])) : Nat × va_E)) (f_50 : h 50 = some ((q50, Sum.inl (cI, 60000, Sum.inl (gi fnu))) : Nat × va_E)) (ht0 : tys[0]? = some ((cI, FieldType.int) : ClassId × FieldType)) (hft : ft ≤ 60000) (hmo : ∀ i j, i ≤ j → j < ft → nI (fnu i) ≤ nI (fnu j)) : gx_Met l y_Mo_place [Cond.code y_Mo_place b_Mo_place 5 (some .int)] { frames := 1, cells := 0, slots := 0, locals := 12 } (gx_P z sz D classes tys ws [Value.ref q46, Value.int p1]) (gx_Q D classes tys (va_A ws sz) (gm_p (fun r h' => (∃ j1 : Nat, r = Sum.inl (some (Value.int (nI j1))) ∧ h' = h ∧ (j1 < ft) ∧ (nI (fnu j1) = p1)) ∨ (r = Sum.inl (some (Value.int (-1))) ∧ h' = h ∧ (∀ i, i < ft → ¬ nI (fnu i) = p1))))) 0 0 (va_A ws sz) := by
  refine gx_ofW (cc := b_Mo_place) (maxL := 5) (ret := (some .int)) (by decide) rfl ?_
  intro p e s m args below meth c s₁ B hml hv
  obtain ⟨rfl, hsz, hz, hP, hK, hD0, hY⟩ := hv
  have hx := B.exec
  have hb := B.bytes
  have hr := B.returns
  have hts := hY.hts (#[Value.ref q46, Value.int p1] : Array Value)
  have hown : s.vm.findClass "CommitLedgerModel" = some m.cls := findClass_of_methodNamed B.named
  have hlocks := B.notSynchronized
  have hne : c.exceptionTable.isEmpty = true := B.noHandlers (atoms_spec (ws := [Cond.code y_Mo_place b_Mo_place 5 (some .int)]) B.pre _ List.mem_cons_self)
  subst hsz
  have hAz := gx_az hD0 hz
  have hD := hD0.self (sz := s.heap.size)
  have hN := gx_ns hP
  have hA : ∀ q : Nat, s.heap.size ≤ q → va_A ws s.heap.size q := fun q h => Or.inr h
  generalize va_A ws s.heap.size = A at hD hN hA hAz ⊢
  generalize hPQ : (fun (r : Option Value ⊕ String) (h' : gm_M) => (∃ j1 : Nat, r = Sum.inl (some (Value.int (nI j1))) ∧ h' = h ∧ (j1 < ft) ∧ (nI (fnu j1) = p1)) ∨ (r = Sum.inl (some (Value.int (-1))) ∧ h' = h ∧ (∀ i, i < ft → ¬ nI (fnu i) = p1))) = PQ
  have Z : gz D A s.heap h s.heap [] := ⟨ws, hM, hP, hD, va_S.rf⟩
  clear hP hD hM hD0
  have hU : gm_g h h [] := gm_g.rf
  have hl := lv_entry ([Value.ref q46, Value.int p1]) (n := 5) (Nat.le_of_ble_eq_true rfl)
  rw [lg_entry_eq]
  generalize (lg_sl ([Value.ref q46, Value.int p1]) ++ List.replicate (5 - (lg_sl ([Value.ref q46, Value.int p1])).length) Slot.unset).toArray = ls at hl ⊢
  have hl : lv_has ls 5 [(0, Value.ref q46), (1, Value.int p1)] := hl
  refine lv_iconst (v := 0) hx hb d_Mo_place_0 (by decide) ?_
  refine lv_istore_n (lv' := [(2, Value.int 0), (0, Value.ref q46), (1, Value.int p1)]) hx hb d_Mo_place_1 rfl hl (by decide) rfl (fun ls hl => ?_)
  refine lv_aload_n hx hb d_Mo_place_2 rfl (lv_at hl 1 rfl) ?_
  refine gz_get (ci := 8) (v := Value.int (nI ft)) (C := "CommitLedgerModel") (T := F_Mo) (N := 35) hx hb hts i_Mo hown hK Z f_46 rfl 10 (by decide) kf_Mo_93 rfl d_Mo_place_3 ?_
  refine lv_istore_n (lv' := [(3, Value.int (nI ft)), (2, Value.int 0), (0, Value.ref q46), (1, Value.int p1)]) hx hb d_Mo_place_6 rfl hl (by decide) rfl (fun ls hl => ?_)
  refine gz_wf (pc := 7) (fun m9 h9 ls => h9 = h ∧ ∃ lo hi : Nat, m9 = hi - lo ∧ lo ≤ hi ∧ hi ≤ ft ∧ (∀ i, i < lo → nI (fnu i) < p1) ∧ (∀ i, hi ≤ i → i < ft → ¬ nI (fnu i) < p1) ∧ lv_has ls 5 [(2, Value.int (nI lo)), (3, Value.int (nI hi)), (0, Value.ref q46), (1, Value.int p1)]) (fun m9 w H locs ls hI Z ih => ?_) (ft - 0) _ _ _ _ ⟨rfl, 0, ft, rfl, Nat.zero_le _, Nat.le_refl _, fun i h9 => absurd h9 (Nat.not_lt_zero i), fun i h9 h8 => absurd h8 (Nat.not_lt.mpr h9), lv_sub hl [1, 0, 2, 3] rfl⟩ Z
  obtain ⟨hU, lo, hi, hm9, h1, h2, h3, h4, hl⟩ := hI
  rw [hU] at Z
  have hU : gm_g h h [] := gm_g.rf
  refine lv_iload_n hx hb d_Mo_place_7 rfl (lv_at hl 0 rfl) ?_
  refine lv_iload_n hx hb d_Mo_place_8 rfl (lv_at hl 1 rfl) ?_
  refine lv_icmp_ge (tgt := 44) hx hb d_Mo_place_9 (by decide) (fun c9_1 => ?_) (fun c9_1 => ?_)
  · have he : lo = hi := by
      rcases Nat.lt_or_ge lo hi with h9 | h9
      · exact absurd c9_1 (nI_ge h9 (by omega))
      · omega
    refine lv_iload_n hx hb d_Mo_place_44 rfl (lv_at hl 0 rfl) ?_
    refine lv_aload_n hx hb d_Mo_place_45 rfl (lv_at hl 2 rfl) ?_
    refine gz_get (ci := 8) (v := Value.int (nI ft)) (C := "CommitLedgerModel") (T := F_Mo) (N := 35) hx hb hts i_Mo hown hK Z f_46 rfl 10 (by decide) kf_Mo_93 rfl d_Mo_place_46 ?_
    refine lv_icmp_ge (tgt := 66) hx hb d_Mo_place_49 (by decide) (fun c49_2 => ?_) (fun c49_2 => ?_)
    · have hall : ∀ i, i < ft → ¬ nI (fnu i) = p1 := fun i h9 => gi32_ne (h3 i (by have h8 := (nI_leI (by omega) (by omega)).mp c49_2; omega))
      refine lv_iconst (v := (-1)) hx hb d_Mo_place_66 (by decide) ?_
      exact gz_iret (v := (-1)) hx hb hr hlocks hK Z (by decide) (by decide) (by rw [← hPQ]; exact Or.inr (⟨rfl, rfl, hall⟩)) d_Mo_place_67
    · have hlf : lo < ft := Nat.not_le.mp (fun h9 => c49_2 (nI_le h9 (by omega)))
      refine lv_aload_n hx hb d_Mo_place_52 rfl (lv_at hl 2 rfl) ?_
      refine gz_get (ci := 8) (v := Value.ref q50) (C := "CommitLedgerModel") (T := F_Mo) (N := 35) hx hb hts i_Mo hown hK Z f_46 rfl 6 (by decide) kf_Mo_20 rfl d_Mo_place_53 ?_
      refine lv_iload_n hx hb d_Mo_place_56 rfl (lv_at hl 0 rfl) ?_
      refine gz_iald (j := lo) hx hb hK Z 0 f_50 ht0 ((by omega)) (rfl) (by decide) d_Mo_place_57 ?_
      refine gx_topi (y := nI (fnu lo)) rfl ?_
      refine lv_iload_n hx hb d_Mo_place_58 rfl (lv_at hl 3 rfl) ?_
      refine lv_icmp_ne (tgt := 66) hx hb d_Mo_place_59 (by decide) (fun c59_3 => ?_) (fun c59_3 => ?_)
      · have hall : ∀ i, i < ft → ¬ nI (fnu i) = p1 := fun i h9 => by
          rcases Nat.lt_or_ge i lo with h8 | h8
          · exact gi32_ne (h3 i h8)
          · exact gi32_ne2 (hmo lo i h8 h9) (h4 lo (by omega) hlf) c59_3
        refine lv_iconst (v := (-1)) hx hb d_Mo_place_66 (by decide) ?_
        exact gz_iret (v := (-1)) hx hb hr hlocks hK Z (by decide) (by decide) (by rw [← hPQ]; exact Or.inr (⟨rfl, rfl, hall⟩)) d_Mo_place_67
      · refine lv_iload_n hx hb d_Mo_place_62 rfl (lv_at hl 0 rfl) ?_
        refine lv_goto (tgt := 67) hx hb d_Mo_place_63 (by decide) ?_
        exact gz_iret (v := nI lo) hx hb hr hlocks hK Z (by decide) (by decide) (by rw [← hPQ]; exact Or.inl ⟨lo, rfl, rfl, hlf, c59_3⟩) d_Mo_place_67
  · have hlt : lo < hi := Nat.not_le.mp (fun h9 => c9_1 (nI_le h9 (by omega)))
    refine lv_iload_n hx hb d_Mo_place_12 rfl (lv_at hl 0 rfl) ?_
    refine lv_iload_n hx hb d_Mo_place_13 rfl (lv_at hl 1 rfl) ?_
    refine lv_iadd hx hb d_Mo_place_14 ?_
    refine gx_topi (y := nI (lo + hi)) (nI_add _ _) ?_
    refine lv_iconst (v := 2) hx hb d_Mo_place_15 (by decide) ?_
    refine lv_idiv hx hb d_Mo_place_16 (by decide) ?_
    refine gx_topi (y := nI ((lo + hi) / 2)) (show nI (lo + hi) / nI 2 = _ from pk_div (by omega) (by decide) (by decide)) ?_
    refine lv_istore (lv' := [(4, Value.int (nI ((lo + hi) / 2))), (2, Value.int (nI lo)), (3, Value.int (nI hi)), (0, Value.ref q46), (1, Value.int p1)]) hx hb d_Mo_place_17 hl (by decide) rfl (fun ls hl => ?_)
    refine lv_aload_n hx hb d_Mo_place_19 rfl (lv_at hl 3 rfl) ?_
    refine gz_get (ci := 8) (v := Value.ref q50) (C := "CommitLedgerModel") (T := F_Mo) (N := 35) hx hb hts i_Mo hown hK Z f_46 rfl 6 (by decide) kf_Mo_20 rfl d_Mo_place_20 ?_
    refine lv_iload hx hb d_Mo_place_23 (lv_at hl 0 rfl) ?_
    refine gz_iald (j := (lo + hi) / 2) hx hb hK Z 0 f_50 ht0 ((by omega)) (rfl) (by decide) d_Mo_place_25 ?_
    refine gx_topi (y := nI (fnu ((lo + hi) / 2))) rfl ?_
    refine lv_iload_n hx hb d_Mo_place_26 rfl (lv_at hl 4 rfl) ?_
    refine lv_icmp_ge (tgt := 38) hx hb d_Mo_place_27 (by decide) (fun c27_4 => ?_) (fun c27_4 => ?_)
    · refine lv_iload hx hb d_Mo_place_38 (lv_at hl 0 rfl) ?_
      refine lv_istore_n (lv' := [(3, Value.int (nI ((lo + hi) / 2))), (4, Value.int (nI ((lo + hi) / 2))), (2, Value.int (nI lo)), (0, Value.ref q46), (1, Value.int p1)]) hx hb d_Mo_place_40 rfl hl (by decide) rfl (fun ls hl => ?_)
      refine lv_goto (tgt := 7) hx hb d_Mo_place_41 (by decide) ?_
      have hc9 : ¬ nI (fnu ((lo + hi) / 2)) < p1 := Int32.not_lt.mpr c27_4
      exact ih (((lo + hi) / 2) - lo) _ _ _ _ (by omega) ⟨rfl, lo, (lo + hi) / 2, rfl, by omega, by omega, h3, fun i h9 h8 => gi32_nlt (hmo ((lo + hi) / 2) i h9 h8) hc9, lv_sub hl [2, 0, 3, 4] rfl⟩ Z
    · refine lv_iload hx hb d_Mo_place_30 (lv_at hl 0 rfl) ?_
      refine lv_iconst (v := 1) hx hb d_Mo_place_32 (by decide) ?_
      refine lv_iadd hx hb d_Mo_place_33 ?_
      refine gx_topi (y := nI ((lo + hi) / 2 + 1)) (nI_1 _) ?_
      refine lv_istore_n (lv' := [(2, Value.int (nI ((lo + hi) / 2 + 1))), (4, Value.int (nI ((lo + hi) / 2))), (3, Value.int (nI hi)), (0, Value.ref q46), (1, Value.int p1)]) hx hb d_Mo_place_34 rfl hl (by decide) rfl (fun ls hl => ?_)
      refine lv_goto (tgt := 41) hx hb d_Mo_place_35 (by decide) ?_
      refine lv_goto (tgt := 7) hx hb d_Mo_place_41 (by decide) ?_
      have hc9 : nI (fnu ((lo + hi) / 2)) < p1 := Int32.not_le.mp c27_4
      exact ih (hi - (((lo + hi) / 2) + 1)) _ _ _ _ (by omega) ⟨rfl, ((lo + hi) / 2) + 1, hi, rfl, by omega, h2, fun i h9 => gi32_lt (hmo i ((lo + hi) / 2) (by omega) (by omega)) hc9, h4, lv_sub hl [0, 2, 3, 4] rfl⟩ Z
