/-! CONTRACTS of small methods of CommitLedger, rows printed by an own text program -/
set_option maxHeartbeats 4000000 in
set_option maxRecDepth 100000 in
theorem c_Le_requireRange (l : Launch) (htr : l.stackTraces = false) (D : va_G) (tys : List (ClassId × FieldType)) (z sz : Nat) (ws : va_W) (a0 : Int32) (a1 : Int32) (a2 : Int32) : gx_Met l y_Le_requireRange [Cond.code y_Le_requireRange b_Le_requireRange 3 none] { frames := 6, cells := 1, slots := 6, locals := 82 } (gx_P z sz D classes tys ws [.int a0, .int a1, .int a2]) (gx_Q D classes tys (va_A ws sz) (fun r ws' => (r = .inl none ∧ ws' = ws ∧ ¬ a0 < a1 ∧ a0 ≤ a2) ∨ (r = .inr "java/lang/IllegalArgumentException" ∧ ws' = ws ∧ a0 < a1) ∨ (r = .inr "java/lang/IllegalArgumentException" ∧ ws' = ws ∧ ¬ a0 < a1 ∧ ¬ a0 ≤ a2))) 1 6 (va_A ws sz) := by
  refine gx_ofW (cc := b_Le_requireRange) (maxL := 3) (ret := none) (by decide) rfl ?_
  intro p e s m args below meth c s₁ B hml hv
  obtain ⟨rfl, hsz, hz, hP, hK, hD0, hY⟩ := hv
  have hx := B.exec
  have hb := B.bytes
  have hr := B.returns
  have hts := hY.hts (#[.int a0, .int a1, .int a2] : Array Value)
  have hown : s.vm.findClass "CommitLedger" = some m.cls := findClass_of_methodNamed B.named
  have hlocks := B.notSynchronized
  have hne : c.exceptionTable.isEmpty = true := B.noHandlers (atoms_spec (ws := [Cond.code y_Le_requireRange b_Le_requireRange 3 none]) B.pre _ List.mem_cons_self)
  subst hsz
  have hAz := gx_az hD0 hz
  have hD := hD0.self (sz := s.heap.size)
  have hN := gx_ns hP
  have hA : ∀ q : Nat, s.heap.size ≤ q → va_A ws s.heap.size q := fun q h => Or.inr h
  generalize va_A ws s.heap.size = A at hD hN hA hAz ⊢
  have hS : va_S A s.heap s.heap [] := va_S.rf
  have hl := lv_entry ([.int a0, .int a1, .int a2]) (n := 3) (Nat.le_of_ble_eq_true rfl)
  rw [lg_entry_eq]
  generalize (lg_sl ([.int a0, .int a1, .int a2]) ++ List.replicate (3 - (lg_sl ([.int a0, .int a1, .int a2])).length) Slot.unset).toArray = ls at hl ⊢
  have hl : lv_has ls 3 [(0, .int a0), (1, .int a1), (2, .int a2)] := hl
  refine lv_iload_n hx hb d_Le_requireRange_0 rfl (lv_at hl 0 rfl) ?_
  refine lv_iload_n hx hb d_Le_requireRange_1 rfl (lv_at hl 1 rfl) ?_
  refine lv_icmp_lt (tgt := 10) hx hb d_Le_requireRange_2 (by decide) (fun c2_1 => ?_) (fun c2_1 => ?_)
  · exact gx_thr (D := D) (cl := classes) (tys := tys) (ws := ws) (i1 := 7) (b1 := prog_15_method_2_code) hx hb htr (hml.trans hl.1.symm) hown hts hne hlocks hP hK hD hS hA hN kk_Le_191 kX_IllegalArgumentException kN_IllegalArgumentException ks_Le_193 kT_Le_195 (by decide) (by decide +kernel) (by decide +kernel) (by decide +kernel) (by decide +kernel) d_Le_requireRange_10 d_Le_requireRange_13 d_Le_requireRange_14 d_Le_requireRange_16 d_Le_requireRange_19 (Nat.le_of_ble_eq_true rfl) (Nat.le_of_ble_eq_true rfl) (Nat.le_of_ble_eq_true rfl) (Nat.le_of_ble_eq_true rfl) (by decide) (by decide) (Or.inr (Or.inl ⟨rfl, rfl, c2_1⟩))
  · refine lv_iload_n hx hb d_Le_requireRange_5 rfl (lv_at hl 0 rfl) ?_
    refine lv_iload_n hx hb d_Le_requireRange_6 rfl (lv_at hl 2 rfl) ?_
    refine lv_icmp_le (tgt := 20) hx hb d_Le_requireRange_7 (by decide) (fun c7_2 => ?_) (fun c7_2 => ?_)
    · refine W.widen (k := 1) (n := 6) (by decide) (by decide) ?_
      exact gx_ret (W.vret hx hb hr (gx_post hP hK hD hS (Or.inl ⟨rfl, rfl, c2_1, c7_2⟩)) hS.2.2 d_Le_requireRange_20)
    · exact gx_thr (D := D) (cl := classes) (tys := tys) (ws := ws) (i1 := 7) (b1 := prog_15_method_2_code) hx hb htr (hml.trans hl.1.symm) hown hts hne hlocks hP hK hD hS hA hN kk_Le_191 kX_IllegalArgumentException kN_IllegalArgumentException ks_Le_193 kT_Le_195 (by decide) (by decide +kernel) (by decide +kernel) (by decide +kernel) (by decide +kernel) d_Le_requireRange_10 d_Le_requireRange_13 d_Le_requireRange_14 d_Le_requireRange_16 d_Le_requireRange_19 (Nat.le_of_ble_eq_true rfl) (Nat.le_of_ble_eq_true rfl) (Nat.le_of_ble_eq_true rfl) (Nat.le_of_ble_eq_true rfl) (by decide) (by decide) (Or.inr (Or.inr (⟨rfl, rfl, c2_1, c7_2⟩)))
