/-! firstByPolicy over maps; rows printed by own text programs, but for the first -/
theorem gp_ix {i fa : Nat} (h : fa ≤ i + 1) : nI i - nI fa + 1 = nI (i + 1 - fa) := by
  rw [← pk_sub h, ← nI_1, Int32.sub_eq_add_neg, Int32.sub_eq_add_neg, Int32.add_assoc, Int32.add_comm (-nI fa) 1, ← Int32.add_assoc]
/-- the segment i fits at the level l -/
def gp_f (f : Nat → Int32) (F M : Nat → Nat → Nat) (p : Nat → Nat) (rr fa : Nat) (sj : Nat → Nat) (l i : Nat) : Bool := decide (nI (gq_mo M p (F (sj i) 5) rr 0) = 0 ∧ ¬ nI l < nI (gl fa (gv_n f (F (sj i) 5) (F (sj i) 6 - F (sj i) 5)) 12 0))
theorem gp_y {f : Nat → Int32} {F M : Nat → Nat → Nat} {p : Nat → Nat} {rr fa : Nat} {sj : Nat → Nat} {l i : Nat} (c1 : nI (gq_mo M p (F (sj i) 5) rr 0) = 0) (c2 : ¬ nI l < nI (gl fa (gv_n f (F (sj i) 5) (F (sj i) 6 - F (sj i) 5)) 12 0)) : gp_f f F M p rr fa sj l i = true := decide_eq_true ⟨c1, c2⟩
theorem gp_n1 {f : Nat → Int32} {F M : Nat → Nat → Nat} {p : Nat → Nat} {rr fa : Nat} {sj : Nat → Nat} {l i : Nat} (c : ¬ nI (gq_mo M p (F (sj i) 5) rr 0) = 0) : ¬ gp_f f F M p rr fa sj l i = true := fun e => c (of_decide_eq_true e).1
theorem gp_n2 {f : Nat → Int32} {F M : Nat → Nat → Nat} {p : Nat → Nat} {rr fa : Nat} {sj : Nat → Nat} {l i : Nat} (c : nI l < nI (gl fa (gv_n f (F (sj i) 5) (F (sj i) 6 - F (sj i) 5)) 12 0)) : ¬ gp_f f F M p rr fa sj l i = true := fun e => (of_decide_eq_true e).2 c
theorem gp_z {fa : Nat} (h : 2 ≤ fa ∧ fa ≤ 64) : ¬ (0 : Int32) = nI fa := fun e => nI_ne0 (by omega) (by omega) e.symm
set_option maxHeartbeats 4000000 in
set_option maxRecDepth 100000 in
theorem k_Le_firstByPolicy (l : Launch) (htr : l.stackTraces = false) (D : va_G) (tys : List (ClassId × FieldType)) (z sz : Nat) (ws : va_W) (h : gm_M) (hM : gm_S h ws) (cZ : ClassId) (cF : ClassId) (cM : ClassId) (q0 : Nat) (q1 : Nat) (q5 : Nat) (q8 : Nat) (q20 : Nat) (q25 : Nat) (ec : Value) (ep : Value) (l7 : Int32) (l8 : Int32) (l9 : Int32) (l10 : Int32) (l13 : Int32) (l14 : Int32) (l15 : Int32) (l16 : Int32) (l17 : Int32) (q9 : Nat) (q10 : Nat) (q11 : Nat) (u : Nat) (e0 : Value) (x5 : Int32) (g1 : Nat → Option Nat) (g2 : Nat → Option Nat) (gp : Nat → Option Nat) (f : Nat → Int32) (sj : Nat → Nat) (pi : Nat → Nat) (rr : Nat) (fa : Nat) (qm : Nat → Nat) (M : Nat → Nat → Nat) (mf : Nat → Option Nat) (P : Nat → Prop) (F : Nat → Nat → Nat) (f_0 : h 0 = some ((q0, Sum.inr (0, [Value.ref q1, Value.ref q5, Value.ref q8, Value.ref q20, Value.ref q25, ec, ep, Value.int l7, Value.int l8, Value.int l9, Value.int l10, Value.int (nI fa), Value.int (nI rr), Value.int l13, Value.int l14, Value.int l15, Value.int l16, Value.int l17])) : Nat × va_E)) (f_20 : h 20 = some ((q20, Sum.inl (cM, 4, Sum.inr (Sum.inr (Sum.inr (Sum.inr gp))))) : Nat × va_E)) (f_8 : h 8 = some ((q8, Sum.inr (4, [Value.ref q9, Value.ref q10, Value.ref q11, e0, Value.int (nI u), Value.int x5])) : Nat × va_E)) (f_9 : h 9 = some ((q9, Sum.inl (cF, 4096, Sum.inr (Sum.inr (Sum.inr (Sum.inr g1))))) : Nat × va_E)) (f_10 : h 10 = some ((q10, Sum.inl (cF, 4096, Sum.inr (Sum.inr (Sum.inr (Sum.inr g2))))) : Nat × va_E)) (f_11 : h 11 = some ((q11, Sum.inl (cZ, 4096, Sum.inl f)) : Nat × va_E)) (ht1 : tys[1]? = some ((cZ, FieldType.boolean) : ClassId × FieldType)) (ht2 : tys[2]? = some ((cF, FieldType.object "CommitLedger$LedgerFile") : ClassId × FieldType)) (ht3 : tys[3]? = some ((cM, FieldType.object "CommitLedger$Merge") : ClassId × FieldType)) (fam : gf_F P F h) (mfam : gM_F qm M mf h) (hrr : rr ≤ 4) (hgp : ∀ i, i < 4 → gp i = some (qm (pi i)) ∧ pi i < 4) (hu : u ≤ 4096) (hsg : ∀ i, i < u → g1 i = some (sj i) ∧ P (sj i)) (hs9 : ∀ x, P x → F x 5 ≤ 4096 ∧ F x 6 ≤ 4096) (hfa : 2 ≤ fa ∧ fa ≤ 64) : gx_Met l y_Le_firstByPolicy [Cond.code y_Le_firstByPolicy b_Le_firstByPolicy 6 (some .int)] { frames := 4, cells := 0, slots := 0, locals := 81 } (gx_P z sz D classes tys ws [Value.ref q0]) (gx_Q D classes tys (va_A ws sz) (gm_p (fun r h' => (∃ qk : Nat, ∃ qi : Nat, r = Sum.inl (some (Value.int (nI (qi + 1 - fa)))) ∧ h' = h ∧ (qk < 13) ∧ (qi < u) ∧ (gw (gp_f f F M pi rr fa sj qk) (qi + 1) = fa) ∧ (∀ j, j < qi → ¬ gw (gp_f f F M pi rr fa sj qk) (j + 1) = fa) ∧ (∀ l, l < qk → ∀ j, j < u → ¬ gw (gp_f f F M pi rr fa sj l) (j + 1) = fa)) ∨ (r = Sum.inl (some (Value.int (-1))) ∧ h' = h ∧ (∀ l, l < 13 → ∀ j, j < u → ¬ gw (gp_f f F M pi rr fa sj l) (j + 1) = fa))))) 0 0 (va_A ws sz) := by
  refine gx_ofW (cc := b_Le_firstByPolicy) (maxL := 6) (ret := (some .int)) (by decide) rfl ?_
  intro p e s m args below meth c s₁ B hml hv
  obtain ⟨rfl, hsz, hz, hP, hK, hD0, hY⟩ := hv
  have hx := B.exec
  have hb := B.bytes
  have hr := B.returns
  have hts := hY.hts (#[Value.ref q0] : Array Value)
  have hown : s.vm.findClass "CommitLedger" = some m.cls := findClass_of_methodNamed B.named
  have hlocks := B.notSynchronized
  have hne : c.exceptionTable.isEmpty = true := B.noHandlers (atoms_spec (ws := [Cond.code y_Le_firstByPolicy b_Le_firstByPolicy 6 (some .int)]) B.pre _ List.mem_cons_self)
  subst hsz
  have hAz := gx_az hD0 hz
  have hD := hD0.self (sz := s.heap.size)
  have hN := gx_ns hP
  have hA : ∀ q : Nat, s.heap.size ≤ q → va_A ws s.heap.size q := fun q h => Or.inr h
  generalize va_A ws s.heap.size = A at hD hN hA hAz ⊢
  generalize hPQ : (fun (r : Option Value ⊕ String) (h' : gm_M) => (∃ qk : Nat, ∃ qi : Nat, r = Sum.inl (some (Value.int (nI (qi + 1 - fa)))) ∧ h' = h ∧ (qk < 13) ∧ (qi < u) ∧ (gw (gp_f f F M pi rr fa sj qk) (qi + 1) = fa) ∧ (∀ j, j < qi → ¬ gw (gp_f f F M pi rr fa sj qk) (j + 1) = fa) ∧ (∀ l, l < qk → ∀ j, j < u → ¬ gw (gp_f f F M pi rr fa sj l) (j + 1) = fa)) ∨ (r = Sum.inl (some (Value.int (-1))) ∧ h' = h ∧ (∀ l, l < 13 → ∀ j, j < u → ¬ gw (gp_f f F M pi rr fa sj l) (j + 1) = fa))) = PQ
  have Z : gz D A s.heap h s.heap [] := ⟨ws, hM, hP, hD, va_S.rf⟩
  clear hP hD hM hD0
  have hU : gm_g h h [] := gm_g.rf
  have hl := lv_entry ([Value.ref q0]) (n := 6) (Nat.le_of_ble_eq_true rfl)
  rw [lg_entry_eq]
  generalize (lg_sl ([Value.ref q0]) ++ List.replicate (6 - (lg_sl ([Value.ref q0])).length) Slot.unset).toArray = ls at hl ⊢
  have hl : lv_has ls 6 [(0, Value.ref q0)] := hl
  refine lv_iconst (v := 0) hx hb d_Le_firstByPolicy_0 (by decide) ?_
  refine lv_istore_n (lv' := [(1, Value.int 0), (0, Value.ref q0)]) hx hb d_Le_firstByPolicy_1 rfl hl (by decide) rfl (fun ls hl => ?_)
  refine gz_loop (N := 13) (pc := 2) (fun _ => 0) (fun _ => 0) (fun k h9 ls => h9 = h ∧ (∀ l, l < k → ∀ j, j < u → ¬ gw (gp_f f F M pi rr fa sj l) (j + 1) = fa) ∧ lv_has ls 6 [(1, Value.int (nI k)), (0, Value.ref q0)]) (fun k w1 H locs ls hk hI Z ihk => ?_) (fun w1 H locs ls hI Z => ?_) (13) 0 _ _ _ _ (Nat.zero_add _) ⟨rfl, fun l h9 => absurd h9 (Nat.not_lt_zero l), lv_sub hl [0, 1] rfl⟩ Z
  · obtain ⟨hU, hj8, hl⟩ := hI
    rw [hU] at Z
    have hU : gm_g h h [] := gm_g.rf
    refine lv_iload_n hx hb d_Le_firstByPolicy_2 rfl (lv_at hl 0 rfl) ?_
    refine lv_bipush (v := 12) hx hb d_Le_firstByPolicy_3 (by decide) ?_
    refine lv_icmp_gt (tgt := 102) hx hb d_Le_firstByPolicy_5 (by decide) (fun c9 => absurd c9 (show ¬ nI 12 < nI k from nI_nlt (by omega) (by decide))) (fun _ => ?_)
    refine lv_iconst (v := 0) hx hb d_Le_firstByPolicy_8 (by decide) ?_
    refine lv_istore_n (lv' := [(2, Value.int 0), (1, Value.int (nI k)), (0, Value.ref q0)]) hx hb d_Le_firstByPolicy_9 rfl hl (by decide) rfl (fun ls hl => ?_)
    refine lv_iconst (v := 0) hx hb d_Le_firstByPolicy_10 (by decide) ?_
    refine lv_istore_n (lv' := [(3, Value.int 0), (2, Value.int 0), (1, Value.int (nI k)), (0, Value.ref q0)]) hx hb d_Le_firstByPolicy_11 rfl hl (by decide) rfl (fun ls hl => ?_)
    have hl : lv_has ls 6 [(3, Value.int (nI 0)), (2, Value.int (nI (gw (gp_f f F M pi rr fa sj k) 0))), (1, Value.int (nI k)), (0, Value.ref q0)] := hl
    refine gz_loop (N := u) (pc := 12) (fun _ => 0) (fun _ => 0) (fun i h9 ls => h9 = h ∧ (∀ j, j < i → ¬ gw (gp_f f F M pi rr fa sj k) (j + 1) = fa) ∧ lv_has ls 6 [(3, Value.int (nI i)), (2, Value.int (nI (gw (gp_f f F M pi rr fa sj k) i))), (1, Value.int (nI k)), (0, Value.ref q0)]) (fun i w3 H locs ls hi hI Z ihi => ?_) (fun w3 H locs ls hI Z => ?_) (u) 0 _ _ _ _ (Nat.zero_add _) ⟨rfl, fun j h9 => absurd h9 (Nat.not_lt_zero j), lv_sub hl [0, 1, 2, 3] rfl⟩ Z
    · obtain ⟨hU, hj9, hl⟩ := hI
      rw [hU] at Z
      have hU : gm_g h h [] := gm_g.rf
      refine lv_iload_n hx hb d_Le_firstByPolicy_12 rfl (lv_at hl 0 rfl) ?_
      refine lv_aload_n hx hb d_Le_firstByPolicy_13 rfl (lv_at hl 3 rfl) ?_
      refine gz_get (ci := 0) (v := Value.ref q8) (C := "CommitLedger") (T := F_Le) (N := 18) hx hb hts i_Le hown hK Z f_0 rfl 2 (by decide) kf_Le_26 rfl d_Le_firstByPolicy_14 ?_
      refine gz_get (ci := 4) (v := Value.int (nI u)) (C := "CommitLedger$View") (T := F_Vi) (N := 6) hx hb hts i_Vi hown hK Z f_8 rfl 4 (by decide) kf_Le_109 rfl d_Le_firstByPolicy_17 ?_
      refine lv_icmp_ge (tgt := 96) hx hb d_Le_firstByPolicy_20 (by decide) (fun c9 => absurd c9 (nI_ge hi (by omega))) (fun _ => ?_)
      refine lv_aload_n hx hb d_Le_firstByPolicy_23 rfl (lv_at hl 3 rfl) ?_
      refine gz_get (ci := 0) (v := Value.ref q8) (C := "CommitLedger") (T := F_Le) (N := 18) hx hb hts i_Le hown hK Z f_0 rfl 2 (by decide) kf_Le_26 rfl d_Le_firstByPolicy_24 ?_
      refine gz_get (ci := 4) (v := Value.ref q9) (C := "CommitLedger$View") (T := F_Vi) (N := 6) hx hb hts i_Vi hown hK Z f_8 rfl 0 (by decide) kf_Le_254 rfl d_Le_firstByPolicy_27 ?_
      refine lv_iload_n hx hb d_Le_firstByPolicy_30 rfl (lv_at hl 0 rfl) ?_
      refine gz_aald (v := Value.ref (sj i)) (j := i) hx hb hK Z 2 f_9 ht2 (by omega) (rfl) (by decide) (by rw [(hsg i hi).1]; rfl) d_Le_firstByPolicy_31 ?_
      refine lv_astore (lv' := [(4, Value.ref (sj i)), (3, Value.int (nI i)), (2, Value.int (nI (gw (gp_f f F M pi rr fa sj k) i))), (1, Value.int (nI k)), (0, Value.ref q0)]) hx hb d_Le_firstByPolicy_32 hl (by decide) rfl (fun ls hl => ?_)
      refine lv_aload_n hx hb d_Le_firstByPolicy_34 rfl (lv_at hl 4 rfl) ?_
      refine lv_aload hx hb d_Le_firstByPolicy_35 (lv_at hl 0 rfl) ?_
      refine gz_call (ig := .invokevirtual 268) (av := [Value.ref q0, Value.ref (sj i)]) Z (fun ws hM => k_Le_mergeOf l htr D tys z _ ws h hM cM q0 q1 q5 q8 q20 q25 (ec) (ep) l7 l8 l9 l10 (nI fa) l13 l14 l15 l16 l17 rr (sj i) gp pi qm M mf P F f_0 f_20 ht3 fam mfam hrr hgp (hsg i hi).2) (gx_invV (As := [Value.ref (sj i)]) (rest := []) hx hb hown hts km_Le_268 kI_Le_mergeOf kV_Le_mergeOf kc_Le_mergeOf (by decide) (show (parseMethodDescriptor y_Le_mergeOf.desc).map (fun d => d.parameters.length) = some 1 by decide +kernel) (gz_recv (ci := 0) hK Z rfl f_0) rfl rfl d_Le_firstByPolicy_37) (gx_cw (z := 0) hts kc_Le_mergeOf kN_Le rfl rfl ⟨Nat.le_of_ble_eq_true rfl, Nat.le_of_ble_eq_true rfl⟩) hb hml hz hK hY hAz hA hl.1 (lv_room (Nat.le_of_ble_eq_true rfl)) d_Le_firstByPolicy_37 ⟨Nat.le_of_ble_eq_true rfl, Nat.le_of_ble_eq_true rfl⟩ (fun v5 h6 H locs hp Z => ?_) (fun x5 E9 ce h6 H locs hp hce Z => ?_)
      · rcases hp with ⟨hv9, e_h6⟩
        cases hv9
        rw [e_h6] at Z
        refine W.eq (g2 := F0 m 40 ls [Value.int (nI (gq_mo M pi (F (sj i) 5) rr 0))]) rfl ?_
        refine lv_if_ne (tgt := 57) hx hb d_Le_firstByPolicy_40 (by decide) (fun c40_7 => ?_) (fun c40_7 => ?_)
        · refine lv_iconst (v := 0) hx hb d_Le_firstByPolicy_57 (by decide) ?_
          refine lv_istore (lv' := [(5, Value.int 0), (4, Value.ref (sj i)), (3, Value.int (nI i)), (2, Value.int (nI (gw (gp_f f F M pi rr fa sj k) i))), (1, Value.int (nI k)), (0, Value.ref q0)]) hx hb d_Le_firstByPolicy_58 hl (by decide) rfl (fun ls hl => ?_)
          refine lv_iload hx hb d_Le_firstByPolicy_60 (lv_at hl 0 rfl) ?_
          refine lv_if_eq (tgt := 71) hx hb d_Le_firstByPolicy_62 (by decide) (fun _ => ?_) (fun c9 => absurd (by decide) c9)
          refine lv_iconst (v := 0) hx hb d_Le_firstByPolicy_71 (by decide) ?_
          refine lv_istore_n (lv' := [(2, Value.int 0), (5, Value.int 0), (4, Value.ref (sj i)), (3, Value.int (nI i)), (1, Value.int (nI k)), (0, Value.ref q0)]) hx hb d_Le_firstByPolicy_72 rfl hl (by decide) rfl (fun ls hl => ?_)
          refine lv_iload_n hx hb d_Le_firstByPolicy_73 rfl (lv_at hl 0 rfl) ?_
          refine lv_aload_n hx hb d_Le_firstByPolicy_74 rfl (lv_at hl 5 rfl) ?_
          refine gz_get (ci := 0) (v := Value.int (nI fa)) (C := "CommitLedger") (T := F_Le) (N := 18) hx hb hts i_Le hown hK Z f_0 rfl 11 (by decide) kf_Le_54 rfl d_Le_firstByPolicy_75 ?_
          refine lv_icmp_ne (tgt := 90) hx hb d_Le_firstByPolicy_78 (by decide) (fun _ => ?_) (fun c9 => absurd c9 (gp_z hfa))
          refine lv_iinc (v := nI (i + 1)) (lv' := [(3, Value.int (nI (i + 1))), (2, Value.int 0), (5, Value.int 0), (4, Value.ref (sj i)), (1, Value.int (nI k)), (0, Value.ref q0)]) hx hb d_Le_firstByPolicy_90 hl (k := 3) rfl (show nI i + 1 = nI (i + 1) from nI_1 _) (by decide) rfl (fun ls hl => ?_)
          refine lv_goto (tgt := 12) hx hb d_Le_firstByPolicy_93 (by decide) ?_
          have hft : ¬ (gp_f f F M pi rr fa sj k) i = true := gp_n1 c40_7
          rw [show (0 : Int32) = nI (gw (gp_f f F M pi rr fa sj k) (i + 1)) from by rw [gw_n hft]; rfl] at hl
          exact ihi _ _ _ _ ⟨rfl, gv_more0 hj9 (fun e9 => by rw [gw_n hft] at e9; omega), lv_sub hl [0, 1, 4, 5] rfl⟩ Z
        · refine lv_aload_n hx hb d_Le_firstByPolicy_43 rfl (lv_at hl 4 rfl) ?_
          refine lv_aload hx hb d_Le_firstByPolicy_44 (lv_at hl 0 rfl) ?_
          refine gz_call (ig := .invokevirtual 265) (av := [Value.ref q0, Value.ref (sj i)]) Z (fun ws hM => k_Le_levelOf l htr D tys z _ ws h hM cZ cF q0 q1 q5 q8 q20 q25 (ec) (ep) l7 l8 l9 l10 (nI rr) l13 l14 l15 l16 l17 q9 q10 q11 u (e0) x5 g1 g2 f fa (sj i) P F f_0 f_8 f_9 f_10 f_11 ht1 ht2 fam hfa (hsg i hi).2 (by first | assumption | decide | omega) (hs9 (sj i) (hsg i hi).2).2) (gx_invV (As := [Value.ref (sj i)]) (rest := []) hx hb hown hts km_Le_265 kI_Le_levelOf kV_Le_levelOf kc_Le_levelOf (by decide) (show (parseMethodDescriptor y_Le_levelOf.desc).map (fun d => d.parameters.length) = some 1 by decide +kernel) (gz_recv (ci := 0) hK Z rfl f_0) rfl rfl d_Le_firstByPolicy_46) (gx_cw (z := 0) hts kc_Le_levelOf kN_Le rfl rfl ⟨Nat.le_of_ble_eq_true rfl, Nat.le_of_ble_eq_true rfl⟩) hb hml hz hK hY hAz hA hl.1 (lv_room (Nat.le_of_ble_eq_true rfl)) d_Le_firstByPolicy_46 ⟨Nat.le_of_ble_eq_true rfl, Nat.le_of_ble_eq_true rfl⟩ (fun v9 h10 H locs hp Z => ?_) (fun x9 E9 ce h10 H locs hp hce Z => ?_)
          · rcases hp with ⟨hv9, e_h10⟩
            cases hv9
            rw [e_h10] at Z
            refine W.eq (g2 := F0 m 49 ls [Value.int (nI (gl fa (gv_n f (F (sj i) 5) (F (sj i) 6 - F (sj i) 5)) 12 0))]) rfl ?_
            refine lv_iload_n hx hb d_Le_firstByPolicy_49 rfl (lv_at hl 3 rfl) ?_
            refine lv_icmp_gt (tgt := 57) hx hb d_Le_firstByPolicy_50 (by decide) (fun c50_11 => ?_) (fun c50_11 => ?_)
            · refine lv_iconst (v := 0) hx hb d_Le_firstByPolicy_57 (by decide) ?_
              refine lv_istore (lv' := [(5, Value.int 0), (4, Value.ref (sj i)), (3, Value.int (nI i)), (2, Value.int (nI (gw (gp_f f F M pi rr fa sj k) i))), (1, Value.int (nI k)), (0, Value.ref q0)]) hx hb d_Le_firstByPolicy_58 hl (by decide) rfl (fun ls hl => ?_)
              refine lv_iload hx hb d_Le_firstByPolicy_60 (lv_at hl 0 rfl) ?_
              refine lv_if_eq (tgt := 71) hx hb d_Le_firstByPolicy_62 (by decide) (fun _ => ?_) (fun c9 => absurd (by decide) c9)
              refine lv_iconst (v := 0) hx hb d_Le_firstByPolicy_71 (by decide) ?_
              refine lv_istore_n (lv' := [(2, Value.int 0), (5, Value.int 0), (4, Value.ref (sj i)), (3, Value.int (nI i)), (1, Value.int (nI k)), (0, Value.ref q0)]) hx hb d_Le_firstByPolicy_72 rfl hl (by decide) rfl (fun ls hl => ?_)
              refine lv_iload_n hx hb d_Le_firstByPolicy_73 rfl (lv_at hl 0 rfl) ?_
              refine lv_aload_n hx hb d_Le_firstByPolicy_74 rfl (lv_at hl 5 rfl) ?_
              refine gz_get (ci := 0) (v := Value.int (nI fa)) (C := "CommitLedger") (T := F_Le) (N := 18) hx hb hts i_Le hown hK Z f_0 rfl 11 (by decide) kf_Le_54 rfl d_Le_firstByPolicy_75 ?_
              refine lv_icmp_ne (tgt := 90) hx hb d_Le_firstByPolicy_78 (by decide) (fun _ => ?_) (fun c9 => absurd c9 (gp_z hfa))
              refine lv_iinc (v := nI (i + 1)) (lv' := [(3, Value.int (nI (i + 1))), (2, Value.int 0), (5, Value.int 0), (4, Value.ref (sj i)), (1, Value.int (nI k)), (0, Value.ref q0)]) hx hb d_Le_firstByPolicy_90 hl (k := 3) rfl (show nI i + 1 = nI (i + 1) from nI_1 _) (by decide) rfl (fun ls hl => ?_)
              refine lv_goto (tgt := 12) hx hb d_Le_firstByPolicy_93 (by decide) ?_
              have hft : ¬ (gp_f f F M pi rr fa sj k) i = true := gp_n2 c50_11
              rw [show (0 : Int32) = nI (gw (gp_f f F M pi rr fa sj k) (i + 1)) from by rw [gw_n hft]; rfl] at hl
              exact ihi _ _ _ _ ⟨rfl, gv_more0 hj9 (fun e9 => by rw [gw_n hft] at e9; omega), lv_sub hl [0, 1, 4, 5] rfl⟩ Z
            · refine lv_iconst (v := 1) hx hb d_Le_firstByPolicy_53 (by decide) ?_
              refine lv_goto (tgt := 58) hx hb d_Le_firstByPolicy_54 (by decide) ?_
              refine lv_istore (lv' := [(5, Value.int 1), (4, Value.ref (sj i)), (3, Value.int (nI i)), (2, Value.int (nI (gw (gp_f f F M pi rr fa sj k) i))), (1, Value.int (nI k)), (0, Value.ref q0)]) hx hb d_Le_firstByPolicy_58 hl (by decide) rfl (fun ls hl => ?_)
              refine lv_iload hx hb d_Le_firstByPolicy_60 (lv_at hl 0 rfl) ?_
              refine lv_if_eq (tgt := 71) hx hb d_Le_firstByPolicy_62 (by decide) (fun c9 => absurd c9 (by decide)) (fun _ => ?_)
              refine lv_iload_n hx hb d_Le_firstByPolicy_65 rfl (lv_at hl 3 rfl) ?_
              refine lv_iconst (v := 1) hx hb d_Le_firstByPolicy_66 (by decide) ?_
              refine lv_iadd hx hb d_Le_firstByPolicy_67 ?_
              refine gx_topi (y := nI (gw (gp_f f F M pi rr fa sj k) i + 1)) (nI_1 _) ?_
              refine lv_goto (tgt := 72) hx hb d_Le_firstByPolicy_68 (by decide) ?_
              refine lv_istore_n (lv' := [(2, Value.int (nI (gw (gp_f f F M pi rr fa sj k) i + 1))), (5, Value.int 1), (4, Value.ref (sj i)), (3, Value.int (nI i)), (1, Value.int (nI k)), (0, Value.ref q0)]) hx hb d_Le_firstByPolicy_72 rfl hl (by decide) rfl (fun ls hl => ?_)
              refine lv_iload_n hx hb d_Le_firstByPolicy_73 rfl (lv_at hl 0 rfl) ?_
              refine lv_aload_n hx hb d_Le_firstByPolicy_74 rfl (lv_at hl 5 rfl) ?_
              refine gz_get (ci := 0) (v := Value.int (nI fa)) (C := "CommitLedger") (T := F_Le) (N := 18) hx hb hts i_Le hown hK Z f_0 rfl 11 (by decide) kf_Le_54 rfl d_Le_firstByPolicy_75 ?_
              refine lv_icmp_ne (tgt := 90) hx hb d_Le_firstByPolicy_78 (by decide) (fun c78_13 => ?_) (fun c78_13 => ?_)
              · refine lv_iinc (v := nI (i + 1)) (lv' := [(3, Value.int (nI (i + 1))), (2, Value.int (nI (gw (gp_f f F M pi rr fa sj k) i + 1))), (5, Value.int 1), (4, Value.ref (sj i)), (1, Value.int (nI k)), (0, Value.ref q0)]) hx hb d_Le_firstByPolicy_90 hl (k := 3) rfl (show nI i + 1 = nI (i + 1) from nI_1 _) (by decide) rfl (fun ls hl => ?_)
                refine lv_goto (tgt := 12) hx hb d_Le_firstByPolicy_93 (by decide) ?_
                have hft : (gp_f f F M pi rr fa sj k) i = true := gp_y c40_7 c50_11
                rw [← gw_y hft] at hl
                exact ihi _ _ _ _ ⟨rfl, gv_more0 hj9 (fun e9 => c78_13 (by rw [gw_y hft] at e9; rw [e9])), lv_sub hl [0, 1, 4, 5] rfl⟩ Z
              · have hft : (gp_f f F M pi rr fa sj k) i = true := gp_y c40_7 c50_11
                have hq9 : gw (gp_f f F M pi rr fa sj k) (i + 1) = fa := by
                  have h9 := gw_le (c := (gp_f f F M pi rr fa sj k)) i
                  rw [gw_y hft]
                  exact (nI_eq (by omega) (by omega)).mp c78_13
                refine lv_iload_n hx hb d_Le_firstByPolicy_81 rfl (lv_at hl 3 rfl) ?_
                refine lv_aload_n hx hb d_Le_firstByPolicy_82 rfl (lv_at hl 5 rfl) ?_
                refine gz_get (ci := 0) (v := Value.int (nI fa)) (C := "CommitLedger") (T := F_Le) (N := 18) hx hb hts i_Le hown hK Z f_0 rfl 11 (by decide) kf_Le_54 rfl d_Le_firstByPolicy_83 ?_
                refine lv_isub hx hb d_Le_firstByPolicy_86 ?_
                refine lv_iconst (v := 1) hx hb d_Le_firstByPolicy_87 (by decide) ?_
                refine lv_iadd hx hb d_Le_firstByPolicy_88 ?_
                refine gx_topi (y := nI (i + 1 - fa)) (gp_ix (by have h9 := gw_le (c := (gp_f f F M pi rr fa sj k)) (i + 1); omega)) ?_
                exact gz_iret (v := nI (i + 1 - fa)) hx hb hr hlocks hK Z (by decide) (by decide) (by rw [← hPQ]; exact Or.inl ⟨k, i, rfl, rfl, hk, hi, hq9, hj9, hj8⟩) d_Le_firstByPolicy_89
          · rcases hp with ⟨hv9, e_h10⟩
            cases hv9
      · rcases hp with ⟨hv9, e_h6⟩
        cases hv9
    · obtain ⟨hU, hj9, hl⟩ := hI
      rw [hU] at Z
      have hU : gm_g h h [] := gm_g.rf
      refine lv_iload_n hx hb d_Le_firstByPolicy_12 rfl (lv_at hl 0 rfl) ?_
      refine lv_aload_n hx hb d_Le_firstByPolicy_13 rfl (lv_at hl 3 rfl) ?_
      refine gz_get (ci := 0) (v := Value.ref q8) (C := "CommitLedger") (T := F_Le) (N := 18) hx hb hts i_Le hown hK Z f_0 rfl 2 (by decide) kf_Le_26 rfl d_Le_firstByPolicy_14 ?_
      refine gz_get (ci := 4) (v := Value.int (nI u)) (C := "CommitLedger$View") (T := F_Vi) (N := 6) hx hb hts i_Vi hown hK Z f_8 rfl 4 (by decide) kf_Le_109 rfl d_Le_firstByPolicy_17 ?_
      refine lv_icmp_ge (tgt := 96) hx hb d_Le_firstByPolicy_20 (by decide) (fun _ => ?_) (fun c9 => absurd (nI_le (Nat.le_refl _) (by omega)) c9)
      refine lv_iinc (v := nI (k + 1)) (lv' := [(1, Value.int (nI (k + 1))), (3, Value.int (nI u)), (2, Value.int (nI (gw (gp_f f F M pi rr fa sj k) u))), (0, Value.ref q0)]) hx hb d_Le_firstByPolicy_96 hl (k := 2) rfl (show nI k + 1 = nI (k + 1) from nI_1 _) (by decide) rfl (fun ls hl => ?_)
      refine lv_goto (tgt := 2) hx hb d_Le_firstByPolicy_99 (by decide) ?_
      exact ihk _ _ _ _ ⟨rfl, gv_more0 hj8 hj9, lv_sub hl [0, 3] rfl⟩ Z
  · obtain ⟨hU, hj8, hl⟩ := hI
    rw [hU] at Z
    have hU : gm_g h h [] := gm_g.rf
    refine lv_iload_n hx hb d_Le_firstByPolicy_2 rfl (lv_at hl 0 rfl) ?_
    refine lv_bipush (v := 12) hx hb d_Le_firstByPolicy_3 (by decide) ?_
    refine lv_icmp_gt (tgt := 102) hx hb d_Le_firstByPolicy_5 (by decide) (fun _ => ?_) (fun c9 => absurd (by decide) c9)
    refine lv_iconst (v := (-1)) hx hb d_Le_firstByPolicy_102 (by decide) ?_
    exact gz_iret (v := (-1)) hx hb hr hlocks hK Z (by decide) (by decide) (by rw [← hPQ]; exact Or.inr (⟨rfl, rfl, hj8⟩)) d_Le_firstByPolicy_103
