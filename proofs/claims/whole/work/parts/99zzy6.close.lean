/-! THE PURE SIDE: the call close -/
theorem HV_sub {A : zA} {t t' : List zF} (h : HV A t) (hs : ∀ j, hav t j → hav t' j) : HV A t' := by
  have hv : ∀ b V, hvV b t V → hvV b t' V := fun b V q x hx => ⟨hs _ (q x hx).1, fun r l hl => hs _ ((q x hx).2 r l hl)⟩
  obtain ⟨a1, a2, a3, a4, a5⟩ := h
  exact ⟨fun q => ⟨hv _ _ (a1 q).1, hs _ (a1 q).2⟩, fun q => ⟨hv _ _ (a2 q).1, hs _ (a2 q).2⟩, fun q => hv _ _ (a3 q), fun m hm => hs _ (a4 m hm), fun i hi q => hv _ _ (a5 i hi q)⟩
theorem ndd_cls {B : zA} {e : Nat} : ndd (aCls B) e = (nd1 B e || nd5 B 4 e) := by
  have h1 : nd1 (aCls B) e = nd1 B e := rfl
  have h2 : nd2 (aCls B) e = false := rfl
  have h3 : nd3 (aCls B) e = false := rfl
  have h4 : nd4 (aM (aCls B)) e = false := rfl
  have h5 : nd5 (aCls B) 4 e = nd5 B 4 e := rfl
  unfold ndd
  rw [h1, h2, h3, h4, h5]
  simp
theorem aTf_cls {B : zA} {t : List zF} (h14 : aS B 14 = 0) : aTf (aCls (sT B t)) = sT (aCls B) (t.filter (fun f => ndd (aCls B) f.1)) := by
  have hn : (fun f : zF => ndd (aCls (sT B t)) f.1) = (fun f => ndd (aCls B) f.1) := funext (fun f => by
    rw [ndd_cls, ndd_cls]
    rfl)
  rw [aTf_s (B := aCls (sT B t)) (show aS (aCls (sT B t)) 14 = 0 from h14), hn]
  rfl
theorem cls_eq {E : List Nat} {B : zA} (h14 : aS B 14 = 0) (hE : ∀ e, e ∈ E → nd1 B e = false ∧ nd5 B 4 e = false) : aTf (aCls (aTf (xE E B))) = aTf (aCls B) := by
  have e : (((aT B).filter (fun f => !decide (f.1 ∈ E))).filter (fun f => ndd B f.1)).filter (fun f => ndd (aCls B) f.1) = (aT B).filter (fun f => ndd (aCls B) f.1) := by
    rw [List.filter_filter, List.filter_filter]
    refine List.filter_congr (fun f _ => ?_)
    cases q : ndd (aCls B) f.1 with
    | false => rfl
    | true =>
      rw [ndd_cls, Bool.or_eq_true] at q
      have q1 : ndd B f.1 = true := q.elim nd_1 nd_5
      have q2 : ¬ f.1 ∈ E := fun r => by
        obtain ⟨r1, r2⟩ := hE _ r
        rw [r1, r2] at q
        rcases q with q | q <;> cases q
      simp [q1, q2]
  have e1 : aTf (xE E B) = sT B (((aT B).filter (fun f => !decide (f.1 ∈ E))).filter (fun f => ndd B f.1)) := aTf_s (B := xE E B) h14
  have e2 : aTf (aCls B) = sT (aCls B) ((aT B).filter (fun f => ndd (aCls B) f.1)) := aTf_s (B := aCls B) h14
  rw [e1, aTf_cls h14, e, e2]
theorem coR_o {A : zA} {k : Nat} (h : Inv A k) (o : ¬ aS A 18 = 0) (hw : wr A + 4098 ≤ 10000 * k) (hk : k ≤ 600) (c : aS A 19 = 0) (d : ¬ (coR A).1 = 0) : ¬ aS (coR A).2 18 = 0 := by
  obtain ⟨p1, p2⟩ := prR_ok (Mid_of h o) hw hk c
  unfold coR at d ⊢
  rw [if_pos c] at d ⊢
  rcases p2 with q | ⟨q, q2⟩ | ⟨q, q2, q3, q4⟩
  · rw [if_neg (by omega)] at d
    exact absurd q d
  · rw [if_neg (by omega)]
    exact q2
  · rw [if_pos q] at d ⊢
    unfold coS cmR at d ⊢
    by_cases e : aS (prR A).2 13 = 0
    · rw [if_pos e] at d
      exact absurd rfl d
    · rw [if_neg e]
      have e1 : aS (aRen (aActd (prR A).2)) 18 = aS (aActd (prR A).2) 18 := rfl
      show ¬ aS (aRen (aActd (prR A).2)) 18 = 0
      rw [e1, aActd_S (by decide) (by decide)]
      exact q2
theorem L_close {X : gX} {k : Nat} (h : JJ X k) (hk : k < 600) : LI (f_Lw_close X) f_Mo_close0 k := by
  obtain ⟨A, nm, hM, hC, hI, h0, hK⟩ := h
  have hI1 := Inv_mono hI (Nat.le_succ k)
  have lim := RC_lim hC (by omega)
  by_cases o : aS A 18 = 0
  · refine LI_ref (p := 1) (e := 2) (v := 0) (by omega) hM hC hI h0 hK ?_ (fun Y hY hY0 => ?_)
    · unfold f_Lw_close f_Le_close f_Le_requireWriter
      rw [cS_18 hC.1, if_pos o, gCvt_t, gCit_t, if_pos rfl, if_pos lim]
      rfl
    · unfold f_Mo_close0 f_Mo_close0_15 f_Mo_close0_20
      rw [RM_S hY 18 (by decide) (by decide) (by decide), if_pos o, s_wrong1 hY0 (by decide), gCi_i, if_neg (show ¬ (1 : Int32) = 0 by decide), z_done_26_2 (w_same rfl), gCi_i]
  by_cases o19 : aS A 19 = 0
  case neg =>
    refine LI_ref (p := 1) (e := 2) (v := 0) (by omega) hM hC hI h0 hK ?_ (fun Y hY hY0 => ?_)
    · unfold f_Lw_close f_Le_close f_Le_requireWriter f_Le_requireNothingPrepared
      rw [cS_18 hC.1, if_neg o, gCvt_v, cS_19 hC.1, if_neg o19, gCvt_t, gCit_t, if_pos rfl, if_pos lim]
      rfl
    · unfold f_Mo_close0 f_Mo_close0_15 f_Mo_close0_20
      rw [RM_S hY 18 (by decide) (by decide) (by decide), if_neg o, RM_S hY 19 (by decide) (by decide) (by decide), if_neg o19, s_wrong1 hY0 (by decide), gCi_i, if_neg (show ¬ (1 : Int32) = 0 by decide), z_done_26_2 (w_same rfl), gCi_i]
  have hw := hI.1.1.2.2.2
  have h20 := hI.1.2.1.2.1.2
  have h30 := hI.1.2.2.1.1
  have h4 := hI.1.2.2.1.2
  obtain ⟨D, dL, dM, dC, dR⟩ := cl_loop (k := k + 1) (k' := k) (by omega) (by omega) (aM A).length A (LPP_0 hI1 o hK) rfl
  obtain ⟨Z, z1, z2, z3⟩ := dC X nm (by rw [aTf_inv hI1]; exact hC)
  have hE := lo_Mid hI1 dL
  have hG := lo_GE dL
  obtain ⟨l1, l2, l3, l4, l5, l6, l7, l8⟩ := dL
  have hc := lo_xE l8
  have hID := Inv_tf l6
  have hKD : KK (aTf D) := KK_tf l5
  rw [← hc] at z2 hID hKD
  generalize lo D = E at hE hG z2 hID hKD
  clear hc
  have oD : ¬ aS (xE E D) 18 = 0 := l7
  have c19 : aS D 19 = 0 := (l2 19 (by decide)).trans o19
  have wD : wr D = wr A := congrArg gn (l2 11 (by decide))
  have wE : wr (xE E D) = wr A := wD
  have s20 : aS (xE E D) 20 = aS A 20 := l2 20 (by decide)
  have e30 : aS D 30 = 0 := by
    rw [l6.1.2.2.1.1, dM]
    rfl
  obtain ⟨cq, cT⟩ := coR_xE hE (by omega) (by omega) hG c19
  obtain ⟨pq, pT, _⟩ := prR_xE hE (by omega) (by omega) hG
  have hok := coR_ok hID oD (by rw [s20]; omega) (by omega) (by omega)
  have hKc := KK_co hID oD (by omega) (by omega) hKD
  have hq : (prR D).1 = 2 → TB (aT (prR D).2) ∧ ¬ aS (prR D).2 20 + 1 = 0 ∧ VB (aD (prR D).2) (aV (prR D).2 70) := fun r => by
    have e3 : (prR (xE E D)).2 = xE E (prR D).2 := by rw [pq]; exact if_neg (by omega)
    obtain ⟨i1, _⟩ := prR_ok (Mid_of hID oD) (by omega) (by omega) c19
    rw [e3] at i1
    have b2 : aS (prR D).2 20 = nI (gn (aS (prR D).2 20)) ∧ gn (aS (prR D).2 20) ≤ k + 1 := i1.1.2.1.2.1
    refine ⟨(pT (by omega)).2, ?_, (VB_of (i1.2.2.1 70 rfl (by decide)).1 i1.1.1.1.2).1⟩
    rw [b2.1, nI_1]
    exact nI_ne0 (by omega) (by omega)
  have hK0 : f_Le_close_13 Z 0 = gCit (f_Le_prepareAll Z) (fun E X => gLf (some (gR.t E, X))) (fun x5 X5 => (if x5 = (0 : Int32) then gLf (f_Le_close_40 X5) else gCvt (f_Le_renamePrepared X5) (fun E X => gLf (some (gR.t E, X))) (fun X9 => gLf (f_Le_close_40 X9)))) := by
    unfold f_Le_close_13
    rw [if_pos (by decide)]
  have eK : gK = (999999 - (aM A).length + 1) + (aM A).length := by
    unfold gK
    omega
  have hLe : f_Le_close X = gI (fun s : gX × Int32 => f_Le_close_13 s.1 s.2) (999999 - (aM A).length + 1) (Z, 0) := by
    unfold f_Le_close f_Le_requireWriter f_Le_requireNothingPrepared
    rw [cS_18 hC.1, if_neg o, gCvt_v, cS_19 hC.1, if_pos o19, gCvt_v, cS_30 hC.1, h30, eK, z1]
  have hMo : ∀ Y V, RM Y A → Y.I 46 0 = 0 → (∀ f, gI (fun s : gX => f_Mo_close0_35 s) (f + (aM A).length) Y = gI (fun s : gX => f_Mo_close0_35 s) f V) → ∀ r, f_Mo_close0_35 V = some (Sum.inr r) → f_Mo_close0 Y = some r := fun Y V hY hY0 v1 r hr => by
    unfold f_Mo_close0 f_Mo_close0_20
    rw [RM_S hY 18 (by decide) (by decide) (by decide), if_neg o, RM_S hY 19 (by decide) (by decide) (by decide), if_pos o19, s_wrong0 hY0, gCi_i, if_pos rfl, eK, v1]
    exact gI_r (body := fun s : gX => f_Mo_close0_35 s) hr
  rcases C_co (th := fun E X => gLf (some (gR.t E, X))) (K := fun X => gLf (f_Le_close_40 X)) z2 hID oD (by rw [s20]; omega) (by omega) (by omega) (by omega) (f_Le_close_13 Z 0) (fun _ => hK0) (fun q => absurd c19 q) with ⟨d, Y, nm1, y1, y2, y3⟩ | ⟨d, Y, nm1, y1, y2, y3⟩
  · have p1 : Inv (coR (xE E D)).2 (k + 1) := by
      rcases hok with q | q | q
      · exact q.2
      · omega
      · omega
    have d' : (coR D).1 = 0 := by rw [cq] at d; exact d
    have e2 : (coR (xE E D)).2 = (coR D).2 := by rw [cq]; exact if_pos d'
    have hMY : RM Y.ex A := RM_frC hM (z3.tr y3).ex
    have e0 : Y.ex.I 46 0 = 0 := by show Y.I 46 0 = 0; rw [(z3.tr y3).1 46 (by omega)]; exact h0
    obtain ⟨V, v1, v2, v3, v4⟩ := dR Y.ex hMY
    rcases z_coE v2 (v4.trans e0) hE c19 (by omega) (by omega) hq with ⟨_, W, v, w1, w2, w3, w4⟩ | ⟨d2, _⟩
    · rw [← e2] at w2
      obtain ⟨U, u1, u2, u3⟩ := z_fin (v := v) (v' := 0) (L := 26) (p := 2) w2 p1 (fun T hT => z_done_26_6 (hT.trans w4))
      refine LI_no (X := X) (p := 2) (by omega) (Y0 := Y) ?_ y2 (Z := U) (v := 0) ?_ u2 ((v3.tr w3).tr u3) p1 hKc
      · unfold f_Lw_close
        rw [hLe, gI_r (body := fun s : gX × Int32 => f_Le_close_13 s.1 s.2) (x := (Z, 0)) (r := (gR.t "java/lang/ArithmeticException", Y)) (y1.trans gLf_s), gCit_t, if_neg (by decide), if_pos rfl, if_pos (RC_lim y2 (by omega))]
        rfl
      · refine hMo _ V hMY e0 v1 _ ?_
        unfold f_Mo_close0_35
        rw [RM_S v2 30 (by decide) (by decide) (by decide), e30, if_pos (by decide), w1, gCi_i, if_neg (by rw [w4]; decide)]
        unfold f_Mo_close0_68
        rw [u1, gCi_i, gLf_s]
    · exact absurd d' d2
  · have p1 : Pre (coR (xE E D)).2 (k + 1) := by
      rcases hok with q | q | q
      · omega
      · exact Pre_of q.2
      · exact q.2
    have d' : ¬ (coR D).1 = 0 := by rw [cq] at d; exact d
    have e2 : (coR (xE E D)).2 = xE E (coR D).2 := by rw [cq]; exact if_neg d'
    have o2 := coR_o hID oD (by omega) (by omega) c19 d
    have h14 : aS (coR D).2 14 = 0 := by
      have q := p1.2.2.2.2.2.2.1
      by_cases c : aS (coR (xE E D)).2 14 = 0
      · rw [e2] at c
        exact c
      · exact absurd (q c).1 o2
    have hcls : aTf (aCls (aTf (coR (xE E D)).2)) = aTf (aCls (coR D).2) := by
      rw [e2]
      exact cls_eq h14 (cT d').2
    obtain ⟨Y2, a1, a2, a3⟩ := RC_cls y2
    have hP2 := Pre_cls (Pre_of (Inv_tf p1))
    obtain ⟨Y3, b1, b2, b3⟩ := C_dropF a2 (Tw_pre hP2) (by omega)
    have hiF := Inv_tf hP2
    rw [hcls] at b2 hiF
    have t0 := Tw_pre (Pre_cls p1)
    rw [e2] at t0
    obtain ⟨t1, t2, t3, t4, t5⟩ := t0
    have hTw : Tw (aCls (coR D).2) := ⟨(cT d').1, t2, HV_sub (A := aCls (coR D).2) (t := aT (aCls (xE E (coR D).2))) t3 (fun j q => by
      obtain ⟨f, f1, f2⟩ := q
      exact ⟨f, (List.mem_filter.mp f1).1, f2⟩), t4, t5⟩
    have e20 : aS (aTf (aCls (coR D).2)) 20 = aS (coR D).2 20 := by
      rw [aTf_s (B := aCls (coR D).2) h14]
      rfl
    have fC : frC X Y3 := ((z3.tr y3).tr a3).tr b3
    have hMY : RM (Y3.w 116 0 (aS (coR D).2 20)) A := RM_frC hM (fC.w (by omega))
    have e0 : (Y3.w 116 0 (aS (coR D).2 20)).I 46 0 = 0 := by rw [gX.w_ne (by decide), fC.1 46 (by omega)]; exact h0
    obtain ⟨V, v1, v2, v3, v4⟩ := dR _ hMY
    rcases z_coE v2 (v4.trans e0) hE c19 (by omega) (by omega) hq with ⟨d2, _⟩ | ⟨_, W, w1, w2, w3, w4⟩
    · exact absurd d2 d'
    · obtain ⟨W2, c1, c2, c3, c4⟩ := RM_cls w2
      obtain ⟨U, u1, u2, u3, u4⟩ := z_tidyF c2 hTw
      refine LI_ok (X := X) (Y := X) (Y0 := Y3) (v := aS (coR D).2 20) ?_ b2 (Z := U) ?_ (RM_d u2) (frM_d (((v3.tr w3).tr c3).tr u3)) hiF (KK_tf (KK_cl rfl))
      · have hr : f_Le_close_13 Z 0 = some (Sum.inr (gR.i (aS (coR D).2 20), Y3)) := by
          rw [y1]
          unfold f_Le_close_40
          rw [a1, gCv_v, b1, gCv_v, cS_20 b2.1, e20, gLf_s]
        unfold f_Lw_close
        rw [hLe, gI_r (body := fun s : gX × Int32 => f_Le_close_13 s.1 s.2) (x := (Z, 0)) (r := (gR.i (aS (coR D).2 20), Y3)) hr, gCit_i, gB_b]
      · refine hMo _ V hMY e0 v1 _ ?_
        unfold f_Mo_close0_35
        rw [RM_S v2 30 (by decide) (by decide) (by decide), e30, if_pos (by decide), w1, gCi_i, if_pos w4, c1, gCv_v]
        unfold f_Mo_close0_68 f_Mo_finished
        rw [u1, gCv_v, z_done_26_0 (u4.trans (c4.trans w4)), gCi_i, gCi_i, gLf_s]
theorem law_true0 : ∀ (X : gX) (k : Nat), JJ X k → k < 600 → LI (f_Lw_close X) f_Mo_close0 k := fun _ _ h hk => L_close h hk
