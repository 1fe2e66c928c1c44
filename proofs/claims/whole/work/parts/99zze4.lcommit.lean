/-! THE PURE SIDE: the calls prepare and commit, joint -/
theorem L_prepare {X : gX} {k : Nat} (h : JJ X k) (hk : k < 600) : LI (f_Lw_prepare X) f_Mo_prepare k := by
  obtain ⟨A, nm, hM, hC, hI, h0, hK⟩ := h
  have hI1 := Inv_mono hI (Nat.le_succ k)
  have lim := RC_lim hC (by omega)
  by_cases o : aS A 18 = 0
  · refine LI_ref (p := 1) (e := 2) (v := 0) (by omega) hM hC hI h0 hK ?_ (fun Y hY hY0 => ?_)
    · unfold f_Lw_prepare f_Le_prepare f_Le_requireWriter
      rw [cS_18 hC.1, if_pos o, gCvt_t, gCit_t, if_pos rfl, if_pos lim]
      rfl
    · unfold f_Mo_prepare f_Mo_prepare_15 f_Mo_prepare_20
      rw [RM_S hY 18 (by decide) (by decide) (by decide), if_pos o, s_wrong1 hY0 (by decide), gCi_i, if_neg (show ¬ (1 : Int32) = 0 by decide), z_done_26_2 (w_same rfl), gCi_i]
  by_cases o19 : aS A 19 = 0
  · have hm := Mid_of hI1 o
    have hw := hI.1.1.2.2.2
    obtain ⟨p1, -⟩ := prR_ok hm (by omega) (by omega) o19
    have e15 : ∀ Y, RM Y A → Y.I 46 0 = 0 → f_Mo_prepare Y = gCi (f_Mo_preparing Y) (fun x4 X4 => gCi (f_Mo_finished X4 x4 26) (fun x5 X5 => some (gR.i x5, X5))) := fun Y hY hY0 => by
      unfold f_Mo_prepare f_Mo_prepare_20
      rw [RM_S hY 18 (by decide) (by decide) (by decide), if_neg o, RM_S hY 19 (by decide) (by decide) (by decide), if_pos o19, s_wrong0 hY0, gCi_i, if_pos rfl]
    rcases C_prepareAll hC hm (by omega) (by omega) (by omega) with ⟨d, Y, nm1, y1, y2, y3⟩ | ⟨d, Y, nm1, y1, y2, y3⟩ | ⟨d, Y, nm1, y1, y2, y3⟩
    · have hMY : RM Y.ex A := RM_frC hM y3.ex
      have e0 : Y.ex.I 46 0 = 0 := by show Y.I 46 0 = 0; rw [y3.1 46 (by omega)]; exact h0
      rcases z_preparing hMY hm (by omega) (by omega) with ⟨_, Z, z1, z2, z3, z4⟩ | ⟨d', _⟩ | ⟨d', _⟩
      · obtain ⟨U, u1, u2, u3⟩ := z_fin (v := 0) (v' := 0) (L := 26) (p := 2) z2 p1 (fun V hV => z_done_26_6 (hV.trans z4))
        refine LI_no (X := X) (p := 2) (by omega) (Y0 := Y) ?_ y2 (Z := U) (v := 0) ?_ u2 (z3.tr u3) p1 (KK_pr hm (by omega) (by omega) hK)
        · unfold f_Lw_prepare f_Le_prepare f_Le_requireWriter f_Le_requireNothingPrepared
          rw [cS_18 hC.1, if_neg o, gCvt_v, cS_19 hC.1, if_pos o19, gCvt_v, y1, gCit_t, gCit_t, if_neg (by decide), if_pos rfl, if_pos (RC_lim y2 (by omega))]
          rfl
        · rw [e15 _ hMY e0, z1, gCi_i, u1, gCi_i]
      · omega
      · omega
    · have hMY : RM (Y.w 116 0 0) A := RM_frC hM (y3.w (by omega))
      have e0 : (Y.w 116 0 0).I 46 0 = 0 := by rw [gX.w_ne (by decide), y3.1 46 (by omega)]; exact h0
      rcases z_preparing hMY hm (by omega) (by omega) with ⟨d', _⟩ | ⟨_, Z, z1, z2, z3, z4⟩ | ⟨d', _⟩
      · omega
      · obtain ⟨U, u1, u2, u3⟩ := z_fin (v := 0) (v' := 0) (L := 26) (p := 0) z2 p1 (fun V hV => z_done_26_0 (hV.trans (by rw [z4]; exact e0)))
        refine LI_ok (X := X) (Y := X) (Y0 := Y) (v := 0) ?_ y2 (Z := U) ?_ u2 (z3.tr u3) p1 (KK_pr hm (by omega) (by omega) hK)
        · unfold f_Lw_prepare f_Le_prepare f_Le_requireWriter f_Le_requireNothingPrepared
          rw [cS_18 hC.1, if_neg o, gCvt_v, cS_19 hC.1, if_pos o19, gCvt_v, y1, gCit_i, if_pos rfl, gCit_i, gB_b]
        · rw [e15 _ hMY e0, z1, gCi_i, u1, gCi_i]
      · omega
    · have hMY : RM (Y.w 116 0 (aS (prR A).2 20 + 1)) A := RM_frC hM (y3.w (by omega))
      have e0 : (Y.w 116 0 (aS (prR A).2 20 + 1)).I 46 0 = 0 := by rw [gX.w_ne (by decide), y3.1 46 (by omega)]; exact h0
      rcases z_preparing hMY hm (by omega) (by omega) with ⟨d', _⟩ | ⟨d', _⟩ | ⟨_, Z, z1, z2, z3, z4⟩
      · omega
      · omega
      · obtain ⟨U, u1, u2, u3⟩ := z_fin (v := aS (prR A).2 20 + 1) (v' := aS (prR A).2 20 + 1) (L := 26) (p := 0) z2 p1 (fun V hV => z_done_26_0 (hV.trans (by rw [z4]; exact e0)))
        refine LI_ok (X := X) (Y := X) (Y0 := Y) (v := aS (prR A).2 20 + 1) ?_ y2 (Z := U) ?_ u2 (z3.tr u3) p1 (KK_pr hm (by omega) (by omega) hK)
        · unfold f_Lw_prepare f_Le_prepare f_Le_requireWriter f_Le_requireNothingPrepared
          rw [cS_18 hC.1, if_neg o, gCvt_v, cS_19 hC.1, if_pos o19, gCvt_v, y1, gCit_i, if_neg (show ¬ (1 : Int32) = 0 by decide), gCit_i, gB_b, cS_20 y2.1]
        · rw [e15 _ hMY e0, z1, gCi_i, u1, gCi_i]
  · refine LI_ref (p := 1) (e := 2) (v := 0) (by omega) hM hC hI h0 hK ?_ (fun Y hY hY0 => ?_)
    · unfold f_Lw_prepare f_Le_prepare f_Le_requireWriter f_Le_requireNothingPrepared
      rw [cS_18 hC.1, if_neg o, gCvt_v, cS_19 hC.1, if_neg o19, gCvt_t, gCit_t, if_pos rfl, if_pos lim]
      rfl
    · unfold f_Mo_prepare f_Mo_prepare_15 f_Mo_prepare_20
      rw [RM_S hY 18 (by decide) (by decide) (by decide), if_neg o, RM_S hY 19 (by decide) (by decide) (by decide), if_neg o19, s_wrong1 hY0 (by decide), gCi_i, if_neg (show ¬ (1 : Int32) = 0 by decide), z_done_26_2 (w_same rfl), gCi_i]
theorem L_commit {X : gX} {k : Nat} (h : JJ X k) (hk : k < 600) : LI (f_Lw_commit X) f_Mo_commit k := by
  obtain ⟨A, nm, hM, hC, hI, h0, hK⟩ := h
  have hI1 := Inv_mono hI (Nat.le_succ k)
  have lim := RC_lim hC (by omega)
  by_cases o : aS A 18 = 0
  · refine LI_ref (p := 1) (e := 2) (v := 0) (by omega) hM hC hI h0 hK ?_ (fun Y hY hY0 => ?_)
    · unfold f_Lw_commit f_Le_commit f_Le_requireWriter
      rw [cS_18 hC.1, if_pos o, gCvt_t, gCit_t, if_pos rfl, if_pos lim]
      rfl
    · unfold f_Mo_commit f_Mo_commit_13
      rw [RM_S hY 18 (by decide) (by decide) (by decide), if_pos o, s_wrong1 hY0 (by decide), gCi_i, if_neg (show ¬ (1 : Int32) = 0 by decide), z_done_26_2 (w_same rfl), gCi_i]
  have hw := hI.1.1.2.2.2
  have h20 := hI.1.2.1.2.1.2
  have hok := coR_ok hI1 o (by omega) (by omega) (by omega)
  have hC2 : f_Lw_commit X = gCit (if (X.I 0 8) = (0 : Int32) then gCit (f_Le_prepareAll X) (fun E X => some (gR.t E, X)) (fun x4 X4 => (if x4 = (0 : Int32) then f_Le_commit_22 X4 else f_Le_commit_18 X4)) else f_Le_commit_18 X) (fun E X => (if E = "java/lang/IllegalStateException" then (if X.cc + 1 ≤ gCL ∧ X.ss + 6 ≤ gSL then gB X.ex (fun X2 => some (gR.i 1, X2)) else none) else (if E = "java/lang/ArithmeticException" then (if X.cc + 1 ≤ gCL ∧ X.ss + 6 ≤ gSL then gB X.ex (fun X3 => some (gR.i 2, X3)) else none) else none))) (fun x1 X1 => gB (X1.w 116 0 x1) (fun X4 => some (gR.i 0, X4))) := by
    unfold f_Lw_commit f_Le_commit f_Le_requireWriter
    rw [cS_18 hC.1, if_neg o, gCvt_v]
  have e13 : ∀ Y, RM Y A → Y.I 46 0 = 0 → f_Mo_commit Y = gCi (f_Mo_committing Y) (fun x4 X4 => gCi (f_Mo_finished X4 x4 26) (fun x5 X5 => some (gR.i x5, X5))) := fun Y hY hY0 => by
    unfold f_Mo_commit f_Mo_commit_13
    rw [RM_S hY 18 (by decide) (by decide) (by decide), if_neg o, s_wrong0 hY0, gCi_i, if_pos rfl]
  rcases C_co (th := fun E X => some (gR.t E, X)) (K := f_Le_commit_22) hC hI1 o (by omega) (by omega) (by omega) (by omega) (if (X.I 0 8) = (0 : Int32) then gCit (f_Le_prepareAll X) (fun E X => some (gR.t E, X)) (fun x4 X4 => (if x4 = (0 : Int32) then f_Le_commit_22 X4 else f_Le_commit_18 X4)) else f_Le_commit_18 X) (fun q => by rw [cS_19 hC.1, if_pos q]; rfl) (fun q => by rw [cS_19 hC.1, if_neg q]; rfl) with ⟨d, Y, nm1, y1, y2, y3⟩ | ⟨d, Y, nm1, y1, y2, y3⟩
  · have p1 : Inv (coR A).2 (k + 1) := by
      rcases hok with q | q | q
      · exact q.2
      · omega
      · omega
    have hMY : RM Y.ex A := RM_frC hM y3.ex
    have e0 : Y.ex.I 46 0 = 0 := by show Y.I 46 0 = 0; rw [y3.1 46 (by omega)]; exact h0
    rcases z_co hMY e0 hI1 o (by omega) (by omega) with ⟨_, Z, v, z1, z2, z3, z4⟩ | ⟨d', _⟩
    · obtain ⟨U, u1, u2, u3⟩ := z_fin (v := v) (v' := 0) (L := 26) (p := 2) z2 p1 (fun V hV => z_done_26_6 (hV.trans z4))
      refine LI_no (X := X) (p := 2) (by omega) (Y0 := Y) ?_ y2 (Z := U) (v := 0) ?_ u2 (z3.tr u3) p1 (KK_co hI1 o (by omega) (by omega) hK)
      · rw [hC2, y1, gCit_t, if_neg (by decide), if_pos rfl, if_pos (RC_lim y2 (by omega))]
        rfl
      · rw [e13 _ hMY e0, z1, gCi_i, u1, gCi_i]
    · exact absurd d d'
  · have p1 : Pre (coR A).2 (k + 1) := by
      rcases hok with q | q | q
      · omega
      · exact Pre_of q.2
      · exact q.2
    have e20 : ∀ B : zA, aS (aTf B) 20 = aS B 20 := fun B => by
      unfold aTf
      split <;> rfl
    have hMY : RM (Y.w 116 0 (aS (coR A).2 20)) A := RM_frC hM (y3.w (by omega))
    have e0 : (Y.w 116 0 (aS (coR A).2 20)).I 46 0 = 0 := by rw [gX.w_ne (by decide), y3.1 46 (by omega)]; exact h0
    rcases z_co hMY e0 hI1 o (by omega) (by omega) with ⟨d', _⟩ | ⟨_, Z, z1, z2, z3, z4⟩
    · omega
    · obtain ⟨U, u1, u2, u3⟩ := z_finT (v := aS (coR A).2 20) (v' := aS (coR A).2 20) (L := 26) (p := 0) z2 p1 (fun V hV => z_done_26_0 (hV.trans z4))
      refine LI_ok (X := X) (Y := X) (Y0 := Y) (v := aS (coR A).2 20) ?_ y2 (Z := U) ?_ u2 (z3.tr u3) (Inv_tf p1) (KK_tf (KK_co hI1 o (by omega) (by omega) hK))
      · rw [hC2, y1]
        unfold f_Le_commit_22
        rw [gCit_i, gB_b, cS_20 y2.1, e20]
      · rw [e13 _ hMY e0, z1, gCi_i, u1, gCi_i]
