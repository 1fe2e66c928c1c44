/-! THE PURE SIDE: the calls limits, power, crash, rollback, count -/
theorem Inv_S {A : zA} {k : Nat} {S' : Nat → Int32} (e : eqS (aS A) S') (h : Inv A k) : Inv (sS A S') k := by
  obtain ⟨p1, p2, p3, p5, p6⟩ := J_S (A := A) (k := k) e
  refine ⟨p1 h.1, p2 h.2.1, p3 h.2.2.1, fun o => ?_, p5 h.2.2.2.2.1, p6 h.2.2.2.2.2⟩
  have e18 := e 18 (by decide) (by decide) (by decide)
  have ho : ¬ aS A 18 = 0 := by rw [← e18]; exact o
  have q := Mid_S e (Mid_of h ho)
  exact (Mid_inv q).2.2.2.1 o
theorem LVd_ok {F : Option (gR × gX)} {G : gX → Option (gR × gX)} {Y0 Z : gX} {A : zA} {nm : Nat → Nat} {k : Nat} (hF : F = some (gR.i 0, Y0)) (hC : RC Y0 A nm k) (hG : G Y0 = some (gR.v, Xd Z 0)) (hM : RM (Xd Z 0) A) (hf : frM Y0 (Xd Z 0)) (hi : Inv A (k + 1)) (hK : KK A) : LVd F G k :=
  ⟨0, _, _, hF, hG, z_thrown, A, nm, hM, RC_frM (RC_mono hC (by omega)) hf, hi, Xd_0, hK⟩
theorem LVd_no {F : Option (gR × gX)} {G : gX → Option (gR × gX)} {Y0 Z : gX} {A : zA} {nm : Nat → Nat} {k p : Nat} (hF : F = some (gR.i (nI p), Y0.ex)) (hC : RC Y0 A nm k) (hG : G Y0.ex = some (gR.v, Xd Z p)) (hM : RM (Xd Z p) A) (hf : frM Y0.ex (Xd Z p)) (hi : Inv A (k + 1)) (hK : KK A) : LVd F G k :=
  ⟨nI p, _, _, hF, hG, z_thrown, A, nm, hM, RC_frM (RC_ex hC) hf, hi, Xd_0, hK⟩
theorem C_range {X : gX} {a lo hi : Int32} : f_Le_requireRange X a lo hi = if a < lo ∨ ¬ a ≤ hi then some (gR.t "java/lang/IllegalArgumentException", X) else some (gR.v, X) := by
  unfold f_Le_requireRange f_Le_requireRange_10
  by_cases c1 : a < lo
  · rw [if_pos c1, if_pos (Or.inl c1)]
  · rw [if_neg c1]
    by_cases c2 : a ≤ hi
    · rw [if_pos c2, if_neg (fun q => q.elim c1 (fun q => q c2))]
    · rw [if_neg c2, if_pos (Or.inr c2)]
theorem C_rangeT {X : gX} {a lo hi : Int32} (h : a < lo ∨ ¬ a ≤ hi) : f_Le_requireRange X a lo hi = some (gR.t "java/lang/IllegalArgumentException", X) := by rw [C_range, if_pos h]
theorem C_rangeV {X : gX} {a lo hi : Int32} (h1 : ¬ a < lo) (h2 : a ≤ hi) : f_Le_requireRange X a lo hi = some (gR.v, X) := by rw [C_range, if_neg (fun q => q.elim h1 (fun q => q h2))]
/-- a refused call of the reference that answers nothing but done -/
theorem z_ref {X : gX} {A : zA} {e : Int32} (h : RM X A) : RM (X.w 46 0 e) A ∧ frM X (X.w 46 0 e) ∧ (X.w 46 0 e).I 46 0 = e := ⟨RM_e h, frM.rf.w (by omega), w_same rfl⟩
theorem L_power {X : gX} {k : Nat} {a : Int32} (h : JJ X k) (hk : k < 600) : LVd (f_Lw_power X a) (fun Y => f_Mo_power Y a) k := by
  obtain ⟨A, nm, hM, hC, hI, h0, hK⟩ := h
  have hI1 := Inv_mono hI (Nat.le_succ k)
  by_cases c : a < -1 ∨ ¬ a ≤ 1000000
  · have lim := RC_lim hC (by omega)
    have hG : f_Mo_power X.ex a = f_Mo_power_12 X.ex a := by
      unfold f_Mo_power
      rcases c with c | c
      · rw [if_pos c]
      · by_cases c2 : a < -1
        · rw [if_pos c2]
        · rw [if_neg c2, if_neg c]
    obtain ⟨e1, e2, e3⟩ := z_ref (X := X.ex) (e := 1) (RM_frC hM frC.rf.ex)
    refine LVd_no (p := 1) (Y0 := X) ?_ hC (Z := X.ex.w 46 0 1) ?_ (RM_d e1) (frM_d e2) hI1 hK
    · unfold f_Lw_power f_Le_power
      rw [C_rangeT c, gCvt_t, gCvt_t, if_pos rfl, if_pos lim]
      rfl
    · show f_Mo_power X.ex a = _
      rw [hG]
      unfold f_Mo_power_12 f_Mo_power_17 f_Mo_power_29
      rw [s_wrong1 (X := X.ex) h0 (by decide), gCi_i, if_neg (by decide), z_done_1_1 e3, gCi_i]
  · have c1 : ¬ a < -1 := fun q => c (Or.inl q)
    have c2 : a ≤ 1000000 := Classical.not_not.mp (fun q => c (Or.inr q))
    have es : eqS (aS A) (upd (aS A) 13 a) := fun j _ j2 _ => by rw [upd_at, if_neg j2]
    have hC' : RC (X.w 0 17 a) (sS A (upd (aS A) 13 a)) nm k := RC_sS (S' := upd (aS A) 13 a) hC (cS_w hC.1 (show (0, 17, 13) ∈ cTab by decide)) (fun q => by rw [w_oth (Or.inr (by decide))]; exact hC.2.1 q) (fun b a1 a2 a3 => gX.w_ne (by omega)) (fun b j a1 a2 => by rw [gX.w_ne (by omega)]) (fun _ _ => rfl) gEq.rf.w id id id
    have hM0 : RM (X.w 0 17 a) A := RM_frC hM (frC.rf.w (by omega))
    have hM1 : RM ((X.w 0 17 a).w 46 13 a) (sS A (upd (aS A) 13 a)) := RM_sT (s := upd (aS A) 13 a) (t := aT A) hM0 (fun b hb => gX.w_ne (by omega)) rfl (fun j j1 j2 j3 => by
      rw [gX.w_self, upd_at, upd_at]
      by_cases c3 : j = 13
      · rw [if_pos c3, if_pos c3]
      · rw [if_neg c3, if_neg c3]; exact hM0.1 j j1 j2 j3) (mT_fr hM0.2.2.1 (w_oth (Or.inr (by decide))) (gX.w_ne (by decide)) (gX.w_ne (by decide)) (gX.w_ne (by decide))) rfl rfl
    have e0 : ((X.w 0 17 a).w 46 13 a).I 46 0 = 0 := by rw [w_oth (Or.inr (by decide)), gX.w_ne (by decide)]; exact h0
    refine LVd_ok (Y0 := X.w 0 17 a) ?_ hC' (Z := (X.w 0 17 a).w 46 13 a) ?_ (RM_d hM1) (frM_d (frM.rf.w (by omega))) (Inv_S es hI1) (KK_S hK (es 18 (by decide) (by decide) (by decide)) (es 19 (by decide) (by decide) (by decide)) (es 20 (by decide) (by decide) (by decide)))
    · unfold f_Lw_power f_Le_power
      rw [C_rangeV c1 c2, gCvt_v, gB_b, gCvt_v]
    · show f_Mo_power (X.w 0 17 a) a = _
      unfold f_Mo_power f_Mo_power_17 f_Mo_power_29
      rw [if_neg c1, if_pos c2, s_wrong0 (by rw [gX.w_ne (by decide)]; exact h0), gCi_i, if_pos rfl, gB_b, z_done_1_0 e0, gCi_i]
theorem nI_gn {a : Int32} {n : Nat} (h : ¬ a < 0) : a = nI (gn a) := by
  obtain ⟨j, hj, rfl⟩ := nI_of h
  rw [gn_nI hj]
theorem L_limits {X : gX} {k : Nat} {a b : Int32} (h : JJ X k) (hk : k < 600) : LVd (f_Lw_limits X a b) (fun Y => f_Mo_limits Y a b) k := by
  obtain ⟨A, nm, hM, hC, hI, h0, hK⟩ := h
  have hI1 := Inv_mono hI (Nat.le_succ k)
  by_cases c : (a < 1 ∨ ¬ a ≤ 10000) ∨ (b < 2 ∨ ¬ b ≤ 64)
  · have lim := RC_lim hC (by omega)
    have hG : f_Mo_limits X.ex a b = f_Mo_limits_24 X.ex a b := by
      unfold f_Mo_limits
      by_cases d1 : a < 1
      · rw [if_pos d1]
      · rw [if_neg d1]
        by_cases d2 : (10000 : Int32) < a
        · rw [if_pos d2]
        · rw [if_neg d2]
          by_cases d3 : b < 2
          · rw [if_pos d3]
          · rw [if_neg d3]
            by_cases d4 : b ≤ 64
            · exfalso
              rcases c with (c | c) | (c | c)
              · exact d1 c
              · exact c (Int32.not_lt.mp d2)
              · exact d3 c
              · exact c d4
            · rw [if_neg d4]
    obtain ⟨e1, e2, e3⟩ := z_ref (X := X.ex) (e := 1) (RM_frC hM frC.rf.ex)
    refine LVd_no (p := 1) (Y0 := X) ?_ hC (Z := X.ex.w 46 0 1) ?_ (RM_d e1) (frM_d e2) hI1 hK
    · unfold f_Lw_limits f_Le_limits
      by_cases d : a < 1 ∨ ¬ a ≤ 10000
      · rw [C_rangeT d, gCvt_t, gCvt_t, if_pos rfl, if_pos lim]
        rfl
      · have d1 : ¬ a < 1 := fun q => d (Or.inl q)
        have d2 : a ≤ 10000 := Classical.not_not.mp (fun q => d (Or.inr q))
        have d3 : b < 2 ∨ ¬ b ≤ 64 := c.elim (fun q => absurd q d) id
        rw [C_rangeV d1 d2, gCvt_v, C_rangeT d3, gCvt_t, gCvt_t, if_pos rfl, if_pos lim]
        rfl
    · show f_Mo_limits X.ex a b = _
      rw [hG]
      unfold f_Mo_limits_24 f_Mo_limits_29 f_Mo_limits_46
      rw [s_wrong1 (X := X.ex) h0 (by decide), gCi_i, if_neg (by decide), z_done_1_1 e3, gCi_i]
  · have c1 : ¬ a < 1 := fun q => c (Or.inl (Or.inl q))
    have c2 : a ≤ 10000 := Classical.not_not.mp (fun q => c (Or.inl (Or.inr q)))
    have c3 : ¬ b < 2 := fun q => c (Or.inr (Or.inl q))
    have c4 : b ≤ 64 := Classical.not_not.mp (fun q => c (Or.inr (Or.inr q)))
    have hC' : RC ((X.w 0 10 a).w 0 11 b) (sS A (upd (upd (aS A) 24 a) 25 b)) nm k := RC_sS (S' := upd (upd (aS A) 24 a) 25 b) hC (cS_w (cS_w hC.1 (show (0, 10, 24) ∈ cTab by decide)) (show (0, 11, 25) ∈ cTab by decide)) (fun q => by rw [w_oth (Or.inr (by decide)), w_oth (Or.inr (by decide))]; exact hC.2.1 q) (fun b a1 a2 a3 => (gX.w_ne (by omega)).trans (gX.w_ne (by omega))) (fun b j a1 a2 => by rw [gX.w_ne (by omega), gX.w_ne (by omega)]) (fun _ _ => rfl) gEq.rf.w.w id id id
    have hM0 : RM ((X.w 0 10 a).w 0 11 b) A := RM_frC hM ((frC.rf.w (by omega)).w (by omega))
    generalize hX0 : (X.w 0 10 a).w 0 11 b = X0 at hC' hM0
    have e00 : X0.I 46 0 = 0 := by rw [← hX0, gX.w_ne (by decide), gX.w_ne (by decide)]; exact h0
    have hM1 : RM ((X0.w 46 24 a).w 46 25 b) (sS A (upd (upd (aS A) 24 a) 25 b)) := RM_sT (s := upd (upd (aS A) 24 a) 25 b) (t := aT A) hM0 (fun b hb => (gX.w_ne (by omega)).trans (gX.w_ne (by omega))) rfl (fun j j1 j2 j3 => by
      rw [gX.w_self, gX.w_self, upd_at, upd_at, upd_at, upd_at, hM0.1 j j1 j2 j3]) (mT_fr hM0.2.2.1 ((w_oth (Or.inr (by decide))).trans (w_oth (Or.inr (by decide)))) ((gX.w_ne (by decide)).trans (gX.w_ne (by decide))) ((gX.w_ne (by decide)).trans (gX.w_ne (by decide))) ((gX.w_ne (by decide)).trans (gX.w_ne (by decide)))) rfl rfl
    have e0 : ((X0.w 46 24 a).w 46 25 b).I 46 0 = 0 := by rw [w_oth (Or.inr (by decide)), w_oth (Or.inr (by decide))]; exact e00
    have hb0 : ¬ b < 0 := fun q => c3 (Int32.lt_trans q (by decide))
    have hb1 := nI_gn (n := 0) hb0
    obtain ⟨g, hg, hbg⟩ := nI_of hb0
    have hgn : gn b = g := by rw [hbg, gn_nI hg]
    have g2 : 2 ≤ g := by
      rcases Nat.lt_or_ge g 2 with q | q
      · exact absurd (by rw [hbg]; exact nI_lt (a := g) (b := 2) q (by omega)) c3
      · exact q
    have g64 : g ≤ 64 := by
      rcases Nat.lt_or_ge 64 g with q | q
      · rw [hbg] at c4
        exact absurd c4 (nI_ge (a := 64) (b := g) q hg)
      · exact q
    have hI2 : Inv (sS A (upd (upd (aS A) 24 a) 25 b)) (k + 1) := by
      obtain ⟨⟨p, ⟨q1, q2, q3, q4⟩, r⟩, h2, h3, h4, h5, h6⟩ := hI1
      refine ⟨⟨p, ⟨⟨?_, ?_, ?_⟩, q2, q3, q4⟩, r⟩, h2, h3, h4, h5, h6⟩
      · show b = nI (gn b)
        exact hb1
      · show 2 ≤ gn b
        omega
      · show gn b ≤ 64
        omega
    refine LVd_ok (Y0 := X0) ?_ hC' (Z := (X0.w 46 24 a).w 46 25 b) ?_ (RM_d hM1) (frM_d ((frM.rf.w (by omega)).w (by omega))) hI2 (KK_S hK rfl rfl rfl)
    · unfold f_Lw_limits f_Le_limits
      rw [C_rangeV c1 c2, gCvt_v, C_rangeV c3 c4, gCvt_v, gB_b, gB_b, gCvt_v, hX0]
    · show f_Mo_limits X0 a b = _
      unfold f_Mo_limits f_Mo_limits_29 f_Mo_limits_46
      rw [if_neg c1, if_neg (Int32.not_lt.mpr c2), if_neg c3, if_pos c4, s_wrong0 e00, gCi_i, if_pos rfl, gB_b, gB_b, z_done_1_0 e0, gCi_i]
theorem L_crash {X : gX} {k : Nat} (h : JJ X k) (hk : k < 600) : ∃ Y Z, f_Le_crash X = some (gR.v, Y) ∧ f_Mo_crash Y = some (gR.v, Z) ∧ JJ Z (k + 1) := by
  obtain ⟨A, nm, hM, hC, hI, h0, hK⟩ := h
  have hI1 := Inv_mono hI (Nat.le_succ k)
  obtain ⟨Y, y1, y2, y3⟩ := C_lose hC hI.2.1.1 (by omega)
  have hMY : RM Y A := RM_frC hM y3
  obtain ⟨Z, z1, z2, z3, z4⟩ := z_lose hMY hI.2.1.1
  have hIL : Inv (aLose A) (k + 1) := Inv_lose hI1.1 hI.2.1.1 hI.2.1.2.1 (Nat.le_trans (List.length_filter_le _ _) hI.2.1.2.2) hI1.2.2.1 hI1.2.2.2.2.1.2.1
  have e0 : Z.I 46 0 = 0 := by rw [z4, y3.1 46 (by omega)]; exact h0
  refine ⟨Y, Xd Z 0, ?_, ?_, aLose A, nm, RM_d z2, RC_frM (RC_mono y2 (by omega)) (frM_d z3), hIL, Xd_0, KK_cl rfl⟩
  · unfold f_Le_crash
    rw [y1, gCv_v]
  · unfold f_Mo_crash
    rw [z1, gCv_v, z_done_0_0 e0, gCi_i]
