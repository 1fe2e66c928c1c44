/-! THE PURE SIDE: the call merge, joint -/
theorem CH_pol {A : zA} {l s : Nat} (h : PolS A l s) (hg : 2 ≤ gn (aS A 25)) : CH A s (gn (aS A 25)) := by
  obtain ⟨h1, ⟨⟨h2, h3⟩, _⟩, _⟩ := h
  refine ⟨by omega, h2, fun i x i1 i2 hx => ?_⟩
  have := h3 (i - s) (by omega)
  rw [show s + (i - s) = i by omega] at this
  unfold fit at this
  rw [hx] at this
  simp only [Bool.and_eq_true, decide_eq_true_eq] at this
  exact this.1
theorem CH_all {A : zA} {k p : Nat} (h : Mid A k p) (ha : amg A = true) : CH A 0 (aV A 54).1.length := by
  unfold amg at ha
  rw [Bool.and_eq_true, decide_eq_true_eq] at ha
  refine ⟨?_, by omega, fun i x i1 i2 hx => ?_⟩
  · cases hW : (aV A 54).1 with
    | nil =>
      rw [hW] at ha
      exact absurd ha.2 (by simp)
    | cons x t => simp
  · by_cases c : x.2.2 = 0
    · exact c
    · obtain ⟨m, m1, _⟩ := h.2.2.2.2.1.2.2.1.2.2 x (vs_mem hx) c
      rw [List.eq_nil_of_length_eq_zero ha.1] at m1
      cases m1
theorem KK_mg {A : zA} {k a n : Nat} (hm : Mid A k 0) (h : KK A) : KK (aMg A a n) := by
  intro _
  obtain ⟨h1, h2, h3⟩ := h hm.1
  have p3 := hm.2.1.1.2.2.1
  have hB : nwB A (aNw A (mgD A a n) (fun _ => true) (mgD A a n).length ((mgD A a n).headD 0) (mgZ A a n)) (mgD A a n) (fun _ => true) (mgD A a n).length ((mgD A a n).headD 0) (mgZ A a n) := nwB_of p3
  have cS : ∀ j, j ≠ 30 → j ≠ 34 → j ≠ 11 → j ≠ 12 → j ≠ 13 → aS (aMg A a n) j = aS A j := fun j q1 q2 q3 q4 q5 => by
    have : aS (aMg A a n) j = aS (aNw A (mgD A a n) (fun _ => true) (mgD A a n).length ((mgD A a n).headD 0) (mgZ A a n)) j := by
      show upd (upd _ 34 (aS A 34 + 1)) 30 (aS A 30 + 1) j = _
      rw [upd_at, if_neg q1, upd_at, if_neg q2]
    rw [this, hB.1 j q3 q4 q5]
  have cT : aT (aMg A a n) = aT A ++ [(wr A, false, false)] := hB.2.2.2.2.2
  have cV : ∀ m, m ≠ 54 → aV (aMg A a n) m = aV A m := fun m hm => if_neg hm
  have c54 : (aV (aMg A a n) 54).1 = mkR (aV A 54).1 a n (gn (aS A 34) + 1) := rfl
  have cM : aM (aMg A a n) = aM A ++ [(gn (aS A 34) + 1, wr A, mgS A a, mgZ A a n)] := rfl
  have hNW := NW_mid hm
  refine ⟨fun y hy hy2 => ?_, fun m hm' => ?_, ?_⟩
  · rw [c54] at hy
    obtain ⟨i, x, i1, i2, i3⟩ := mkR_mem hy
    rw [i3, mkR_o.1] at hy2 ⊢
    rw [cT] at hy2
    unfold KW
    rw [cS 19 (by decide) (by decide) (by decide) (by decide) (by decide), cS 20 (by decide) (by decide) (by decide) (by decide) (by decide), cV 70 (by decide), cV 62 (by decide)]
    exact h1 x (vs_mem i1) (syn_apb hy2)
  · rw [cM] at hm'
    rw [cT, c54]
    rcases List.mem_append.mp hm' with r | r
    · refine ⟨syn_nf (fun q => ?_), fun y hy => ?_⟩
      · have := syn_apb q
        rw [(h2 m r).1] at this
        cases this
      · obtain ⟨i, x, i1, i2, i3⟩ := mkR_mem hy
        rw [i3, mkR_o.1, mkR_o.2]
        exact (h2 m r).2 x (vs_mem i1)
    · rw [List.mem_singleton.mp r]
      refine ⟨syn_nw hm.2.2.1.2.1, fun y hy => ?_⟩
      obtain ⟨i, x, i1, i2, i3⟩ := mkR_mem hy
      rw [i3, mkR_o.1, mkR_o.2]
      have q := hNW.1 54 rfl (fun _ => hm.1) x (vs_mem i1)
      refine ⟨?_, fun e => ?_⟩
      · show x.1 ≠ wr A
        omega
      · have := q.2 _ e
        have : wr A < wr A := this
        omega
  · rw [cM, List.pairwise_append]
    refine ⟨h3, by simp, fun m hm1 m' hm2 => ?_⟩
    rw [List.mem_singleton.mp hm2]
    have := hNW.2.2.2 m hm1
    show m.2.1 ≠ wr A
    omega
theorem KK_mgR {A : zA} {k a n : Nat} (hm : Mid A k 0) (h : KK A) : KK (mgR A a n).2 := by
  unfold mgR
  by_cases c : aS A 13 = 0
  · rw [if_pos c]; exact KK_cl rfl
  · rw [if_neg c]; exact KK_mg hm h
theorem L_mgB {X : gX} {A : zA} {nm : Nat → Nat} {k a n : Nat} {b : Int32} (hM : RM X A) (hC : RC X A nm k) (hI : Inv A k) (h0 : X.I 46 0 = 0) (hK : KK A) (hk : k < 600) (o : ¬ aS A 18 = 0) (h4 : (aM A).length < 4) (hc : CH A a n) (hF : ∀ (c : Int32) (Y : gX), (f_Le_beginMerge X (nI a) (nI n) = some (gR.i c, Y) → f_Lw_merge X b = some (gR.i 0, Y.w 116 0 c)) ∧ (f_Le_beginMerge X (nI a) (nI n) = some (gR.t "java/lang/ArithmeticException", Y) → (Y.cc + 1 ≤ gCL ∧ Y.ss + 6 ≤ gSL) → f_Lw_merge X b = some (gR.i (nI 5), Y.ex))) (hG : ∀ Y, RM Y A → Y.I 46 0 = 0 → f_Mo_merge Y b = f_Mo_merge_88 (Y.w 46 33 (nI n)) (nI a) 0) : LI (f_Lw_merge X b) (fun Y => f_Mo_merge Y b) k := by
  have hm := Mid_of (Inv_mono hI (Nat.le_succ k)) o
  have hw := hI.1.1.2.2.2
  have h34 := hI.1.2.1.2.2.1.2
  have hinv := mgR_ok hm hc (by omega) (by omega) (by omega) h4
  rcases C_begin hC hm hc (by omega) (by omega) h4 with ⟨bb, Y, nm', y1, y2, y3⟩ | ⟨bb, Y, y1, y2, y3⟩
  · have hMY : RM (Y.w 116 0 (nI (gn (aS A 34) + 1))) A := RM_frC hM (y3.w (by omega))
    have e0 : (Y.w 116 0 (nI (gn (aS A 34) + 1))).I 46 0 = 0 := by rw [gX.w_ne (by decide), y3.1 46 (by omega)]; exact h0
    have hM3 : RM ((Y.w 116 0 (nI (gn (aS A 34) + 1))).w 46 33 (nI n)) A := RM_33 hMY
    have e3 : ((Y.w 116 0 (nI (gn (aS A 34) + 1))).w 46 33 (nI n)).I 46 0 = 0 := by rw [w_oth (Or.inr (by decide))]; exact e0
    rcases z_begin hM3 e3 (w_same rfl) hm hc (by omega) (by omega) (by omega) h4 with ⟨_, U, u1, u2, u3⟩ | ⟨b', _⟩
    · refine LI_ok (X := X) (Y := X) (Y0 := Y) ((hF _ Y).1 y1) y2 (Z := U) ?_ u2 ((frM.rf.w (by omega)).tr u3) hinv (KK_mgR hm hK)
      show f_Mo_merge _ b = _
      rw [hG _ hMY e0, u1]
    · rw [bb] at b'
      cases b'
  · have hMY : RM Y.ex A := RM_frC hM y3.ex
    have e0 : Y.ex.I 46 0 = 0 := by show Y.I 46 0 = 0; rw [y3.1 46 (by omega)]; exact h0
    have hM3 : RM (Y.ex.w 46 33 (nI n)) A := RM_33 hMY
    have e3 : (Y.ex.w 46 33 (nI n)).I 46 0 = 0 := by rw [w_oth (Or.inr (by decide))]; exact e0
    rcases z_begin hM3 e3 (w_same rfl) hm hc (by omega) (by omega) (by omega) h4 with ⟨b', _⟩ | ⟨_, U, u1, u2, u3⟩
    · rw [bb] at b'
      cases b'
    · refine LI_no (X := X) (p := 5) (by omega) (Y0 := Y) ((hF 0 Y).2 y1 (RC_lim y2 (by omega))) y2 (Z := U) (v := 0) ?_ u2 ((frM.rf.w (by omega)).tr u3) hinv (KK_mgR hm hK)
      show f_Mo_merge _ b = _
      rw [hG _ hMY e0, u1]
/-- nothing to merge -/
theorem L_mgN {X : gX} {A : zA} {nm : Nat → Nat} {k : Nat} {b v x : Int32} (hM : RM X A) (hC : RC X A nm k) (hI : Inv A k) (h0 : X.I 46 0 = 0) (hK : KK A) (hF : f_Lw_merge X b = some (gR.i (nI 3), X.ex)) (hG : ∀ Y, RM Y A → Y.I 46 0 = 0 → f_Mo_merge Y b = f_Mo_merge_88 (Y.w 46 33 v) x 1) : LI (f_Lw_merge X b) (fun Y => f_Mo_merge Y b) k := by
  have hMY : RM X.ex A := RM_frC hM frC.rf.ex
  have hM3 : RM (X.ex.w 46 33 v) A := RM_33 hMY
  have e3 : (X.ex.w 46 33 v).I 46 0 = 0 := by rw [w_oth (Or.inr (by decide))]; exact h0
  obtain ⟨r1, r2, r3⟩ := z_ref (e := 3) hM3
  refine LI_no (X := X) (p := 3) (by omega) (Y0 := X) hF hC (Z := (X.ex.w 46 33 v).w 46 0 3) (v := 0) ?_ ?_ ?_ (Inv_mono hI (Nat.le_succ k)) hK
  · show f_Mo_merge _ b = _
    rw [hG _ hMY h0]
    unfold f_Mo_merge_88
    rw [s_wrong1 e3 (by decide), gCi_i, if_neg (show ¬ (1 : Int32) = 0 by decide), z_done_12356_3 (w_same rfl), gCi_i]
  · exact RM_d r1
  · exact frM_d ((frM.rf.w (by omega)).tr r2)
theorem L_merge {X : gX} {k : Nat} {b : Int32} (h : JJ X k) (hk : k < 600) : LI (f_Lw_merge X b) (fun Y => f_Mo_merge Y b) k := by
  obtain ⟨A, nm, hM, hC, hI, h0, hK⟩ := h
  have lim := RC_lim hC (by omega)
  by_cases c : b < 0 ∨ ¬ b ≤ 1
  · refine LI_ref (p := 1) (e := 1) (v := 0) (by omega) hM hC hI h0 hK ?_ (fun Y hY hY0 => ?_)
    · unfold f_Lw_merge f_Le_merge
      rw [C_rangeT c, gCvt_t, gCit_t, if_pos rfl, if_pos lim]
      rfl
    · have : f_Mo_merge Y b = f_Mo_merge_10 Y b := by
        unfold f_Mo_merge
        by_cases c1 : b < 0
        · rw [if_pos c1]
        · rw [if_neg c1, if_neg (c.elim (fun q => absurd q c1) id)]
      show f_Mo_merge Y b = _
      rw [this]
      unfold f_Mo_merge_10 f_Mo_merge_15 f_Mo_merge_63
      rw [s_wrong1 hY0 (by decide), gCi_i, if_neg (show ¬ (1 : Int32) = 0 by decide), z_done_12356_1 (w_same rfl), gCi_i]
  have c1 : ¬ b < 0 := fun q => c (Or.inl q)
  have c2 : b ≤ 1 := Classical.not_not.mp (fun q => c (Or.inr q))
  have h15 : ∀ Y, Y.I 46 0 = 0 → f_Mo_merge Y b = (if (Y.I 46 18) = (0 : Int32) then f_Mo_merge_35 Y b 1 else f_Mo_merge_35 Y b 0) := fun Y hY0 => by
    unfold f_Mo_merge f_Mo_merge_15
    rw [if_neg c1, if_pos c2, s_wrong0 hY0, gCi_i, if_pos rfl]
  by_cases o : aS A 18 = 0
  · refine LI_ref (p := 2) (e := 2) (v := 0) (by omega) hM hC hI h0 hK ?_ (fun Y hY hY0 => ?_)
    · unfold f_Lw_merge f_Le_merge f_Le_requireWriter
      rw [C_rangeV c1 c2, gCvt_v, cS_18 hC.1, if_pos o, gCvt_t, gCit_t, if_neg (by decide), if_pos rfl, if_pos lim]
      rfl
    · show f_Mo_merge Y b = _
      rw [h15 Y hY0, RM_S hY 18 (by decide) (by decide) (by decide), if_pos o]
      unfold f_Mo_merge_35 f_Mo_merge_63
      rw [s_wrong1 hY0 (by decide), gCi_i, if_neg (show ¬ (1 : Int32) = 0 by decide), z_done_12356_2 (w_same rfl), gCi_i]
  have h30 := hI.1.2.2.1.1
  have h30' := hI.1.2.2.1.2
  have h35 : ∀ Y, RM Y A → Y.I 46 0 = 0 → f_Mo_merge Y b = (if nI (aM A).length = (4 : Int32) then f_Mo_merge_56 Y b 1 else f_Mo_merge_56 Y b 0) := fun Y hY hY0 => by
    rw [h15 Y hY0, RM_S hY 18 (by decide) (by decide) (by decide), if_neg o]
    unfold f_Mo_merge_35
    rw [s_wrong0 hY0, gCi_i, if_pos rfl, RM_S hY 30 (by decide) (by decide) (by decide), h30]
  by_cases c4 : (aM A).length = 4
  · refine LI_ref (p := 4) (e := 5) (v := 0) (by omega) hM hC hI h0 hK ?_ (fun Y hY hY0 => ?_)
    · unfold f_Lw_merge f_Le_merge f_Le_requireWriter
      rw [C_rangeV c1 c2, gCvt_v, cS_18 hC.1, if_neg o, gCvt_v, cS_30 hC.1, h30, c4, if_neg (show ¬ nI 4 < 4 by decide), gCit_t, if_neg (by decide), if_neg (by decide), if_neg (by decide), if_pos rfl, if_pos lim]
      rfl
    · show f_Mo_merge Y b = _
      rw [h35 Y hY hY0, c4, if_pos (show nI 4 = (4 : Int32) by decide)]
      unfold f_Mo_merge_56 f_Mo_merge_63
      rw [s_wrong1 hY0 (by decide), gCi_i, if_neg (show ¬ (1 : Int32) = 0 by decide), z_done_12356_5 (w_same rfl), gCi_i]
  have hl4 : (aM A).length < 4 := by omega
  have hm := Mid_of (Inv_mono hI (Nat.le_succ k)) o
  have hB := (VB_of hm.2.2.2.2.1.1.1 (show dc A - bf A ≤ 4096 by have := hm.2.1.1.1.2; omega)).1
  have hg := hI.1.2.1.1
  have hWr : Wr A := Wr_of hI o
  have hF0 : f_Lw_merge X b = gCit (if b = (1 : Int32) then gCi (f_Le_allCanBeMerged X) (fun x8 X8 => (if x8 = (0 : Int32) then some (gR.t "java/util/NoSuchElementException", X8) else gCit (f_Le_beginMerge X8 0 (X8.I 8 4)) (fun E X => some (gR.t E, X)) (fun x10 X10 => some (gR.i x10, X10)))) else gCi (f_Le_firstByPolicy X) (fun x5 X5 => (if (0 : Int32) ≤ x5 then gCit (f_Le_beginMerge X5 x5 (X5.I 0 11)) (fun E X => some (gR.t E, X)) (fun x7 X7 => some (gR.i x7, X7)) else some (gR.t "java/util/NoSuchElementException", X5)))) (fun E X => (if E = "java/lang/IllegalArgumentException" then (if X.cc + 1 ≤ gCL ∧ X.ss + 6 ≤ gSL then gB X.ex (fun X2 => some (gR.i 1, X2)) else none) else (if E = "java/lang/IllegalStateException" then (if X.cc + 1 ≤ gCL ∧ X.ss + 6 ≤ gSL then gB X.ex (fun X3 => some (gR.i 2, X3)) else none) else (if E = "java/util/NoSuchElementException" then (if X.cc + 1 ≤ gCL ∧ X.ss + 6 ≤ gSL then gB X.ex (fun X4 => some (gR.i 3, X4)) else none) else (if E = "java/lang/IndexOutOfBoundsException" then (if X.cc + 1 ≤ gCL ∧ X.ss + 6 ≤ gSL then gB X.ex (fun X5 => some (gR.i 4, X5)) else none) else (if E = "java/lang/ArithmeticException" then (if X.cc + 1 ≤ gCL ∧ X.ss + 6 ≤ gSL then gB X.ex (fun X6 => some (gR.i 5, X6)) else none) else none)))))) (fun x1 X1 => gB (X1.w 116 0 x1) (fun X7 => some (gR.i 0, X7))) := by
    unfold f_Lw_merge f_Le_merge f_Le_requireWriter
    rw [C_rangeV c1 c2, gCvt_v, cS_18 hC.1, if_neg o, gCvt_v, cS_30 hC.1, h30, if_pos (show nI (aM A).length < (4 : Int32) from nI_lt (b := 4) hl4 (by omega))]
  have hG0 : ∀ Y, RM Y A → Y.I 46 0 = 0 → f_Mo_merge Y b = gCi (f_Mo_chosen Y b) (fun x11 X11 => (if (0 : Int32) ≤ x11 then f_Mo_merge_88 X11 x11 0 else f_Mo_merge_88 X11 x11 1)) := fun Y hY hY0 => by
    rw [h35 Y hY hY0, if_neg (show ¬ nI (aM A).length = (4 : Int32) from fun q => c4 ((nI_eq (b := 4) (by omega) (by omega)).mp q))]
    unfold f_Mo_merge_56
    rw [s_wrong0 hY0, gCi_i, if_pos rfl]
  by_cases b1 : b = 1
  · subst b1
    have hall := C_allMerge hC hWr o
    have h84 : X.I 8 4 = nI (aV A 54).1.length := ((RC_W hC).1.1 o).1
    cases e : amg A with
    | true =>
      refine L_mgB hM hC hI h0 hK hk o hl4 (CH_all hm e) (fun cc Y => ⟨fun q => ?_, fun q ql => ?_⟩) (fun Y hY hY0 => ?_)
      · rw [hF0, if_pos rfl, hall, e, gCi_i, if_neg (show ¬ b2i true = 0 by decide), h84]
        rw [show (0 : Int32) = nI 0 from rfl]
        rw [q, gCit_i, gCit_i, gB_b]
      · rw [hF0, if_pos rfl, hall, e, gCi_i, if_neg (show ¬ b2i true = 0 by decide), h84]
        rw [show f_Le_beginMerge X 0 (nI (aV A 54).1.length) = f_Le_beginMerge X (nI 0) (nI (aV A 54).1.length) from rfl, q, gCit_t, gCit_t, if_neg (by decide), if_neg (by decide), if_neg (by decide), if_neg (by decide), if_pos rfl, if_pos ql]
        rfl
      · rw [hG0 Y hY hY0, z_allm hY hm (by omega), e, gCi_i, if_pos rfl, if_pos (show (0 : Int32) ≤ 0 by decide)]
        rfl
    | false =>
      refine L_mgN (v := nI (aV A 54).1.length) (x := -1) hM hC hI h0 hK ?_ (fun Y hY hY0 => ?_)
      · rw [hF0, if_pos rfl, hall, e, gCi_i, if_pos b2i_f, gCit_t, if_neg (by decide), if_neg (by decide), if_pos rfl, if_pos lim]
        rfl
      · rw [hG0 Y hY hY0, z_allm hY hm (by omega), e, gCi_i, if_neg (show ¬ false = true by decide), if_neg (show ¬ (0 : Int32) ≤ -1 by decide)]
  · have b0 : b = 0 := by
      obtain ⟨m, hm1, rfl⟩ := nI_of2 (M := 1) (n := 1) (by decide) c1 c2
      have : m = 0 := by
        by_cases cm : m = 1
        · subst cm
          exact absurd rfl b1
        · omega
      rw [this]
      rfl
    subst b0
    have hpol := C_policy hC hWr o hg
    have e11 : X.I 0 11 = nI (gn (aS A 25)) := (cS_25 hC.1).trans hg.1
    rcases hpol with ⟨l, s, p1, p2⟩ | ⟨p1, p2⟩
    · have hsl : s ≤ 4096 := by have := p1.2.1.1.1; have := hB.1; omega
      refine L_mgB hM hC hI h0 hK hk o hl4 (CH_pol p1 hg.2.1) (fun cc Y => ⟨fun q => ?_, fun q ql => ?_⟩) (fun Y hY hY0 => ?_)
      · rw [hF0, if_neg b1, p2, gCi_i, if_pos (nI_pos' (by omega)), e11, q, gCit_i, gCit_i, gB_b]
      · rw [hF0, if_neg b1, p2, gCi_i, if_pos (nI_pos' (by omega)), e11, q, gCit_t, gCit_t, if_neg (by decide), if_neg (by decide), if_neg (by decide), if_neg (by decide), if_pos rfl, if_pos ql]
        rfl
      · rw [hG0 Y hY hY0]
        rcases z_policy hY hB hg hB.2.2 with ⟨l', s', r1, r2⟩ | ⟨r1, _⟩
        · rw [r2, gCi_i, if_pos (nI_pos' (by have := r1.2.1.1.1; have := hB.1; omega)), PolS_u r1 p1]
        · exact absurd p1.2.1.1 (r1 l p1.1 s)
    · refine L_mgN (v := nI (gn (aS A 25))) (x := -1) hM hC hI h0 hK ?_ (fun Y hY hY0 => ?_)
      · rw [hF0, if_neg b1, p2, gCi_i, if_neg (show ¬ (0 : Int32) ≤ -1 by decide), gCit_t, if_neg (by decide), if_neg (by decide), if_pos rfl, if_pos lim]
        rfl
      · rw [hG0 Y hY hY0]
        rcases z_policy hY hB hg hB.2.2 with ⟨l', s', r1, _⟩ | ⟨_, r2⟩
        · exact absurd r1.2.1.1 (p1 l' r1.1 s')
        · rw [r2, gCi_i, if_neg (show ¬ (0 : Int32) ≤ -1 by decide)]
