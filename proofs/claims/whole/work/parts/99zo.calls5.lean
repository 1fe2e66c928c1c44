/-! THE PURE SIDE: the calls segment, count, harm -/
theorem z_level {X : gX} {A : zA} {s : Nat} {x : zS} (h : RM X A) (hB : VB (aD A) (aV A 54)) (hx : (aV A 54).1[s]? = some x) (hg : aS A 25 = nI (gn (aS A 25)) ∧ 2 ≤ gn (aS A 25) ∧ gn (aS A 25) ≤ 64) : f_Mo_level X (nI s) = some (gR.i (nI (lev (gn (aS A 25)) ((aD A x.1).countP (aV A 54).2.1))), X) := by
  have hV := RM_V h 54 rfl
  obtain ⟨g0, g1, g2⟩ := hg
  have hn : (aD A x.1).countP (aV A 54).2.1 ≤ 4096 := by
    have q1 := List.countP_le_length (p := (aV A 54).2.1) (l := aD A x.1)
    have q2 := off_s (D := aD A) hx
    have q3 := off_all (D := aD A) (l := (aV A 54).1) (s := s + 1)
    have q4 : (fl (aD A) (aV A 54).1).length ≤ 4096 := hB.2.1
    omega
  have hL := LV_lev g1 hn
  have e25 : X.I 46 25 = nI (gn (aS A 25)) := (RM_S h 25 (by decide) (by decide) (by decide)).trans g0
  unfold f_Mo_level
  rw [z_liveIn hV hB hx, gCi_i, e25, nI_l (by omega)]
  refine gI_at (fun j => (nI j, lN (gn (aS A 25) ^ (j + 1)))) (lev (gn (aS A 25)) ((aD A x.1).countP (aV A 54).2.1)) (gK_lt (by have := hL.1; omega)) (fun j hj => ?_) ?_ (by rw [Nat.pow_succ, Nat.pow_zero, Nat.one_mul]; rfl)
  · show f_Mo_level_18 X (nI ((aD A x.1).countP (aV A 54).2.1)) (nI j) (lN (gn (aS A 25) ^ (j + 1))) = _
    have hb := LV_b hL g1 g2 hn (Nat.le_of_lt hj)
    unfold f_Mo_level_18
    rw [nI_l (by omega), if_neg (show ¬ lN (gn (aS A 25) ^ (j + 1)) > lN ((aD A x.1).countP (aV A 54).2.1) from fun q => by
      have := (lN_lt (by omega) (by omega)).mp q
      have := hL.2.1 j hj
      omega), nI_1, e25, nI_l (by omega), lN_mul, ← Nat.pow_succ]
  · show f_Mo_level_18 X (nI ((aD A x.1).countP (aV A 54).2.1)) (nI (lev (gn (aS A 25)) ((aD A x.1).countP (aV A 54).2.1))) (lN (gn (aS A 25) ^ (lev (gn (aS A 25)) ((aD A x.1).countP (aV A 54).2.1) + 1))) = _
    have hb := LV_b hL g1 g2 hn (Nat.le_refl _)
    unfold f_Mo_level_18
    rw [nI_l (by omega), if_pos (show lN (gn (aS A 25) ^ (lev (gn (aS A 25)) ((aD A x.1).countP (aV A 54).2.1) + 1)) > lN ((aD A x.1).countP (aV A 54).2.1) from (lN_lt (by omega) (by omega)).mpr hL.2.2), gLf_s]
theorem Wr_of {A : zA} {k : Nat} (h : Inv A k) (o : ¬ aS A 18 = 0) : Wr A := ⟨h.1.1.1.2, h.2.1.1, (h.2.2.2.1 o).1, (h.2.2.2.1 o).2.2.1, h.2.2.2.2.1.1.2.2.1 o, h.1.2.2.1.1, h.1.2.2.1.2⟩
theorem L_segment {X : gX} {k : Nat} {a b : Int32} (h : JJ X k) (hk : k < 600) : LI (f_Lw_segment X a b) (fun Y => f_Mo_segment Y a b) k := by
  obtain ⟨A, nm, hM, hC, hI, h0, hK⟩ := h
  have lim := RC_lim hC (by omega)
  by_cases c : b < 0 ∨ ¬ b ≤ 4
  · refine LI_ref (p := 1) (e := 1) (v := 0) (by omega) hM hC hI h0 hK ?_ (fun Y hY hY0 => ?_)
    · unfold f_Lw_segment f_Le_segment
      rw [C_rangeT c, gCvt_t, gCit_t, if_pos rfl, if_pos lim]
      rfl
    · have hG : f_Mo_segment Y a b = f_Mo_segment_10 Y a b := by
        unfold f_Mo_segment
        rcases c with c | c
        · rw [if_pos c]
        · by_cases c2 : b < 0
          · rw [if_pos c2]
          · rw [if_neg c2, if_neg c]
      show f_Mo_segment Y a b = _
      rw [hG]
      unfold f_Mo_segment_10 f_Mo_segment_15 f_Mo_segment_70
      rw [s_wrong1 hY0 (by decide), gCi_i, if_neg (by decide), z_done_123_1 (w_same rfl), gCi_i]
  · have c1 : ¬ b < 0 := fun q => c (Or.inl q)
    have c2 : b ≤ 4 := Classical.not_not.mp (fun q => c (Or.inr q))
    have hG : ∀ Y, f_Mo_segment Y a b = f_Mo_segment_15 Y a b 0 := fun Y => by
      unfold f_Mo_segment
      rw [if_neg c1, if_pos c2]
    by_cases o : aS A 18 = 0
    · refine LI_ref (p := 2) (e := 2) (v := 0) (by omega) hM hC hI h0 hK ?_ (fun Y hY hY0 => ?_)
      · unfold f_Lw_segment f_Le_segment f_Le_requireWriter
        rw [C_rangeV c1 c2, gCvt_v, cS_18 hC.1, if_pos o, gCvt_t, gCit_t, if_neg (by decide), if_pos rfl, if_pos lim]
        rfl
      · show f_Mo_segment Y a b = _
        rw [hG Y]
        unfold f_Mo_segment_15 f_Mo_segment_35 f_Mo_segment_70
        rw [s_wrong0 hY0, gCi_i, if_pos rfl, RM_S hY 18 (by decide) (by decide) (by decide), if_pos o, s_wrong1 hY0 (by decide), gCi_i, if_neg (by decide), z_done_123_2 (w_same rfl), gCi_i]
    · have hw := Wr_of hI o
      obtain ⟨w1, w2, ⟨w3, w4⟩, w5, w8, w9, w10⟩ := hw
      obtain ⟨v1, v2, v3⟩ := VB_of w3 (show dc A - bf A ≤ 4096 by omega)
      have hCV := (RC_W hC).1.1 o
      have hlen : (aV A 54).1.length ≤ 4096 := v1.1
      have hW : ∀ Y, f_Le_requireWriter Y = if Y.I 0 7 = 0 then some (gR.t "java/lang/IllegalStateException", Y) else some (gR.v, Y) := fun Y => rfl
      by_cases d : a < 0 ∨ ¬ a < nI (aV A 54).1.length
      · refine LI_ref (p := 3) (e := 3) (v := 0) (by omega) hM hC hI h0 hK ?_ (fun Y hY hY0 => ?_)
        · unfold f_Lw_segment f_Le_segment f_Le_segment_25
          rw [C_rangeV c1 c2, gCvt_v, hW, cS_18 hC.1, if_neg o, gCvt_v, hCV.1]
          have : (if a < 0 then some (gR.t "java/util/NoSuchElementException", X) else if a < nI (aV A 54).1.length then (if gIn a 4096 then (if b = (0 : Int32) then gM (X.G 9 (gn a)) (fun n6 => (if gFile X.N n6 then some (gR.i (X.I n6 4), X) else none)) else (if b = (1 : Int32) then gM (X.G 9 (gn a)) (fun n8 => (if gFile X.N n8 then gCi (f_Vi_liveIn X 8 (X.G 9 (gn a))) (fun x10 X10 => some (gR.i ((X.I n8 4) - x10), X10)) else none)) else (if b = (2 : Int32) then gCi (f_Le_levelOf X (X.G 9 (gn a))) (fun x11 X11 => some (gR.i x11, X11)) else (if b = (3 : Int32) then gCi (f_Le_mergeOf X (X.G 9 (gn a))) (fun x12 X12 => some (gR.i x12, X12)) else gM (X.G 9 (gn a)) (fun n13 => (if gFile X.N n13 then (if gIn (X.I n13 5) 4096 then some (gR.i (X.I 4 (gn (X.I n13 5))), X) else none) else none)))))) else none) else some (gR.t "java/util/NoSuchElementException", X)) = some (gR.t "java/util/NoSuchElementException", X) := by
            by_cases d1 : a < 0
            · rw [if_pos d1]
            · rw [if_neg d1, if_neg (d.elim (fun q => absurd q d1) id)]
          rw [this, gCit_t, if_neg (by decide), if_neg (by decide), if_pos rfl, if_pos lim]
          rfl
        · show f_Mo_segment Y a b = _
          rw [hG Y]
          have h58 : f_Mo_segment_35 Y a b 0 = f_Mo_segment_58 Y a b := by
            unfold f_Mo_segment_35
            rw [s_wrong0 hY0, gCi_i, if_pos rfl, (RM_V hY 54 rfl).1.1]
            by_cases d1 : a < 0
            · rw [if_pos d1]
            · rw [if_neg d1, if_neg (d.elim (fun q => absurd q d1) id)]
          unfold f_Mo_segment_15
          rw [s_wrong0 hY0, gCi_i, if_pos rfl, RM_S hY 18 (by decide) (by decide) (by decide), if_neg o, h58]
          unfold f_Mo_segment_58 f_Mo_segment_63 f_Mo_segment_70
          rw [s_wrong1 hY0 (by decide), gCi_i, if_neg (by decide), z_done_123_3 (w_same rfl), gCi_i]
      · have d1 : ¬ a < 0 := fun q => d (Or.inl q)
        have d2 : a < nI (aV A 54).1.length := Classical.not_not.mp (fun q => d (Or.inr q))
        obtain ⟨s, hs, rfl⟩ := nI_of d1
        have hsl : s < (aV A 54).1.length := (nI_ltI hs (by omega)).mp d2
        obtain ⟨x, hx⟩ := vs_at hsl
        have hxm := vs_mem hx
        obtain ⟨x1, x2⟩ := hCV.2.2.1 s x hx
        have hf := (w3.1 x hxm).1
        obtain ⟨t1, -, -, -, t4, t5, -⟩ := cT_at (RC_T hC) w2 (w8 x hxm).1
        have hWC : WC (aH A) (dc A - bf A) (aV A 54) := fun e he => (w4 e he).imp id (fun q => q.1)
        have hlive : f_Vi_liveIn X 8 (some (nm x.1)) = some (gR.i (nI ((aD A x.1).countP (aV A 54).2.1)), X) := C_liveIn hCV (RC_T hC) w2 (w8 x hxm).1 hf (by omega) (VI_cov w3 hWC hxm)
        have hle : (aD A x.1).length ≤ 4096 := by
          have q2 := off_s (D := aD A) hx
          have q3 := off_all (D := aD A) (l := (aV A 54).1) (s := s + 1)
          have q4 : (fl (aD A) (aV A 54).1).length ≤ 4096 := v1.2.1
          omega
        have hcp := List.countP_le_length (p := (aV A 54).2.1) (l := aD A x.1)
        have hst : gSt (aH A) x.1 < 4096 := by
          have a1 := hf.2.1 _ hf.2.2.1
          have a2 := hf.2.2.2.1
          omega
        have hg := hI.1.2.1.1
        have hlev := C_levelOf hlive ((cS_25 hC.1).trans hg.1) hg.2.1 hg.2.2 (by omega)
        have hmer := C_mergeOf (RC_T hC) (RC_M hC) (cS_30 hC.1) (Wr_of hI o) hxm
        have hm6 := v1.2.2 x hxm
        have j1 : gIn (nI s) 4096 = true := gIn_nI (by omega) (by omega)
        have j2 : gIn (nI s) 4098 = true := gIn_nI (by omega) (by omega)
        have j3 : gIn (nI (s + 1)) 4098 = true := gIn_nI (by omega) (by omega)
        have htl : gTl (aH A) x.1 = (aD A x.1).length := hf.2.2.2.2
        have hCl : ∀ {r : gR × gX}, (if b = (0 : Int32) then some (gR.i (nI (aD A x.1).length), X) else (if b = (1 : Int32) then some (gR.i (nI (aD A x.1).length - nI ((aD A x.1).countP (aV A 54).2.1)), X) else (if b = (2 : Int32) then some (gR.i (nI (lev (gn (aS A 25)) ((aD A x.1).countP (aV A 54).2.1))), X) else (if b = (3 : Int32) then some (gR.i (nI x.2.2), X) else some (gR.i (aE A 2 (gSt (aH A) x.1)), X))))) = some r → f_Le_segment X (nI s) b = some r := by
          intro r hr
          unfold f_Le_segment
          rw [C_rangeV c1 c2, gCvt_v, hW, cS_18 hC.1, if_neg o, gCvt_v, hCV.1, if_neg d1, if_pos d2, if_pos j1, gn_nI (by omega), x1, ← hr]
          simp only [gM_s, t1, if_true, t4, htl, hlive, gCi_i, hlev, hmer, t5, gIn_nI hst (show 4096 < 2 ^ 31 by omega), gn_nI (show gSt (aH A) x.1 < 2 ^ 31 by omega), hC.2.2.1.2.2]
        have hMl : ∀ Y, RM Y A → Y.I 46 0 = 0 → ∀ {r : gR × gX}, (if b = (0 : Int32) then some (gR.i (nI (aD A x.1).length), Xd Y 0) else (if b = (1 : Int32) then some (gR.i (nI (aD A x.1).length - nI ((aD A x.1).countP (aV A 54).2.1)), Xd Y 0) else (if b = (2 : Int32) then some (gR.i (nI (lev (gn (aS A 25)) ((aD A x.1).countP (aV A 54).2.1))), Xd Y 0) else (if b = (3 : Int32) then some (gR.i (nI x.2.2), Xd Y 0) else some (gR.i (aE A 2 (gSt (aH A) x.1)), Xd Y 0))))) = some r → f_Mo_segment Y (nI s) b = some r := by
          intro Y hY hY0 r hr
          have hV := RM_V hY 54 rfl
          have q57 : Y.I 57 s = nI (off (aD A) (aV A 54).1 s) := hV.2.2.1 s (by omega)
          have q57' : Y.I 57 (s + 1) = nI (off (aD A) (aV A 54).1 s + (aD A x.1).length) := by rw [← off_s hx]; exact hV.2.2.1 (s + 1) (by omega)
          have q58 : Y.I 58 s = nI x.2.2 := hl_m (g := fun x : zS => nI x.2.2) hV.2.1.2.2 hx
          have hoff : off (aD A) (aV A 54).1 s + (aD A x.1).length ≤ 4096 := by
            have q2 := off_s (D := aD A) hx
            have q3 := off_all (D := aD A) (l := (aV A 54).1) (s := s + 1)
            have q4 : (fl (aD A) (aV A 54).1).length ≤ 4096 := v1.2.1
            omega
          have hfirst : (aD A x.1)[0]? = some (gSt (aH A) x.1) := by
            obtain ⟨t, ht⟩ := List.getElem?_of_mem hf.2.2.1
            cases t with
            | zero => exact ht
            | succ t =>
              obtain ⟨y, hy⟩ := vs_at (l := aD A x.1) (s := 0) (by have : t + 1 < (aD A x.1).length := vs_lt ht; omega)
              have a1 := srt_lt hf.1 hy ht (by omega)
              have a2 := (hf.2.1 y (vs_mem hy)).1
              omega
          have hpos : 0 < (aD A x.1).length := List.length_pos_of_mem hf.2.2.1
          have q59 : Y.I 59 (off (aD A) (aV A 54).1 s) = nI (gSt (aH A) x.1) := by
            have := hl_m hV.2.2.2.1 (fl_at hx hfirst)
            rw [Nat.add_zero] at this
            exact this
          have e3 : nI (off (aD A) (aV A 54).1 s + (aD A x.1).length) - nI (off (aD A) (aV A 54).1 s) = nI (aD A x.1).length := by rw [pk_sub (by omega), Nat.add_sub_cancel_left]
          rw [hG Y]
          unfold f_Mo_segment_15 f_Mo_segment_35 f_Mo_segment_63
          rw [s_wrong0 hY0, gCi_i, if_pos rfl, RM_S hY 18 (by decide) (by decide) (by decide), if_neg o, s_wrong0 hY0, gCi_i, if_pos rfl, if_neg d1, hV.1.1, if_pos d2, s_wrong0 hY0, gCi_i, if_pos rfl, nI_1, if_pos j3, if_pos j2, gn_nI (k := s) (by omega), gn_nI (k := s + 1) (by omega), q57, q57', e3, ← hr]
          simp only [z_done_123_0 hY0, gCi_i, z_liveIn hV v1 hx, z_level hY v1 hx hg, gIn_nI (show s < 4097 by omega) (show 4097 < 2 ^ 31 by omega), if_true, q58, j2, gIn_nI (show off (aD A) (aV A 54).1 s < 4096 by omega) (show 4096 < 2 ^ 31 by omega), gn_nI (show off (aD A) (aV A 54).1 s < 2 ^ 31 by omega), q59, gIn_nI hst (show 4096 < 2 ^ 31 by omega), gn_nI (show gSt (aH A) x.1 < 2 ^ 31 by omega), hY.2.1.2.2]
        have fin : ∀ v, (∀ Z : gX, (if b = (0 : Int32) then some (gR.i (nI (aD A x.1).length), Z) else (if b = (1 : Int32) then some (gR.i (nI (aD A x.1).length - nI ((aD A x.1).countP (aV A 54).2.1)), Z) else (if b = (2 : Int32) then some (gR.i (nI (lev (gn (aS A 25)) ((aD A x.1).countP (aV A 54).2.1))), Z) else (if b = (3 : Int32) then some (gR.i (nI x.2.2), Z) else some (gR.i (aE A 2 (gSt (aH A) x.1)), Z))))) = some (gR.i v, Z)) → LI (f_Lw_segment X (nI s) b) (fun Y => f_Mo_segment Y (nI s) b) k := by
          intro v hv
          refine LI_same hM hC hI h0 hK (v := v) ?_ (fun Y hY hY0 => hMl Y hY hY0 (hv (Xd Y 0)))
          unfold f_Lw_segment
          rw [hCl (hv X), gCit_i, gB_b]
        by_cases b0 : b = 0
        · exact fin _ (fun Z => by rw [if_pos b0])
        · by_cases b1 : b = 1
          · exact fin _ (fun Z => by rw [if_neg b0, if_pos b1])
          · by_cases b2 : b = 2
            · exact fin _ (fun Z => by rw [if_neg b0, if_neg b1, if_pos b2])
            · by_cases b3 : b = 3
              · exact fin _ (fun Z => by rw [if_neg b0, if_neg b1, if_neg b2, if_pos b3])
              · exact fin _ (fun Z => by rw [if_neg b0, if_neg b1, if_neg b2, if_neg b3])
