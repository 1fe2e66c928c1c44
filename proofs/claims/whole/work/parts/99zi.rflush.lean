/-! THE PURE SIDE: a flush of the reference -/
theorem RM_V {X : gX} {A : zA} (h : RM X A) (n : Nat) (hn : gVer n = true) : VR X.I n (aD A) (aL A) (aV A n) := h.2.2.2.1 n hn
theorem RM_S {X : gX} {A : zA} (h : RM X A) (j : Nat) (h1 : 2 ≤ j) (h2 : j ≠ 10) (h3 : j ≠ 33) : X.I 46 j = aS A j := h.1 j h1 h2 h3
/-- RM where a version's rows, the buffer and scalars have changed -/
theorem RM_fl0 {X : gX} {A : zA} (h : RM X A) : RM (X.w 46 23 0) (aFl0 A) := by
  obtain ⟨h1, h2, h3, h4, h5, h6⟩ := h
  refine ⟨fun j j1 j2 j3 => ?_, mE_fr (A := aFl0 A) h2 (gX.w_ne (by decide)) (gX.w_ne (by decide)) (gX.w_ne (by decide)), mT_fr h3 (w_oth (Or.inr (by decide))) (gX.w_ne (by decide)) (gX.w_ne (by decide)) (gX.w_ne (by decide)), mV_fr (A := aFl0 A) h4 (fun a a1 a2 => gX.w_ne (by omega)) (fun a a1 a2 => gX.w_ne (by omega)), fun k hk => absurd hk (by show ¬ k < gn (upd (aS A) 23 0 23); rw [upd_at, if_pos rfl]; exact Nat.not_lt_zero _), mM_fr (A := aFl0 A) h6 (fun a a1 a2 => gX.w_ne (by omega)) (fun a a1 a2 => gX.w_ne (by omega)) rfl⟩
  rw [gX.w_self]
  show upd (X.I 46) 23 0 j = upd (aS A) 23 0 j
  rw [upd_at, upd_at, h1 j j1 j2 j3]
theorem GH_of {A : zA} {D : List Nat} {L : Nat → Bool} {tl st en : Nat} (hN : NW A) (ho : ¬ aS A 18 = 0) : GH A (hU (aH A) (wr A) D L tl st en) := by
  refine ⟨fun n hn x hx => ?_, fun m hm => (hU_o (by have := hN.2.2.2 m hm; omega)).1⟩
  obtain ⟨h1, h2⟩ := hN.1 n hn (fun _ => ho) x hx
  exact ⟨(hU_o (by omega)).1, fun k hk => (hU_o (by have := h2 k hk; omega)).2.1⟩
/-- the loop over the buffer: is there a live one -/
theorem z_flLoop {X : gX} {A : zA} {k : Nat} (h : RM X A) (hw : Fb A k) {r : gR × gX} (hr : f_Mo_flushing_4 X (b2i (flS A)) (nI (bf A)) = some (Sum.inr r)) : f_Mo_flushing X = some r := by
  obtain ⟨⟨o, hb, hk⟩, ⟨⟨h5, h5'⟩, ⟨h23, h23'⟩, h11⟩⟩ := hw
  have e23 : X.I 46 23 = nI (bf A) := (RM_S h 23 (by decide) (by decide) (by decide)).trans h23
  unfold f_Mo_flushing
  refine gI_at (fun i => (b2i (decide (0 < cnt (aV A 54).2.1 (dc A - bf A) i)), nI i)) (bf A) (gK_lt (by omega)) (fun i hi => ?_) hr rfl
  show f_Mo_flushing_4 X (b2i (decide (0 < cnt (aV A 54).2.1 (dc A - bf A) i))) (nI i) = _
  have hB := (h.2.2.2.2.1 i hi).2
  unfold f_Mo_flushing_4 f_Mo_flushing_25 f_Mo_flushing_30
  rw [e23, if_neg (nI_ge hi (by omega)), if_pos (gIn_nI (by omega) (by omega)), gn_nI (by omega), hB, nI_1]
  cases c : (aV A 54).2.1 (dc A - bf A + i) with
  | false =>
    have e1 : cnt (aV A 54).2.1 (dc A - bf A) (i + 1) = cnt (aV A 54).2.1 (dc A - bf A) i := cnt_f (by rw [c]; simp)
    rw [e1, if_pos b2i_f]
    by_cases c2 : 0 < cnt (aV A 54).2.1 (dc A - bf A) i
    · rw [show decide (0 < cnt (aV A 54).2.1 (dc A - bf A) i) = true from decide_eq_true c2, if_neg (by decide)]
      rfl
    · rw [show decide (0 < cnt (aV A 54).2.1 (dc A - bf A) i) = false from decide_eq_false c2, if_pos b2i_f]
      rfl
  | true =>
    have e1 : cnt (aV A 54).2.1 (dc A - bf A) (i + 1) = cnt (aV A 54).2.1 (dc A - bf A) i + 1 := cnt_t c
    rw [e1, show decide (0 < cnt (aV A 54).2.1 (dc A - bf A) i + 1) = true from decide_eq_true (by omega), if_neg (show ¬ b2i true = 0 by decide)]
    by_cases c2 : b2i (decide (0 < cnt (aV A 54).2.1 (dc A - bf A) i)) = 0
    · rw [if_pos c2]; rfl
    · rw [if_neg c2]; rfl
theorem z_flush0 {X : gX} {A : zA} {k : Nat} (h : RM X A) (hw : Fb A k) (hs : flS A = false) : ∃ Y, f_Mo_flushing X = some (gR.i 1, Y) ∧ RM Y (aFl0 A) ∧ frM X Y ∧ Y.I 46 0 = X.I 46 0 := by
  have hw' := hw
  obtain ⟨⟨o, hb, hk⟩, ⟨⟨h5, h5'⟩, ⟨h23, h23'⟩, h11⟩⟩ := hw
  have e23 : X.I 46 23 = nI (bf A) := (RM_S h 23 (by decide) (by decide) (by decide)).trans h23
  refine ⟨X.w 46 23 0, z_flLoop h hw' ?_, RM_fl0 h, frM.rf.w (by omega), w_oth (Or.inr (by decide))⟩
  unfold f_Mo_flushing_4 f_Mo_flushing_222
  rw [e23, if_pos (nI_le (Nat.le_refl _) (by omega)), hs, if_pos b2i_f]
  rfl
theorem z_flushT {X : gX} {A : zA} {k : Nat} (h : RM X A) (hw : Fb A k) (hs : flS A = true) (h0 : aS A 13 = 0) : ∃ Y, f_Mo_flushing X = some (gR.i 0, Y) ∧ RM Y (aLose A) ∧ frM X Y ∧ Y.I 46 0 = 6 := by
  have hw' := hw
  obtain ⟨⟨o, hb, hk⟩, ⟨⟨h5, h5'⟩, ⟨h23, h23'⟩, h11⟩⟩ := hw
  have e23 : X.I 46 23 = nI (bf A) := (RM_S h 23 (by decide) (by decide) (by decide)).trans h23
  obtain ⟨Y, y1, y2⟩ := z_write0 h hb h0
  refine ⟨Y, z_flLoop h hw' ?_, y2⟩
  unfold f_Mo_flushing_4
  rw [e23, if_pos (nI_le (Nat.le_refl _) (by omega)), hs, if_neg (by decide), y1, gCi_i, if_neg (by decide)]
  rfl
def sFl (a : Nat) : Bool := decide (54 ≤ a ∧ a ≤ 61)
theorem z_flush1 {X : gX} {A : zA} {k : Nat} (h : RM X A) (hw : Fw A k) (hd : (fl (aD A) (aV A 54).1).length + bf A ≤ 4096) (hw9 : wr A < 1000000000) (hs : flS A = true) (h0 : ¬ aS A 13 = 0) : ∃ Y, f_Mo_flushing X = some (gR.i 1, Y) ∧ RM Y (aFl A) ∧ frM X Y ∧ Y.I 46 0 = X.I 46 0 := by
  have hw' : Fb A k := ⟨hw.1, hw.2.1⟩
  obtain ⟨⟨o, hb, hk⟩, ⟨⟨h5, h5'⟩, ⟨h23, h23'⟩, h11⟩, hN, hf, hl0, hl2⟩ := hw
  have e23 : X.I 46 23 = nI (bf A) := (RM_S h 23 (by decide) (by decide) (by decide)).trans h23
  obtain ⟨W, w1, w2, w3, w4⟩ := z_write1 (H := aFlH A) h h0 (by omega) h11 hw9 (GH_of hN o)
  have eA : ∀ j, j ≠ 11 → j ≠ 12 → j ≠ 13 → aS (aNew (aActd A) (aFlH A)) j = aS A j := fun j j1 j2 j3 => by
    show upd (aS (aActd A)) 11 (aS (aActd A) 11 + 1) j = _
    rw [upd_at, if_neg j1]
    exact aActd_S j2 j3
  have f23 : W.I 46 23 = nI (bf A) := (RM_S w2 23 (by decide) (by decide) (by decide)).trans ((eA 23 (by decide) (by decide) (by decide)).trans h23)
  have hVR : VR W.I 54 (aFlH A).1 (aFlH A).2.1 (aV A 54) := RM_V w2 54 rfl
  have hwB : ∀ i, i < bf A → W.I 78 i = nI (dc A - bf A + i) ∧ W.I 79 i = b2i ((aV A 54).2.1 (dc A - bf A + i)) := by
    have q := w2.2.2.2.2.1
    have e5 : dc (aNew (aActd A) (aFlH A)) = dc A := congrArg gn (eA 5 (by decide) (by decide) (by decide))
    have eb : bf (aNew (aActd A) (aFlH A)) = bf A := congrArg gn (eA 23 (by decide) (by decide) (by decide))
    unfold mB at q
    rw [e5, eb] at q
    exact q
  have hnw : ∀ x, x ∈ (aV A 54).1 → x.1 ≠ wr A := fun x hx => by have := (hN.1 54 rfl (fun _ => o) x hx).1; omega
  have hfl : fl (aFlH A).1 (aV A 54).1 = fl (aD A) (aV A 54).1 := fl_U hnw
  have s7 : W.I 54 7 = nI (aV A 54).1.length := hVR.1.1
  -- the segment's own rows
  have key : ∀ Z : gX, frI sFl W Z → Z.I 54 = W.I 54 → (∀ t, t ≤ (aV A 54).1.length → Z.I 57 t = nI (off (aFlH A).1 (aV A 54).1 t)) → hl (Z.I 55) (((aV A 54).1 ++ [((wr A, none, 0) : zS)]).map (fun x : zS => nI x.1)) → hl (Z.I 56) (((aV A 54).1 ++ [((wr A, none, 0) : zS)]).map (fun x : zS => li x.2.1)) → hl (Z.I 58) (((aV A 54).1 ++ [((wr A, none, 0) : zS)]).map (fun x : zS => nI x.2.2)) → Z.I 59 = W.I 59 → Z.I 60 = W.I 60 → Z.I 61 = W.I 61 → ∃ Y, f_Mo_flushing_104 Z (nI (aV A 54).1.length) = some (gR.i 1, Y) ∧ RM Y (aFl A) ∧ frM X Y ∧ Y.I 46 0 = X.I 46 0 := by
    intro Z z1 z54 z57 z55 z56 z58 z59 z60 z61
    have z46 : Z.I 46 = W.I 46 := z1.1 46 (by decide)
    have z78 : Z.I 78 = W.I 78 := z1.1 78 (by decide)
    have z79 : Z.I 79 = W.I 79 := z1.1 79 (by decide)
    unfold f_Mo_flushing_104
    rw [if_pos (gIn_nI (by omega) (by omega)), gn_nI (by omega), z57 _ (Nat.le_refl _), off_end, hfl]
    have lp := gI_inv (body := fun s : gX × Int32 => f_Mo_flushing_118 s.1 (nI (fl (aD A) (aV A 54).1).length) s.2) (fun i s => ∃ U, s = (U, nI i) ∧ frI sFl W U ∧ (∀ a, a ≠ 59 → a ≠ 60 → a ≠ 61 → U.I a = Z.I a) ∧ hl (U.I 59) ((fl (aD A) (aV A 54).1 ++ List.range' (dc A - bf A) i).map nI) ∧ hl (U.I 60) ((fl (aD A) (aV A 54).1 ++ List.range' (dc A - bf A) i).map (fun d => b2i ((aV A 54).2.1 d))) ∧ hl (U.I 61) ((lf (aFlH A).1 (aFlH A).2.1 (aV A 54).1 ++ (List.range' (dc A - bf A) i).map (fun _ => true)).map b2i)) (fun r => ∃ Y, r = (gR.i 1, Y) ∧ RM Y (aFl A) ∧ frM X Y ∧ Y.I 46 0 = X.I 46 0) (bf A) (by omega) (s0 := (Z, 0)) ⟨Z, rfl, z1, fun _ _ _ _ => rfl, by
        rw [z59, List.range'_zero, List.append_nil, ← hfl]
        exact hVR.2.2.2.1, by
        rw [z60, List.range'_zero, List.append_nil, ← hfl]
        exact hVR.2.2.2.2.1, by
        rw [z61, List.range'_zero, List.map_nil, List.append_nil]
        exact hVR.2.2.2.2.2⟩ (fun i s hi hI => by
      obtain ⟨U, rfl, u1, u2, u3, u4, u5⟩ := hI
      show ∃ s', f_Mo_flushing_118 U (nI (fl (aD A) (aV A 54).1).length) (nI i) = _ ∧ _
      have j1 : gIn (nI i) 4096 = true := gIn_nI (by omega) (by omega)
      have j2 : gIn (nI (fl (aD A) (aV A 54).1).length + nI i) 4096 = true := by rw [nI_add]; exact gIn_nI (by omega) (by omega)
      have e9 : gn (nI (fl (aD A) (aV A 54).1).length + nI i) = (fl (aD A) (aV A 54).1).length + i := by rw [nI_add]; exact gn_nI (by omega)
      have q78 : U.I 78 i = nI (dc A - bf A + i) := by rw [u2 78 (by decide) (by decide) (by decide), z78]; exact (hwB i hi).1
      have q79 : U.I 79 i = b2i ((aV A 54).2.1 (dc A - bf A + i)) := by rw [u2 79 (by decide) (by decide) (by decide), z79]; exact (hwB i hi).2
      have ln1 : (fl (aD A) (aV A 54).1 ++ List.range' (dc A - bf A) i).length = (fl (aD A) (aV A 54).1).length + i := by rw [List.length_append, List.length_range']
      have ln2 : (lf (aFlH A).1 (aFlH A).2.1 (aV A 54).1 ++ (List.range' (dc A - bf A) i).map (fun _ => true)).length = (fl (aD A) (aV A 54).1).length + i := by rw [List.length_append, List.length_map, List.length_range', lf_len, hfl]
      unfold f_Mo_flushing_118
      rw [u2 46 (by decide) (by decide) (by decide), z46, f23, if_neg (nI_ge hi (by omega))]
      simp only [j1, j2, if_true, gB_b, e9, gn_nI (show i < 2 ^ 31 by omega)]
      rw [q78, w_oth (Or.inl (by decide)), q79, b2i_nar, nI_1]
      refine ⟨_, rfl, _, rfl, ((u1.w (a := 59) (by decide)).w (a := 60) (by decide)).w (a := 61) (by decide), fun a a1 a2 a3 => by rw [gX.w_ne a3, gX.w_ne a2, gX.w_ne a1]; exact u2 a a1 a2 a3, ?_, ?_, ?_⟩
      · rw [List.range'_1_concat, ← List.append_assoc, List.map_append]
        refine hl_snoc u3 (fun j hj => ?_) ?_
        · rw [List.length_map, ln1] at hj
          rw [w_oth (Or.inl (by decide)), w_oth (Or.inl (by decide)), w_oth (Or.inr (by omega))]
        · rw [List.length_map, ln1, w_oth (Or.inl (by decide)), w_oth (Or.inl (by decide)), w_same rfl]
      · rw [List.range'_1_concat, ← List.append_assoc, List.map_append]
        refine hl_snoc u4 (fun j hj => ?_) ?_
        · rw [List.length_map, ln1] at hj
          rw [w_oth (Or.inl (by decide)), w_oth (Or.inr (by omega)), w_oth (Or.inl (by decide))]
        · rw [List.length_map, ln1, w_oth (Or.inl (by decide)), w_same rfl]
      · have e61 : lf (aFlH A).1 (aFlH A).2.1 (aV A 54).1 ++ (List.range' (dc A - bf A) (i + 1)).map (fun _ => true) = (lf (aFlH A).1 (aFlH A).2.1 (aV A 54).1 ++ (List.range' (dc A - bf A) i).map (fun _ => true)) ++ [true] := by
          rw [List.range'_1_concat, List.map_append, List.append_assoc]
          rfl
        rw [e61, List.map_append]
        refine hl_snoc u5 (fun j hj => ?_) ?_
        · rw [List.length_map, ln2] at hj
          rw [w_oth (Or.inr (by omega)), w_oth (Or.inl (by decide)), w_oth (Or.inl (by decide))]
        · rw [List.length_map, ln2, w_same rfl]
          rfl) (fun s hI => by
      obtain ⟨U, rfl, u1, u2, u3, u4, u5⟩ := hI
      show ∃ r, f_Mo_flushing_118 U (nI (fl (aD A) (aV A 54).1).length) (nI (bf A)) = _ ∧ _
      have q7 : U.I 54 7 = nI (aV A 54).1.length := by rw [u2 54 (by decide) (by decide) (by decide), z54]; exact s7
      unfold f_Mo_flushing_118 f_Mo_flushing_222
      rw [u2 46 (by decide) (by decide) (by decide), z46, f23, if_pos (nI_le (Nat.le_refl _) (by omega)), q7, nI_1, gB_b, w_same rfl, if_pos (gIn_nI (by omega) (by omega)), gn_nI (by omega), w_oth (Or.inl (by decide)), u2 46 (by decide) (by decide) (by decide), z46, f23, nI_add, gB_b, gB_b, gLf_s]
      obtain ⟨u1', u2', u3', u4', u5'⟩ := hU_w (H := aH A) (w := wr A) (D := List.range' (dc A - bf A) (bf A)) (L := fun _ => true) (tl := bf A) (st := dc A - bf A) (en := dc A)
      have hflN : fl (aFlH A).1 ((aV A 54).1 ++ [(wr A, none, 0)]) = fl (aD A) (aV A 54).1 ++ List.range' (dc A - bf A) (bf A) := by
        rw [fl_app, fl_1, hfl]
        congr 1
      have hlfN : lf (aFlH A).1 (aFlH A).2.1 ((aV A 54).1 ++ [(wr A, none, 0)]) = lf (aFlH A).1 (aFlH A).2.1 (aV A 54).1 ++ (List.range' (dc A - bf A) (bf A)).map (fun _ => true) := by
        rw [lf_app, lf_1]
        congr 1
        show ((aFlH A).1 (wr A)).map (lsd _ none) = _
        rw [show (aFlH A).1 (wr A) = List.range' (dc A - bf A) (bf A) from u1']
        rfl
      have fr : frM W ((U.w 54 7 (nI ((aV A 54).1.length + 1))).w 57 ((aV A 54).1.length + 1) (nI ((fl (aD A) (aV A 54).1).length + bf A))) := ((frM.of u1 (fun a ha => by simp only [sFl, decide_eq_true_eq] at ha; omega)).w (by omega)).w (by omega)
      have hRM : RM ((U.w 54 7 (nI ((aV A 54).1.length + 1))).w 57 ((aV A 54).1.length + 1) (nI ((fl (aD A) (aV A 54).1).length + bf A))) (sV1 (aNew (aActd A) (aFlH A)) 54 ((aV A 54).1 ++ [(wr A, none, 0)], (aV A 54).2)) := by
        obtain ⟨m1, m2, m3, m4, m5, m6⟩ := w2
        have fI : ∀ a, (a < 54 ∨ 61 < a) → ((U.w 54 7 (nI ((aV A 54).1.length + 1))).w 57 ((aV A 54).1.length + 1) (nI ((fl (aD A) (aV A 54).1).length + bf A))).I a = W.I a := fun a ha => by
          rw [gX.w_ne (by omega), gX.w_ne (by omega)]
          exact u1.1 a (by simp only [sFl, decide_eq_false_iff_not]; omega)
        refine ⟨mS_fr m1 (fI 46 (by omega)), mE_fr (A := sV1 (aNew (aActd A) (aFlH A)) 54 ((aV A 54).1 ++ [(wr A, none, 0)], (aV A 54).2)) m2 (fI 47 (by omega)) (fI 48 (by omega)) (fI 49 (by omega)), mT_fr m3 (by rw [fI 46 (by omega)]) (fI 50 (by omega)) (fI 51 (by omega)) (fI 52 (by omega)), fun n hn => ?_, mB_fr (A := sV1 (aNew (aActd A) (aFlH A)) 54 ((aV A 54).1 ++ [(wr A, none, 0)], (aV A 54).2)) m5 (fI 78 (by omega)) (fI 79 (by omega)), mM_fr (A := sV1 (aNew (aActd A) (aFlH A)) 54 ((aV A 54).1 ++ [(wr A, none, 0)], (aV A 54).2)) m6 (fun a a1 a2 => fI a (by omega)) (fun a a1 a2 => fI a (by omega)) (by show U.G 121 = _; rw [u1.2.1])⟩
        by_cases cn : n = 54
        · subst cn
          have ez : ∀ a, a ≠ 54 → a ≠ 57 → a ≠ 59 → a ≠ 60 → a ≠ 61 → ((U.w 54 7 (nI ((aV A 54).1.length + 1))).w 57 ((aV A 54).1.length + 1) (nI ((fl (aD A) (aV A 54).1).length + bf A))).I a = Z.I a := fun a a1 a2 a3 a4 a5 => by
            rw [gX.w_ne a2, gX.w_ne a1]
            exact u2 a a3 a4 a5
          show VR _ 54 (aFlH A).1 (aFlH A).2.1 ((aV A 54).1 ++ [(wr A, none, 0)], (aV A 54).2)
          refine ⟨⟨?_, ?_, ?_, ?_⟩, ⟨?_, ?_, ?_⟩, fun t ht => ?_, ?_, ?_, ?_⟩
          · rw [w_oth (Or.inl (by decide)), w_same rfl]
            show _ = nI ((aV A 54).1 ++ [(wr A, none, 0)]).length
            rw [List.length_append]
            rfl
          · rw [w_oth (Or.inl (by decide)), w_oth (Or.inr (by decide)), u2 54 (by decide) (by decide) (by decide), z54]
            exact hVR.1.2.1
          · rw [w_oth (Or.inl (by decide)), w_oth (Or.inr (by decide)), u2 54 (by decide) (by decide) (by decide), z54]
            exact hVR.1.2.2.1
          · rw [w_oth (Or.inl (by decide)), w_oth (Or.inr (by decide)), u2 54 (by decide) (by decide) (by decide), z54]
            exact hVR.1.2.2.2
          · rw [ez (54 + 1) (by decide) (by decide) (by decide) (by decide) (by decide)]; exact z55
          · rw [ez (54 + 2) (by decide) (by decide) (by decide) (by decide) (by decide)]; exact z56
          · rw [ez (54 + 4) (by decide) (by decide) (by decide) (by decide) (by decide)]; exact z58
          · have ht' : t ≤ (aV A 54).1.length + 1 := by
              have : t ≤ ((aV A 54).1 ++ [(wr A, none, 0)]).length := ht
              rw [List.length_append] at this
              exact this
            show ((U.w 54 7 (nI ((aV A 54).1.length + 1))).w 57 ((aV A 54).1.length + 1) (nI ((fl (aD A) (aV A 54).1).length + bf A))).I 57 t = nI (off (aFlH A).1 ((aV A 54).1 ++ [(wr A, none, 0)]) t)
            by_cases ct : t = (aV A 54).1.length + 1
            · rw [w_same ct, ct]
              have : off (aFlH A).1 ((aV A 54).1 ++ [(wr A, none, 0)]) ((aV A 54).1.length + 1) = (fl (aD A) (aV A 54).1).length + bf A := by
                have q := off_end (D := (aFlH A).1) (l := (aV A 54).1 ++ [(wr A, none, 0)])
                rw [List.length_append] at q
                rw [show (aV A 54).1.length + 1 = (aV A 54).1.length + [((wr A, none, 0) : zS)].length from rfl, q, hflN, List.length_append, List.length_range']
              rw [this]
            · rw [w_oth (Or.inr ct), w_oth (Or.inl (by decide)), u2 57 (by decide) (by decide) (by decide), z57 t (by omega)]
              congr 1
              unfold off
              rw [List.take_append_of_le_length (by omega)]
          · rw [gX.w_ne (by decide), gX.w_ne (by decide)]
            show hl _ ((fl (aFlH A).1 ((aV A 54).1 ++ [(wr A, none, 0)])).map nI)
            rw [hflN]
            exact u3
          · rw [gX.w_ne (by decide), gX.w_ne (by decide)]
            show hl _ ((fl (aFlH A).1 ((aV A 54).1 ++ [(wr A, none, 0)])).map (fun d => b2i ((aV A 54).2.1 d)))
            rw [hflN]
            exact u4
          · rw [gX.w_ne (by decide), gX.w_ne (by decide)]
            show hl _ ((lf (aFlH A).1 (aFlH A).2.1 ((aV A 54).1 ++ [(wr A, none, 0)])).map b2i)
            rw [hlfN]
            exact u5
        · have hr := gVer_range hn
          have hne : n = 62 ∨ n = 70 ∨ 84 ≤ n := by
            unfold gVer at hn
            simp only [decide_eq_true_eq, List.mem_cons, List.mem_nil_iff, or_false] at hn
            omega
          have q := m4 n hn
          show VR _ n (aFlH A).1 (aFlH A).2.1 (if n = 54 then _ else aV A n)
          rw [if_neg cn]
          exact VR_fr q (fun a a1 a2 => fI a (by omega))
      refine ⟨_, rfl, _, rfl, RM_fl0 hRM, ((w3.tr fr).w (by omega)), ?_⟩
      rw [w_oth (Or.inr (by decide)), w_oth (Or.inl (by decide)), w_oth (Or.inl (by decide)), u1.1 46 (by decide)]
      exact w4)
    obtain ⟨r, k1, Y, rfl, k3⟩ := lp
    rw [k1]
    exact ⟨Y, rfl, k3⟩
  have j1 : gIn (nI (aV A 54).1.length) 4097 = true := gIn_nI (by omega) (by omega)
  have snoc : ∀ {β : Type} (r : Nat → Int32) (g : zS → Int32) (v : Int32), hl r ((aV A 54).1.map g) → g (wr A, none, 0) = v → hl (upd r (aV A 54).1.length v) (((aV A 54).1 ++ [(wr A, none, 0)]).map g) := fun {β} r g v q qv => by
    rw [List.map_append]
    refine hl_snoc q (fun i hi => ?_) ?_
    · rw [List.length_map] at hi
      exact pk_un (by omega)
    · rw [List.length_map, pk_us]
      exact qv.symm
  suffices hh : ∃ Y, f_Mo_flushing_4 X (b2i (flS A)) (nI (bf A)) = some (Sum.inr (gR.i 1, Y)) ∧ RM Y (aFl A) ∧ frM X Y ∧ Y.I 46 0 = X.I 46 0 by
    obtain ⟨Y, y1, y2⟩ := hh
    exact ⟨Y, z_flLoop h hw' y1, y2⟩
  unfold f_Mo_flushing_4
  rw [e23, if_pos (nI_le (Nat.le_refl _) (by omega)), hs, if_neg (by decide), w1, gCi_i, if_pos (nI_pos' (by omega)), s7]
  simp only [j1, if_true, gB_b, gn_nI (show (aV A 54).1.length < 2 ^ 31 by omega)]
  by_cases c : (aV A 54).1.length = 0
  · rw [if_pos (by rw [c]; rfl), if_pos (by decide), show gn 0 = 0 from rfl]
    obtain ⟨Y, y1, y2⟩ := key ((((W.w 55 (aV A 54).1.length (nI (wr A))).w 56 (aV A 54).1.length (-1)).w 58 (aV A 54).1.length 0).w 57 0 0) ((((frI.rf.w (a := 55) (by decide)).w (a := 56) (by decide)).w (a := 58) (by decide)).w (a := 57) (by decide)) (by rw [gX.w_ne (by decide), gX.w_ne (by decide), gX.w_ne (by decide), gX.w_ne (by decide)]) (fun t ht => by
      have : t = 0 := by omega
      rw [w_same this, this, off_0]; rfl) (by
      rw [gX.w_ne (by decide), gX.w_ne (by decide), gX.w_ne (by decide), gX.w_self]
      exact snoc (β := Unit) _ (fun x => nI x.1) _ hVR.2.1.1 rfl) (by
      rw [gX.w_ne (by decide), gX.w_ne (by decide), gX.w_self, gX.w_ne (by decide)]
      exact snoc (β := Unit) _ (fun x => li x.2.1) _ hVR.2.1.2.1 rfl) (by
      rw [gX.w_ne (by decide), gX.w_self, gX.w_ne (by decide), gX.w_ne (by decide)]
      exact snoc (β := Unit) _ (fun x => nI x.2.2) _ hVR.2.1.2.2 rfl) (by rw [gX.w_ne (by decide), gX.w_ne (by decide), gX.w_ne (by decide), gX.w_ne (by decide)]) (by rw [gX.w_ne (by decide), gX.w_ne (by decide), gX.w_ne (by decide), gX.w_ne (by decide)]) (by rw [gX.w_ne (by decide), gX.w_ne (by decide), gX.w_ne (by decide), gX.w_ne (by decide)])
    rw [y1, gLf_s]
    exact ⟨Y, rfl, y2⟩
  · rw [if_neg (nI_ne0 (by omega) (by omega))]
    obtain ⟨Y, y1, y2⟩ := key (((W.w 55 (aV A 54).1.length (nI (wr A))).w 56 (aV A 54).1.length (-1)).w 58 (aV A 54).1.length 0) (((frI.rf.w (a := 55) (by decide)).w (a := 56) (by decide)).w (a := 58) (by decide)) (by rw [gX.w_ne (by decide), gX.w_ne (by decide), gX.w_ne (by decide)]) (fun t ht => by
      rw [gX.w_ne (by decide), gX.w_ne (by decide), gX.w_ne (by decide)]
      exact hVR.2.2.1 t ht) (by
      rw [gX.w_ne (by decide), gX.w_ne (by decide), gX.w_self]
      exact snoc (β := Unit) _ (fun x => nI x.1) _ hVR.2.1.1 rfl) (by
      rw [gX.w_ne (by decide), gX.w_self, gX.w_ne (by decide)]
      exact snoc (β := Unit) _ (fun x => li x.2.1) _ hVR.2.1.2.1 rfl) (by
      rw [gX.w_self, gX.w_ne (by decide), gX.w_ne (by decide)]
      exact snoc (β := Unit) _ (fun x => nI x.2.2) _ hVR.2.1.2.2 rfl) (by rw [gX.w_ne (by decide), gX.w_ne (by decide), gX.w_ne (by decide)]) (by rw [gX.w_ne (by decide), gX.w_ne (by decide), gX.w_ne (by decide)]) (by rw [gX.w_ne (by decide), gX.w_ne (by decide), gX.w_ne (by decide)])
    rw [y1, gLf_s]
    exact ⟨Y, rfl, y2⟩
