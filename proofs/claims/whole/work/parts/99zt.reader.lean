/-! THE PURE SIDE: the call reader -/
def frS' (A : zA) (i : Nat) : Prop := i < 4 ∧ (aV A (84 + 8 * i)).2.2.2.2 ≤ 0 ∧ ∀ j, j < i → ¬ (aV A (84 + 8 * j)).2.2.2.2 ≤ 0
def frN' (A : zA) : Prop := ∀ i, i < 4 → ¬ (aV A (84 + 8 * i)).2.2.2.2 ≤ 0
theorem fr_em (A : zA) : (∃ i, frS' A i) ∨ frN' A := by
  have key : ∀ n, n ≤ 4 → (∃ i, frS' A i) ∨ ∀ j, j < n → ¬ (aV A (84 + 8 * j)).2.2.2.2 ≤ 0 := by
    intro n
    induction n with
    | zero => intro _; exact Or.inr (fun j hj => absurd hj (by omega))
    | succ n ih =>
      intro hn
      rcases ih (by omega) with q | q
      · exact Or.inl q
      · by_cases c : (aV A (84 + 8 * n)).2.2.2.2 ≤ 0
        · exact Or.inl ⟨n, by omega, c, q⟩
        · refine Or.inr (fun j hj => ?_)
          by_cases e : j = n
          · rw [e]; exact c
          · exact q j (by omega)
  exact key 4 (by omega)
theorem C_crTurn {X : gX} {A : zA} {nm : Nat → Nat} {k i : Nat} (h : RC X A nm k) (hi : i < 4) : f_Le_closedReader_2 X (nI i) = if (aV A (84 + 8 * i)).2.2.2.2 ≤ 0 then some (Sum.inr (gR.a (some (26 + 5 * i)), X)) else some (Sum.inl (nI (i + 1))) := by
  have j1 : gIn (nI i) 4 = true := gIn_nI (by omega) (by omega)
  unfold f_Le_closedReader_2
  rw [if_neg (show ¬ (4 : Int32) ≤ nI i from nI_ge (a := i) (b := 4) hi (by omega)), if_pos j1, gn_nI (by omega), nI_1]
  rcases (RC_W h).2.2 i hi with ⟨r1, r2⟩ | ⟨r1, r2, r3, r4⟩
  · rw [r2, if_pos rfl, if_pos j1, gLf_s, if_pos (by rw [r1]; decide)]
  · rw [r2, if_neg (by decide), if_neg r1]
theorem C_crS {X : gX} {A : zA} {nm : Nat → Nat} {k i : Nat} (h : RC X A nm k) (hr : frS' A i) : f_Le_closedReader X = some (gR.a (some (26 + 5 * i)), X) := by
  obtain ⟨r1, r2, r3⟩ := hr
  unfold f_Le_closedReader
  refine gI_at (fun j => nI j) i (gK_lt (by omega)) (fun j hj => ?_) ?_ rfl
  · show f_Le_closedReader_2 X (nI j) = _
    rw [C_crTurn h (by omega), if_neg (r3 j hj)]
  · show f_Le_closedReader_2 X (nI i) = _
    rw [C_crTurn h r1, if_pos r2]
theorem C_crN {X : gX} {A : zA} {nm : Nat → Nat} {k : Nat} (h : RC X A nm k) (hr : frN' A) : f_Le_closedReader X = some (gR.a none, X) := by
  unfold f_Le_closedReader
  refine gI_at (fun j => nI j) 4 (gK_lt (by omega)) (fun j hj => ?_) ?_ rfl
  · show f_Le_closedReader_2 X (nI j) = _
    rw [C_crTurn h hj, if_neg (hr j hj)]
  · show f_Le_closedReader_2 X (nI 4) = _
    unfold f_Le_closedReader_2
    rw [if_pos (by decide), gLf_s]
theorem z_frS {X : gX} {A : zA} {i : Nat} {a : Int32} {r : gR × gX} (h : RM X A) (hr : frS' A i) (hx : f_Mo_reader_25 X a (nI i) = some r) : f_Mo_reader X a = some r := by
  obtain ⟨r1, r2, r3⟩ := hr
  unfold f_Mo_reader
  refine gI_at (fun j => nI j) i (gK_lt (by omega)) (fun j hj => ?_) ?_ rfl
  · show f_Mo_reader_2 X a (nI j) = _
    unfold f_Mo_reader_2
    rw [if_neg (show ¬ (4 : Int32) ≤ nI j from nI_ge (a := j) (b := 4) (by omega) (by omega)), if_pos (gIn_nI (by omega) (by omega)), gn_nI (by omega), (RM_V h _ (gVer_r (show j < 4 by omega))).1.2.2.2, if_neg (r3 j hj), nI_1]
  · show f_Mo_reader_2 X a (nI i) = _
    unfold f_Mo_reader_2
    rw [if_neg (show ¬ (4 : Int32) ≤ nI i from nI_ge (a := i) (b := 4) (by omega) (by omega)), if_pos (gIn_nI (by omega) (by omega)), gn_nI (by omega), (RM_V h _ (gVer_r r1)).1.2.2.2, if_pos r2, hx, gLf_s]
theorem z_frN {X : gX} {A : zA} {a : Int32} {r : gR × gX} (h : RM X A) (hr : frN' A) (hx : f_Mo_reader_25 X a (nI 4) = some r) : f_Mo_reader X a = some r := by
  unfold f_Mo_reader
  refine gI_at (fun j => nI j) 4 (gK_lt (by omega)) (fun j hj => ?_) ?_ rfl
  · show f_Mo_reader_2 X a (nI j) = _
    unfold f_Mo_reader_2
    rw [if_neg (show ¬ (4 : Int32) ≤ nI j from nI_ge (a := j) (b := 4) (by omega) (by omega)), if_pos (gIn_nI (by omega) (by omega)), gn_nI (by omega), (RM_V h _ (gVer_r hj)).1.2.2.2, if_neg (hr j hj), nI_1]
  · show f_Mo_reader_2 X a (nI 4) = _
    unfold f_Mo_reader_2
    rw [if_pos (by decide), hx, gLf_s]
/-- a reader is opened -/
def aRdr (A : zA) (i : Nat) (V : zV) : zA := sS (sV1 A (84 + 8 * i) (V.1, V.2.1, V.2.2.1, V.2.2.2.1, aS A 32 + 1)) (upd (aS A) 32 (aS A 32 + 1))
theorem C_openReader {X : gX} {A : zA} {nm : Nat → Nat} {k i v r : Nat} {V : zV} (h : RC X A nm k) (hi : i < 4) (hv : v = 8 ∨ v = 12 ∨ v = 16) (hV : CV X v nm V) (hl : V.1.length ≤ 4096) (ho : okN X.N nm V.1) (h32 : aS A 32 = nI r) (hr : r < 100000) : ∃ Y, f_Le_openReader X (26 + 5 * i) v = some (gR.i (aS A 32 + 1), Y) ∧ RC Y (aRdr A i V) nm k ∧ frC X Y := by
  obtain ⟨q1, q2, q3, q4, q5, q6, q7⟩ := h
  unfold f_Le_openReader
  simp only [gB_b]
  have e14 : (X.w 0 14 (X.I 0 14 + 1)).I 0 14 = aS A 32 + 1 := by rw [w_same rfl, cS_32 q1]
  rw [e14]
  have s1 : cS (((X.w 0 14 (X.I 0 14 + 1)).w (26 + 5 * i) 1 (aS A 32 + 1)).w (26 + 5 * i) 2 1) (upd (aS A) 32 (aS A 32 + 1)) := by
    rw [cS_32 q1]
    exact cS_o (cS_o (cS_w q1 (show (0, 14, 32) ∈ cTab by decide)) (Or.inl (by omega))) (Or.inl (by omega))
  have fI : ∀ a, a ≠ 0 → a ≠ 26 + 5 * i → (((X.w 0 14 (X.I 0 14 + 1)).w (26 + 5 * i) 1 (aS A 32 + 1)).w (26 + 5 * i) 2 1).I a = X.I a := fun a a1 a2 => by rw [gX.w_ne a2, gX.w_ne a2, gX.w_ne a1]
  have f09 : (((X.w 0 14 (X.I 0 14 + 1)).w (26 + 5 * i) 1 (aS A 32 + 1)).w (26 + 5 * i) 2 1).I 0 9 = X.I 0 9 := by rw [gX.w_ne (by omega), gX.w_ne (by omega), w_oth (Or.inr (by decide))]
  have fr1 : (((X.w 0 14 (X.I 0 14 + 1)).w (26 + 5 * i) 1 (aS A 32 + 1)).w (26 + 5 * i) 2 1).I (26 + 5 * i) 1 = aS A 32 + 1 := by rw [w_oth (Or.inr (by decide)), w_same rfl]
  have fr2 : (((X.w 0 14 (X.I 0 14 + 1)).w (26 + 5 * i) 1 (aS A 32 + 1)).w (26 + 5 * i) 2 1).I (26 + 5 * i) 2 = 1 := w_same rfl
  have f14 : (((X.w 0 14 (X.I 0 14 + 1)).w (26 + 5 * i) 1 (aS A 32 + 1)).w (26 + 5 * i) 2 1).I 0 14 = aS A 32 + 1 := by rw [gX.w_ne (by omega), gX.w_ne (by omega)]; exact e14
  have fG : (((X.w 0 14 (X.I 0 14 + 1)).w (26 + 5 * i) 1 (aS A 32 + 1)).w (26 + 5 * i) 2 1).G = X.G := rfl
  have fE : gEq X (((X.w 0 14 (X.I 0 14 + 1)).w (26 + 5 * i) 1 (aS A 32 + 1)).w (26 + 5 * i) 2 1) := gEq.rf.w.w.w
  generalize ((X.w 0 14 (X.I 0 14 + 1)).w (26 + 5 * i) 1 (aS A 32 + 1)).w (26 + 5 * i) 2 1 = W at s1 fI f09 fr1 fr2 f14 fG fE ⊢
  have hVW : CV W v nm V := CV_fr hV (fI v (by omega) (by omega)) (by rw [fG]) (by rw [fG]) (fI _ (by omega) (by omega))
  obtain ⟨Y, y1, y2, y3⟩ := C_copy (v := 26 + 5 * i + 1) (u := v) (by omega) hVW hl (by rw [fE.2.2.1]; exact ho)
  rw [y1, gCv_v]
  have yI : ∀ a, a ≠ 0 → a ≠ 26 + 5 * i → a ≠ 26 + 5 * i + 1 → a ≠ 26 + 5 * i + 4 → Y.I a = X.I a := fun a a1 a2 a3 a4 => (y3.1 a a3 (by omega)).trans (fI a a1 a2)
  have yG : ∀ a, a ≠ 26 + 5 * i + 2 → a ≠ 26 + 5 * i + 3 → Y.G a = X.G a := fun a a1 a2 => (y3.2.1 a (by omega) (by omega)).trans (by rw [fG])
  have y0 : Y.I 0 = W.I 0 := y3.1 0 (by omega) (by omega)
  have yr : Y.I (26 + 5 * i) = W.I (26 + 5 * i) := y3.1 _ (by omega) (by omega)
  have yE : gEq X Y := fE.tr y3.2.2
  refine ⟨Y, by rw [y0, f14], ⟨?_, ?_, ?_, ?_, ?_, ?_, RR_fr q7 yE⟩, fun a ha => yI a (by omega) (by omega) (by omega) (by omega), yG 121 (by omega) (by omega)⟩
  · exact cS_fr s1 y0 (y3.1 1 (by omega) (by omega)) (y3.1 5 (by omega) (by omega))
  · intro q
    rw [y0, f09]
    exact q2 q
  · unfold cE at q3 ⊢
    rw [yI 2 (by omega) (by omega) (by omega) (by omega), yI 3 (by omega) (by omega) (by omega) (by omega), yI 4 (by omega) (by omega) (by omega) (by omega)]
    exact q3
  · exact cT_fr q4 (by rw [yI 6 (by omega) (by omega) (by omega) (by omega)]) (by rw [yI 7 (by omega) (by omega) (by omega) (by omega)]) (yG 130 (by omega) (by omega)) (yG 131 (by omega) (by omega)) yE (fun a j ha _ => by rw [yI a (by omega) (by omega) (by omega) (by omega)])
  · obtain ⟨⟨h1, h2⟩, ⟨c, p, k1, k2, k3, k4, k5⟩, h4⟩ := q5
    have hcp := cpq_v k1
    have fr : ∀ v V, (8 ≤ v ∧ v ≤ 16) ∨ (∃ j, v = 26 + 5 * j + 1 ∧ j < 4 ∧ j ≠ i) → CV X v nm V → CV Y v nm V := fun v V hv q => by
      refine CV_fr q (yI _ ?_ ?_ ?_ ?_) (yG _ ?_ ?_) (yG _ ?_ ?_) (yI _ ?_ ?_ ?_ ?_) <;> (rcases hv with hv | ⟨j, hv, _, _⟩ <;> omega)
    have eV : ∀ n, n ≠ 84 + 8 * i → aV (aRdr A i V) n = aV A n := fun n hn => if_neg hn
    have eV' : aV (aRdr A i V) (84 + 8 * i) = (V.1, V.2.1, V.2.2.1, V.2.2.2.1, aS A 32 + 1) := if_pos rfl
    refine ⟨⟨fun o => ?_, ?_⟩, ⟨c, p, k1, ?_, ?_, fun o => ?_, fun o => ?_⟩, fun j hj => ?_⟩
    · rw [eV 54 (by omega)]; exact fr 8 _ (Or.inl (by omega)) (h1 o)
    · rw [yG 8 (by omega) (by omega)]; exact h2
    · rw [yG 0 (by omega) (by omega)]; exact k2
    · rw [yG 0 (by omega) (by omega)]; exact k3
    · rw [eV 62 (by omega), yG c (by omega) (by omega)]; exact ⟨fr c _ (Or.inl (by omega)) (k4 o).1, (k4 o).2⟩
    · rw [eV 70 (by omega), yG p (by omega) (by omega)]; exact ⟨fr p _ (Or.inl (by omega)) (k5 o).1, (k5 o).2⟩
    · by_cases cj : j = i
      · subst cj
        rw [eV']
        refine Or.inr ⟨?_, by rw [yr]; exact fr2, by rw [yr]; exact fr1, y2⟩
        show ¬ aS A 32 + 1 ≤ 0
        rw [h32, nI_1]
        exact nI_nle (by omega) (by omega)
      · rw [eV (84 + 8 * j) (by omega)]
        have q := h4 j hj
        unfold cR at q ⊢
        rw [yI (26 + 5 * j) (by omega) (by omega) (by omega) (by omega)]
        rcases q with q | ⟨r1, r2, r3, r4⟩
        · exact Or.inl q
        · exact Or.inr ⟨r1, r2, r3, fr _ _ (Or.inr ⟨j, rfl, hj, cj⟩) r4⟩
  · exact cM_fr q6 (fun a a1 a2 => yI a (by omega) (by omega) (by omega) (by omega)) (fun a a1 a2 => yG a (by omega) (by omega))
theorem z_openReader {X : gX} {A : zA} {i n : Nat} (h : RM X A) (hi : i < 4) (hn : n = 54 ∨ n = 62) (hB : VB (aD A) (aV A n)) : ∃ Y, gCv (f_Ve_copy X (84 + 8 * i) n) (fun X22 => gB (X22.w 46 32 ((X22.I 46 32) + 1)) (fun X23 => some (gR.v, X23.w (84 + 8 * i) 10 (X23.I 46 32)))) = some (gR.v, Y) ∧ RM Y (aRdr A i (aV A n)) ∧ frM X Y ∧ Y.I 46 0 = X.I 46 0 ∧ Y.I 46 32 = aS A 32 + 1 := by
  have hgn : gVer n = true := by rcases hn with rfl | rfl <;> rfl
  obtain ⟨W, w1, w2, w3⟩ := z_copy (n := 84 + 8 * i) (m := n) (by omega) (RM_V h n hgn) hB rfl
  rw [w1, gCv_v, gB_b]
  have fI : ∀ a, (a < 84 + 8 * i ∨ 84 + 8 * i + 7 < a) → W.I a = X.I a := fun a ha => w2.1 a (sVe_f ha)
  have e32 : W.I 46 32 + 1 = aS A 32 + 1 := by rw [fI 46 (by omega), RM_S h 32 (by decide) (by decide) (by decide)]
  rw [e32, w_same rfl]
  have eV : ∀ m, m ≠ 84 + 8 * i → aV (aRdr A i (aV A n)) m = aV A m := fun m hm => if_neg hm
  have eV' : aV (aRdr A i (aV A n)) (84 + 8 * i) = ((aV A n).1, (aV A n).2.1, (aV A n).2.2.1, (aV A n).2.2.2.1, aS A 32 + 1) := if_pos rfl
  have yI : ∀ a, a ≠ 46 → (a < 84 + 8 * i ∨ 84 + 8 * i + 7 < a) → ((W.w 46 32 (aS A 32 + 1)).w (84 + 8 * i) 10 (aS A 32 + 1)).I a = X.I a := fun a a1 a2 => by rw [gX.w_ne (by omega), gX.w_ne a1, fI a a2]
  refine ⟨_, rfl, ⟨fun j j1 j2 j3 => ?_, mE_fr (A := aRdr A i (aV A n)) h.2.1 (yI 47 (by omega) (by omega)) (yI 48 (by omega) (by omega)) (yI 49 (by omega) (by omega)), mT_fr h.2.2.1 ?_ (yI 50 (by omega) (by omega)) (yI 51 (by omega) (by omega)) (yI 52 (by omega) (by omega)), fun m hm => ?_, ?_, mM_fr (A := aRdr A i (aV A n)) h.2.2.2.2.2 (fun a a1 a2 => yI a (by omega) (by omega)) (fun a a1 a2 => yI a (by omega) (by omega)) (by rw [w_G, w_G, w2.2.1])⟩, ((frM.of w2 (fun a ha => ?_)).w (by omega)).w (by omega), ?_, ?_⟩
  · rw [gX.w_ne (by omega), gX.w_self]
    show upd (W.I 46) 32 (aS A 32 + 1) j = upd (aS A) 32 (aS A 32 + 1) j
    rw [upd_at, upd_at, fI 46 (by omega), h.1 j j1 j2 j3]
  · rw [gX.w_ne (by omega), w_oth (Or.inr (by decide)), fI 46 (by omega)]
  · by_cases c : m = 84 + 8 * i
    · subst c
      rw [eV']
      exact VR_w10 (X := W.w 46 32 (aS A 32 + 1)) (V := ((aV A n).1, (aV A n).2.1, (aV A n).2.2.1, (aV A n).2.2.2.1, X.I (84 + 8 * i) 10)) (VR_fr w3 (fun a a1 a2 => gX.w_ne (by omega)))
    · rw [eV m c]
      have ap := gVer.ap hm (gVer_r hi) c
      have hr := gVer_range hm
      exact VR_fr (h.2.2.2.1 m hm) (fun a a1 a2 => yI a (by omega) (by omega))
  · have q := h.2.2.2.2.1
    unfold mB at q ⊢
    rw [eV 54 (by omega), yI 78 (by omega) (by omega), yI 79 (by omega) (by omega)]
    exact q
  · unfold sVe at ha
    simp only [Bool.and_eq_true, decide_eq_true_eq] at ha
    omega
  · rw [gX.w_ne (by omega), w_oth (Or.inr (by decide)), fI 46 (by omega)]
  · rw [gX.w_ne (by omega), w_same rfl]
theorem Inv_rdr {A : zA} {k i : Nat} {V : zV} (h : Inv A k) (hi : i < 4) (hf : (aV A (84 + 8 * i)).2.2.2.2 ≤ 0) (h32 : gn (aS A 32) + 1 ≤ k) (hk : k ≤ 100000) (hV : VI (aH A) (dc A) (wr A) V) (hc : VC (aH A) V) (hv : hvV false (aT A) V) : Inv (aRdr A i V) k := by
  obtain ⟨⟨p, ⟨q1, q2, q3, ⟨q4, q4'⟩⟩, r⟩, h2, h3, h4, ⟨⟨a1, a2, a3, a4, a5⟩, b1, b2⟩, h6⟩ := h
  have eV : ∀ n, n ≠ 84 + 8 * i → aV (aRdr A i V) n = aV A n := fun n hn => if_neg hn
  have eV' : aV (aRdr A i V) (84 + 8 * i) = (V.1, V.2.1, V.2.2.1, V.2.2.2.1, aS A 32 + 1) := if_pos rfl
  have e32 : aS A 32 + 1 = nI (gn (aS A 32) + 1) := by rw [← nI_1, ← q4]
  have g32 : gn (aS A 32 + 1) = gn (aS A 32) + 1 := by rw [e32, gn_nI (by omega)]
  refine ⟨⟨p, ⟨q1, q2, q3, ⟨?_, ?_⟩⟩, r⟩, h2, fun n hn hn' => ?_, fun o => ?_, ⟨⟨?_, ?_, ?_, a4, fun j hj o => ?_⟩, ?_, ?_⟩, ⟨h6.1, h6.2.1, fun o f hf' => ?_, fun j hj => ?_⟩⟩
  · show aS A 32 + 1 = nI (gn (aS A 32 + 1))
    rw [g32]; exact e32
  · show gn (aS A 32 + 1) ≤ k
    rw [g32]; exact h32
  · by_cases c : n = 84 + 8 * i
    · rw [c, eV']; exact ⟨hV, hc⟩
    · rw [eV n c]; exact h3 n hn hn'
  · have q := h4 o
    have e54 : aV (aRdr A i V) 54 = aV A 54 := eV 54 (by omega)
    have e62 : aV (aRdr A i V) 62 = aV A 62 := eV 62 (by omega)
    have e70 : aV (aRdr A i V) 70 = aV A 70 := eV 70 (by omega)
    obtain ⟨w1, w2, ⟨w3, w4, w5⟩, w6⟩ := q
    unfold WV WK WM WL MI
    rw [e54, e62, e70]
    exact ⟨w1, w2, ⟨w3, w4, w5⟩, w6⟩
  · rw [eV 62 (by omega)]; exact a1
  · rw [eV 70 (by omega)]; exact a2
  · rw [eV 54 (by omega)]; exact a3
  · by_cases c : j = i
    · subst c; rw [eV']; exact hv
    · rw [eV (84 + 8 * j) (by omega)] at o ⊢; exact a5 j hj o
  · rw [eV 62 (by omega)]; exact b1
  · rw [eV 70 (by omega)]; exact b2
  · have q := h6.2.2.1 o f hf'
    have h1 : nd1 (aRdr A i V) f.1 = nd1 A f.1 := by unfold nd1; rw [eV 62 (by omega)]; rfl
    have h2' : nd2 (aRdr A i V) f.1 = nd2 A f.1 := by unfold nd2; rw [eV 70 (by omega)]; rfl
    have h3' : nd3 (aRdr A i V) f.1 = nd3 A f.1 := by unfold nd3; rw [eV 54 (by omega)]; rfl
    unfold ndd at q
    simp only [Bool.or_eq_true] at q
    rcases q with (((q | q) | q) | q) | q
    · unfold ndd; rw [h1, q]; simp
    · unfold ndd; rw [h2', q]; simp
    · unfold ndd; rw [h3', q]; simp
    · have : nd4 (aM (aRdr A i V)) f.1 = true := q
      unfold ndd; rw [this]; simp
    · obtain ⟨j, j1, j2⟩ := List.any_eq_true.mp q
      simp only [Bool.and_eq_true] at j2
      have hj := List.mem_range.mp j1
      have c : j ≠ i := fun e => by
        rw [e] at j2
        simp [hf] at j2
      refine nd5_t (i := j) hj ?_ ?_
      · rw [eV (84 + 8 * j) (by omega)]; simpa using j2.1
      · rw [eV (84 + 8 * j) (by omega)]; exact j2.2
  · by_cases c : j = i
    · subst c
      rw [eV']
      show aS A 32 + 1 = nI (gn (aS A 32 + 1)) ∧ gn (aS A 32 + 1) ≤ k
      rw [g32]
      exact ⟨e32, h32⟩
    · rw [eV (84 + 8 * j) (by omega)]; exact h6.2.2.2 j hj
theorem C_corrupt {X : gX} {A : zA} {nm : Nat → Nat} {k k' : Nat} (h : RC X A nm k') (hI : Inv A k) : f_Le_commitIsCorrupt X = some (gR.i (b2i (!decide (aS A 20 ≤ 0) && cor A)), X) := by
  unfold f_Le_commitIsCorrupt f_Le_commitIsCorrupt_21
  rw [cS_20 h.1]
  by_cases c : aS A 20 ≤ 0
  · rw [if_pos c]
    simp [c, b2i]
  · rw [if_neg c]
    obtain ⟨-, ⟨c1, p1, k1, k2, k3, k4, k5⟩, -⟩ := RC_W h
    obtain ⟨v1, -⟩ := cpq_v k1
    obtain ⟨k6, k7⟩ := k4 c
    have hv := hI.2.2.2.2.1.1.1 c
    have hq := C_harmed k6 k7 (RC_T h) hI.2.1.1 (VL_of hI 62 rfl (fun e => absurd e (by decide))) hv.1 hv.2
    have e : (hrm (aT A) (aV A 62).2.2.1 || (aV A 62).1.any (corS (aT A))) = cor A := rfl
    rw [e] at hq
    rw [k2, gM_s, if_pos v1, hq, gCi_i]
    cases hc : cor A with
    | false => rw [if_pos b2i_f]; simp [b2i]
    | true => rw [if_neg (by decide)]; simp [c, b2i]
theorem okN_l {X : gX} {T : List zF} {nm : Nat → Nat} {H : zH} {V : zV} (hT : cT X T nm H) (hb : TB T) (hv : hvV true T V) : okN X.N nm V.1 := fun x hx => okN_of hT hb hv hx
theorem KK_rdr {A : zA} {i : Nat} {V : zV} (hi : i < 4) (h : KK A) : KK (aRdr A i V) := by
  have eV : ∀ n, n < 84 → aV (aRdr A i V) n = aV A n := fun n hn => if_neg (by omega)
  have eS : ∀ j, j ≠ 32 → aS (aRdr A i V) j = aS A j := fun j hj => by
    show upd (aS A) 32 (aS A 32 + 1) j = _
    rw [upd_at, if_neg hj]
  exact KK_sub (B := aRdr A i V) h (fun q => by rw [← eS 18 (by decide)]; exact q) (eS 19 (by decide)) (eS 20 (by decide)) (by rw [eV 70 (by decide)]) (by rw [eV 62 (by decide)]) (fun _ q => q) (fun x hx => by rw [eV 54 (by decide)] at hx; exact ⟨x, hx, rfl, rfl⟩) rfl
theorem L_reader {X : gX} {k : Nat} {a : Int32} (h : JJ X k) (hk : k < 600) : LI (f_Lw_reader X a) (fun Y => f_Mo_reader Y a) k := by
  obtain ⟨A, nm, hM, hC, hI, h0, hK⟩ := h
  have lim := RC_lim hC (by omega)
  have hI1 := Inv_mono hI (Nat.le_succ k)
  have anyFree : ∀ Y, RM Y A → ∀ r : gR × gX, (∀ i, i ≤ 4 → f_Mo_reader_25 Y a (nI i) = some r) → f_Mo_reader Y a = some r := fun Y hY r hr => by
    rcases fr_em A with ⟨i, hi⟩ | hi
    · exact z_frS hY hi (hr i (by have := hi.1; omega))
    · exact z_frN hY hi (hr 4 (by omega))
  by_cases c : a < 0 ∨ ¬ a ≤ 1
  · refine LI_ref (p := 1) (e := 1) (v := 0) (by omega) hM hC hI h0 hK ?_ (fun Y hY hY0 => anyFree Y hY _ (fun i hi => ?_))
    · unfold f_Lw_reader f_Le_reader
      rw [C_rangeT c, gCvt_t, gCit_t, if_pos rfl, if_pos lim]
      rfl
    · have : f_Mo_reader_25 Y a (nI i) = f_Mo_reader_35 Y a (nI i) := by
        unfold f_Mo_reader_25
        by_cases c1 : a < 0
        · rw [if_pos c1]
        · rw [if_neg c1, if_neg (c.elim (fun q => absurd q c1) id)]
      rw [this]
      unfold f_Mo_reader_35 f_Mo_reader_40 f_Mo_reader_138
      rw [s_wrong1 hY0 (by decide), gCi_i, if_neg (by decide), z_done_123456_1 (w_same rfl), gCi_i]
  · have c1 : ¬ a < 0 := fun q => c (Or.inl q)
    have c2 : a ≤ 1 := Classical.not_not.mp (fun q => c (Or.inr q))
    have h25 : ∀ Y, Y.I 46 0 = 0 → ∀ i, f_Mo_reader_25 Y a (nI i) = (if a = (1 : Int32) then (if (Y.I 46 18) = (0 : Int32) then f_Mo_reader_65 Y a (nI i) 1 else f_Mo_reader_64 Y a (nI i)) else f_Mo_reader_64 Y a (nI i)) := fun Y hY0 i => by
      unfold f_Mo_reader_25 f_Mo_reader_40
      rw [if_neg c1, if_pos c2, s_wrong0 hY0, gCi_i, if_pos rfl]
    by_cases d : a = 1 ∧ aS A 18 = 0
    · refine LI_ref (p := 2) (e := 2) (v := 0) (by omega) hM hC hI h0 hK ?_ (fun Y hY hY0 => anyFree Y hY _ (fun i hi => ?_))
      · unfold f_Lw_reader f_Le_reader f_Le_requireWriter
        rw [C_rangeV c1 c2, gCvt_v, if_pos d.1, cS_18 hC.1, if_pos d.2, gCvt_t, gCit_t, if_neg (by decide), if_pos rfl, if_pos lim]
        rfl
      · rw [h25 Y hY0, if_pos d.1, RM_S hY 18 (by decide) (by decide) (by decide), if_pos d.2]
        unfold f_Mo_reader_65 f_Mo_reader_138
        rw [s_wrong1 hY0 (by decide), gCi_i, if_neg (by decide), z_done_123456_2 (w_same rfl), gCi_i]
    · have hCl : f_Le_reader X a = f_Le_reader_15 X a := by
        unfold f_Le_reader f_Le_requireWriter
        rw [C_rangeV c1 c2, gCvt_v]
        by_cases d1 : a = 1
        · rw [if_pos d1, cS_18 hC.1, if_neg (fun q => d ⟨d1, q⟩), gCvt_v]
        · rw [if_neg d1]
      have h64 : ∀ Y, RM Y A → Y.I 46 0 = 0 → ∀ i, f_Mo_reader_25 Y a (nI i) = (if nI i = (4 : Int32) then f_Mo_reader_83 Y a (nI i) 1 else f_Mo_reader_83 Y a (nI i) 0) := fun Y hY hY0 i => by
        rw [h25 Y hY0]
        unfold f_Mo_reader_64 f_Mo_reader_65
        by_cases d1 : a = 1
        · rw [if_pos d1, RM_S hY 18 (by decide) (by decide) (by decide), if_neg (fun q => d ⟨d1, q⟩), s_wrong0 hY0, gCi_i, if_pos rfl]
        · rw [if_neg d1, s_wrong0 hY0, gCi_i, if_pos rfl]
      rcases fr_em A with ⟨i, hi⟩ | hi
      · have hi4 := hi.1
        have gr : gRea (26 + 5 * i) = true := by
          have : i = 0 ∨ i = 1 ∨ i = 2 ∨ i = 3 := by omega
          rcases this with rfl | rfl | rfl | rfl <;> rfl
        have okr : ∀ N, gOk N (some (26 + 5 * i)) = true := fun N => by
          unfold gOk
          simp only [Bool.and_eq_true, Bool.or_eq_true, decide_eq_true_eq]
          omega
        have h83 : ∀ Y, RM Y A → Y.I 46 0 = 0 → f_Mo_reader_25 Y a (nI i) = (if a = (0 : Int32) then (if (Y.I 46 20) = (0 : Int32) then f_Mo_reader_107 Y a (nI i) 1 else f_Mo_reader_106 Y a (nI i)) else f_Mo_reader_106 Y a (nI i)) := fun Y hY hY0 => by
          rw [h64 Y hY hY0, if_neg (fun q => by have := (nI_eq (a := i) (b := 4) (by omega) (by omega)).mp q; omega)]
          unfold f_Mo_reader_83
          rw [s_wrong0 hY0, gCi_i, if_pos rfl]
        by_cases d1 : a = 1
        · have o : ¬ aS A 18 = 0 := fun q => d ⟨d1, q⟩
          have a0 : ¬ a = 0 := by rw [d1]; decide
          have hm := Mid_of hI1 o
          have hw := hI.1.1.2.2.2
          obtain ⟨f1, f2⟩ := Mid_flR hm (by omega) (by omega)
          have h131 : ∀ Y, RM Y A → Y.I 46 0 = 0 → f_Mo_reader_25 Y a (nI i) = gCi (f_Mo_flushing Y) (fun x27 X27 => (if x27 = (0 : Int32) then gCi (f_Mo_finished X27 0 123456) (fun x29 X29 => some (gR.i x29, X29)) else f_Mo_reader_166 X27 a (nI i))) := fun Y hY hY0 => by
            rw [h83 Y hY hY0, if_neg a0]
            unfold f_Mo_reader_106 f_Mo_reader_107 f_Mo_reader_130 f_Mo_reader_131
            rw [s_wrong0 hY0, gCi_i, if_pos rfl, if_neg a0, s_wrong0 hY0, gCi_i, if_pos rfl, if_pos d1]
          rcases C_flush hC hm (by omega) (by omega) with ⟨b, Y, nm', y1, y2, y3⟩ | ⟨b, Y, y1, y2, y3⟩
          · obtain ⟨g1, g2, g3⟩ := f1 b
            have hiF : Inv (flR A).2 (k + 1) := Mid_inv g1
            have hCV := (RC_W y2).1.1 g1.1
            obtain ⟨w1, w1'⟩ := g1.2.2.2.2.1.1
            rw [g3, Nat.sub_zero] at w1 w1'
            have hvB := VB_of w1 hiF.1.1.1.2
            have hvc : VC (aH (flR A).2) (aV (flR A).2 54) := fun e he => (w1' e he).elim id (fun q => by omega)
            have hv54 := hiF.2.2.2.2.1.1.2.2.1 g1.1
            have e32 : aS (flR A).2 32 = aS A 32 ∧ ∀ j, j < 4 → aV (flR A).2 (84 + 8 * j) = aV A (84 + 8 * j) := by
              unfold flR
              cases hs : flS A with
              | false => rw [if_neg (by simp)]; exact ⟨rfl, fun _ _ => rfl⟩
              | true =>
                rw [if_pos rfl]
                by_cases c0 : aS A 13 = 0
                · unfold flR at b
                  rw [hs, if_pos rfl, if_pos c0] at b
                  cases b
                · rw [if_neg c0]
                  refine ⟨?_, fun j hj => if_neg (by omega)⟩
                  show upd (upd (aS (aActd A)) 11 (aS (aActd A) 11 + 1)) 23 0 32 = _
                  rw [upd_at, if_neg (by decide), upd_at, if_neg (by decide)]
                  exact aActd_S (by decide) (by decide)
            have h32 := hI.1.2.1.2.2.2
            obtain ⟨U, u1, u2, u3⟩ := C_openReader (v := 8) (r := gn (aS A 32)) y2 hi4 (Or.inl rfl) hCV hvB.1.1 (okN_l (RC_T y2) hiF.2.1.1 hv54) (e32.1.trans h32.1) (by have := h32.2; omega)
            have fXU : frC X U := y3.tr u3
            have hMU : RM (U.w 116 0 (aS A 32 + 1)) A := RM_frC hM (fXU.w (by omega))
            have e0 : (U.w 116 0 (aS A 32 + 1)).I 46 0 = 0 := by rw [gX.w_ne (by decide), fXU.1 46 (by omega)]; exact h0
            rcases z_flush hMU hm (by omega) with ⟨b', Z, z1, z2, z3, z4⟩ | ⟨b', -⟩
            · obtain ⟨V, v1, v2, v3, v4, v5⟩ := z_openReader (i := i) (n := 54) z2 hi4 (Or.inl rfl) hvB.1
              rw [e32.1] at v5
              have hir : Inv (aRdr (flR A).2 i (aV (flR A).2 54)) (k + 1) := Inv_rdr hiF hi4 (by rw [e32.2 i hi4]; exact hi.2.1) (by rw [e32.1]; have := h32.2; omega) (by omega) w1 hvc (fun x hx => ⟨(hv54 x hx).1, fun q => absurd q (by simp)⟩)
              obtain ⟨T, t1, t2, t3⟩ := z_fin (v := V.I 46 32) (v' := V.I 46 32) (L := 123456) (p := 0) v2 hir (fun W hW => z_done_123456_0 (hW.trans (v4.trans (z4.trans e0))))
              rw [v5] at t1
              refine LI_ok (X := X) (Y := X) (Y0 := U) ?_ u2 (Z := T) ?_ t2 ((z3.tr v3).tr t3) hir (KK_rdr hi4 (KK_flR hm hK))
              · unfold f_Lw_reader
                rw [hCl]
                unfold f_Le_reader_15
                rw [C_crS hC hi, gCa_a, gO_s, if_pos d1, if_pos (okr _), y1, gCvt_v, if_pos gr, u1, gCi_i, gCit_i, gB_b, e32.1]
              · show f_Mo_reader _ a = _
                refine z_frS hMU hi ?_
                rw [h131 _ hMU e0, z1, gCi_i, if_neg (by decide)]
                unfold f_Mo_reader_166 f_Mo_reader_187
                have ji : gIn (nI i) 4 = true := gIn_nI (by omega) (by omega)
                rw [if_pos ji, if_neg a0, gn_nI (by omega)]
                obtain ⟨W, w1, w2, w3⟩ := z_copy (n := 84 + 8 * i) (m := 54) (by omega) (RM_V z2 54 rfl) hvB.1 rfl
                rw [w1, gCv_v, gB_b] at v1
                have v1' := (Prod.mk.inj (Option.some.inj v1)).2
                rw [w1, gCv_v, gB_b, if_pos ji, gB_b, v1', v5, t1, gCi_i]
            · rw [b] at b'
              cases b'
          · have hiF := f2 b
            have limY := RC_lim y2 (by omega)
            have hMY : RM Y.ex A := RM_frC hM y3.ex
            have e0 : Y.ex.I 46 0 = 0 := by show Y.I 46 0 = 0; rw [y3.1 46 (by omega)]; exact h0
            rcases z_flush hMY hm (by omega) with ⟨b', -⟩ | ⟨b', Z, z1, z2, z3, z4⟩
            · rw [b] at b'
              cases b'
            · obtain ⟨U, u1, u2, u3⟩ := z_fin (v := 0) (v' := 0) (L := 123456) (p := 6) z2 hiF (fun W hW => z_done_123456_6 (hW.trans z4))
              refine LI_no (X := X) (p := 6) (by omega) (Y0 := Y) ?_ y2 (Z := U) (v := 0) ?_ u2 (z3.tr u3) hiF (KK_flR hm hK)
              · unfold f_Lw_reader
                rw [hCl]
                unfold f_Le_reader_15
                rw [C_crS hC hi, gCa_a, gO_s, if_pos d1, if_pos (okr _), y1, gCvt_t, gCit_t, if_neg (by decide), if_neg (by decide), if_neg (by decide), if_neg (by decide), if_neg (by decide), if_pos rfl, if_pos limY]
                rfl
              · show f_Mo_reader _ a = _
                refine z_frS hMY hi ?_
                rw [h131 _ hMY e0, z1, gCi_i, if_pos rfl, u1, gCi_i]
        · have a0 : a = 0 := by
            obtain ⟨j, hj, rfl⟩ := nI_of2 (M := 1) (n := 1) (by decide) c1 c2
            have : j = 0 ∨ j = 1 := by omega
            rcases this with rfl | rfl
            · rfl
            · exact absurd rfl d1
          have h20 := hI.1.2.1.2.1
          by_cases g0 : aS A 20 = 0
          · refine LI_ref (p := 3) (e := 3) (v := 0) (by omega) hM hC hI h0 hK ?_ (fun Y hY hY0 => z_frS hY hi ?_)
            · unfold f_Lw_reader
              rw [hCl]
              unfold f_Le_reader_15
              rw [C_crS hC hi, gCa_a, gO_s, if_neg d1, cS_20 hC.1, if_pos g0, gCit_t, if_neg (by decide), if_neg (by decide), if_pos rfl, if_pos lim]
              rfl
            · rw [h83 Y hY hY0, if_pos a0, RM_S hY 20 (by decide) (by decide) (by decide), if_pos g0]
              unfold f_Mo_reader_107 f_Mo_reader_138
              rw [s_wrong1 hY0 (by decide), gCi_i, if_neg (by decide), z_done_123456_3 (w_same rfl), gCi_i]
          · have gp : ¬ aS A 20 ≤ 0 := fun q => by
              rw [h20.1] at q g0
              have : gn (aS A 20) = 0 := by
                rcases Nat.eq_zero_or_pos (gn (aS A 20)) with e | e
                · exact e
                · exact absurd q (nI_nle e (by have := h20.2; omega))
              rw [this] at g0
              exact g0 rfl
            have hcc := C_corrupt hC hI
            have hv := hI.2.2.2.2.1.1.1 gp
            have hvl := VL_of hI
            have zc : ∀ Y, RM Y A → f_Mo_corrupt Y = some (gR.i (b2i (cor A)), Y) := fun Y hY => z_corrupt hY hI.2.1.1 hvl hv.1 hv.2
            have h107 : ∀ Y, RM Y A → Y.I 46 0 = 0 → f_Mo_reader_25 Y a (nI i) = (if b2i (cor A) = (0 : Int32) then f_Mo_reader_130 Y a (nI i) else f_Mo_reader_131 Y a (nI i) 1) := fun Y hY hY0 => by
              rw [h83 Y hY hY0, if_pos a0, RM_S hY 20 (by decide) (by decide) (by decide), if_neg g0]
              unfold f_Mo_reader_106 f_Mo_reader_107
              rw [s_wrong0 hY0, gCi_i, if_pos rfl, if_pos a0, zc Y hY, gCi_i]
            cases hc : cor A with
            | true =>
              rw [hc] at h107 hcc
              refine LI_ref (p := 4) (e := 4) (v := 0) (by omega) hM hC hI h0 hK ?_ (fun Y hY hY0 => z_frS hY hi ?_)
              · unfold f_Lw_reader
                rw [hCl]
                unfold f_Le_reader_15
                rw [C_crS hC hi, gCa_a, gO_s, if_neg d1, cS_20 hC.1, if_neg g0, hcc, gCi_i, if_neg (by simp [gp, b2i]), gCit_t, if_neg (by decide), if_neg (by decide), if_neg (by decide), if_pos rfl, if_pos lim]
                rfl
              · rw [h107 Y hY hY0, if_neg (by decide)]
                unfold f_Mo_reader_131 f_Mo_reader_138
                rw [s_wrong1 hY0 (by decide), gCi_i, if_neg (by decide), z_done_123456_4 (w_same rfl), gCi_i]
            | false =>
              rw [hc] at h107 hcc
              obtain ⟨-, ⟨c9, p9, k1, k2, k3, k4, k5⟩, -⟩ := RC_W hC
              obtain ⟨v1, -⟩ := cpq_v k1
              obtain ⟨k6, k7⟩ := k4 gp
              have h32 := hI.1.2.1.2.2.2
              obtain ⟨j1, j2⟩ := hI1.2.2.1 62 rfl (by decide)
              have hvB := VB_of j1 hI.1.1.1.2
              obtain ⟨U, u1, u2, u3⟩ := C_openReader (v := c9) (r := gn (aS A 32)) hC hi4 (by unfold cpq at k1; omega) k6 hvB.1.1 (okN_l (RC_T hC) hI.2.1.1 hv.1) h32.1 (by have := h32.2; omega)
              have hMU : RM (U.w 116 0 (aS A 32 + 1)) A := RM_frC hM (u3.w (by omega))
              have e0 : (U.w 116 0 (aS A 32 + 1)).I 46 0 = 0 := by rw [gX.w_ne (by decide), u3.1 46 (by omega)]; exact h0
              obtain ⟨V, w1, w2, w3, w4, w5⟩ := z_openReader (i := i) (n := 62) hMU hi4 (Or.inr rfl) hvB.1
              have hir : Inv (aRdr A i (aV A 62)) (k + 1) := Inv_rdr hI1 hi4 hi.2.1 (by have := h32.2; omega) (by omega) j1 j2 (fun x hx => ⟨(hv.1 x hx).1, fun q => absurd q (by simp)⟩)
              obtain ⟨T, t1, t2, t3⟩ := z_fin (v := V.I 46 32) (v' := V.I 46 32) (L := 123456) (p := 0) w2 hir (fun W hW => z_done_123456_0 (hW.trans (w4.trans e0)))
              rw [w5] at t1
              refine LI_ok (X := X) (Y := X) (Y0 := U) ?_ u2 (Z := T) ?_ t2 (w3.tr t3) hir (KK_rdr hi4 hK)
              · unfold f_Lw_reader
                rw [hCl]
                unfold f_Le_reader_15
                rw [C_crS hC hi, gCa_a, gO_s, if_neg d1, cS_20 hC.1, if_neg g0, hcc, gCi_i, if_pos (by simp [b2i]), if_pos gr, k2, gM_s, if_pos v1, u1, gCi_i, gCit_i, gB_b]
              · show f_Mo_reader _ a = _
                refine z_frS hMU hi ?_
                rw [h107 _ hMU e0, if_pos b2i_f]
                unfold f_Mo_reader_130 f_Mo_reader_131 f_Mo_reader_166 f_Mo_reader_187
                have ji : gIn (nI i) 4 = true := gIn_nI (by omega) (by omega)
                obtain ⟨W, x1, x2, x3⟩ := z_copy (n := 84 + 8 * i) (m := 62) (by omega) (RM_V hMU 62 rfl) hvB.1 rfl
                rw [x1, gCv_v, gB_b] at w1
                have w1' := (Prod.mk.inj (Option.some.inj w1)).2
                rw [s_wrong0 e0, gCi_i, if_pos rfl, if_neg d1, if_pos ji, if_pos a0, gn_nI (by omega), x1, gCv_v, gB_b, if_pos ji, gB_b, w1', w5, t1, gCi_i]
      · refine LI_ref (p := 5) (e := 5) (v := 0) (by omega) hM hC hI h0 hK ?_ (fun Y hY hY0 => z_frN hY hi ?_)
        · unfold f_Lw_reader
          rw [hCl]
          unfold f_Le_reader_15
          rw [C_crN hC hi, gCa_a, gO_n, gCit_t, if_neg (by decide), if_neg (by decide), if_neg (by decide), if_neg (by decide), if_pos rfl, if_pos lim]
          rfl
        · rw [h64 Y hY hY0, if_pos (show nI 4 = (4 : Int32) from rfl)]
          unfold f_Mo_reader_83 f_Mo_reader_138
          rw [s_wrong1 hY0 (by decide), gCi_i, if_neg (by decide), z_done_123456_5 (w_same rfl), gCi_i]
