/-! THE PURE SIDE: rows of what is prepared and of what is committed -/
theorem VR_w9 {X : gX} {n u : Nat} {D : Nat → List Nat} {Ls : Nat → Nat → Bool} {V : zV} (h : VR X.I n D Ls V) : VR (X.w n 9 (nI u)).I n D Ls (V.1, V.2.1, u, V.2.2.2.1, V.2.2.2.2) := by
  refine ⟨⟨?_, ?_, ?_, ?_⟩, ⟨?_, ?_, ?_⟩, fun s hs => ?_, ?_, ?_, ?_⟩
  · rw [w_oth (Or.inr (by decide))]; exact h.1.1
  · rw [w_oth (Or.inr (by decide))]; exact h.1.2.1
  · rw [w_same rfl]
  · rw [w_oth (Or.inr (by decide))]; exact h.1.2.2.2
  · rw [gX.w_ne (by omega)]; exact h.2.1.1
  · rw [gX.w_ne (by omega)]; exact h.2.1.2.1
  · rw [gX.w_ne (by omega)]; exact h.2.1.2.2
  · rw [gX.w_ne (by omega)]; exact h.2.2.1 s hs
  · rw [gX.w_ne (by omega)]; exact h.2.2.2.1
  · rw [gX.w_ne (by omega)]; exact h.2.2.2.2.1
  · rw [gX.w_ne (by omega)]; exact h.2.2.2.2.2
theorem RM_Vn {X Y : gX} {A : zA} {n : Nat} {V : zV} (h : RM X A) (hn : n = 62 ∨ n = 70) (e : frI (sVe n) X Y) (hV : VR Y.I n (aD A) (aL A) V) : RM Y (sV1 A n V) ∧ frM X Y ∧ Y.I 46 = X.I 46 := by
  obtain ⟨h1, h2, h3, h4, h5, h6⟩ := h
  have fI : ∀ a, (a < n ∨ n + 7 < a) → Y.I a = X.I a := fun a ha => e.1 a (sVe_f (by omega))
  refine ⟨⟨mS_fr h1 (fI 46 (by omega)), mE_fr (A := sV1 A n V) h2 (fI 47 (by omega)) (fI 48 (by omega)) (fI 49 (by omega)), mT_fr h3 (by rw [fI 46 (by omega)]) (fI 50 (by omega)) (fI 51 (by omega)) (fI 52 (by omega)), fun m hm => ?_, fun k hk => ?_, mM_fr (A := sV1 A n V) h6 (fun a a1 a2 => fI a (by omega)) (fun a a1 a2 => fI a (by omega)) (by rw [e.2.1])⟩, frM.of e (fun a ha => ?_), fI 46 (by omega)⟩
  · show VR _ m (aD A) (aL A) (if m = n then V else aV A m)
    by_cases c : m = n
    · subst c
      rw [if_pos rfl]
      exact hV
    · rw [if_neg c]
      have hgn : gVer n = true := by rcases hn with rfl | rfl <;> rfl
      have ap := gVer.ap hm hgn c
      exact VR_fr (h4 m hm) (fun a a1 a2 => fI a (by omega))
  · rw [fI 78 (by omega), fI 79 (by omega)]
    have q := h5 k hk
    refine ⟨q.1, ?_⟩
    rw [q.2]
    show _ = b2i ((if 54 = n then V else aV A 54).2.1 (dc A - bf A + k))
    rw [if_neg (by omega)]
  · unfold sVe at ha
    simp only [Bool.and_eq_true, decide_eq_true_eq] at ha
    omega
theorem RM_Sw {X : gX} {A : zA} {j : Nat} {v : Int32} (h : RM X A) (h1 : 2 ≤ j) (h2 : j ≠ 10) (h4 : j ≠ 5) (h5 : j ≠ 23) : RM (X.w 46 j v) (sS A (upd (aS A) j v)) ∧ frM X (X.w 46 j v) ∧ (X.w 46 j v).I 46 0 = X.I 46 0 := by
  refine ⟨⟨fun i i1 i2 i3 => ?_, mE_fr (A := sS A (upd (aS A) j v)) h.2.1 (gX.w_ne (by omega)) (gX.w_ne (by omega)) (gX.w_ne (by omega)), mT_fr h.2.2.1 (w_oth (Or.inr (fun e => h2 e.symm))) (gX.w_ne (by omega)) (gX.w_ne (by omega)) (gX.w_ne (by omega)), fun m hm => ?_, ?_, mM_fr (A := sS A (upd (aS A) j v)) h.2.2.2.2.2 (fun a a1 a2 => gX.w_ne (by omega)) (fun a a1 a2 => gX.w_ne (by omega)) rfl⟩, frM.rf.w (by omega), w_oth (Or.inr (by omega))⟩
  · rw [gX.w_self]
    show upd (X.I 46) j v i = upd (aS A) j v i
    rw [upd_at, upd_at, h.1 i i1 i2 i3]
  · have hr := gVer_range hm
    exact VR_fr (h.2.2.2.1 m hm) (fun a a1 a2 => gX.w_ne (by omega))
  · have q := h.2.2.2.2.1
    intro k hk
    have ed : dc (sS A (upd (aS A) j v)) = dc A := by show gn (upd (aS A) j v 5) = _; rw [upd_at, if_neg (fun e => h4 e.symm)]
    have eb : bf (sS A (upd (aS A) j v)) = bf A := by show gn (upd (aS A) j v 23) = _; rw [upd_at, if_neg (fun e => h5 e.symm)]
    rw [ed, eb, gX.w_ne (by omega), gX.w_ne (by omega)]
    rw [eb] at hk
    exact q k hk
theorem z_prp {X : gX} {A : zA} {w : Nat} (h : RM X A) (hB : VB (aD A) (aV A 54)) : ∃ Y, gCv (ρ := (gX × Int32) ⊕ (gR × gX)) (f_Ve_copy X 70 54) (fun X13 => gB (X13.w 70 9 (nI w)) (fun X14 => gB (X14.w 46 19 1) (fun X15 => gLf (some (gR.i ((X15.I 46 20) + 1), X15))))) = some (Sum.inr (gR.i (aS A 20 + 1), Y)) ∧ RM Y (aPrp A w) ∧ frM X Y ∧ Y.I 46 0 = X.I 46 0 := by
  obtain ⟨W, w1, w2, w3⟩ := z_copy (n := 70) (m := 54) (by omega) (RM_V h 54 rfl) hB rfl
  rw [w1, gCv_v, gB_b, gB_b, gLf_s]
  have e10 : X.I 70 10 = (aV A 70).2.2.2.2 := (RM_V h 70 rfl).1.2.2.2
  rw [e10] at w3
  have hf : frI (sVe 70) X (W.w 70 9 (nI w)) := ⟨fun a ha => by
    have : a ≠ 70 := fun e => by subst e; exact absurd ha (by decide)
    rw [gX.w_ne this]; exact w2.1 a ha, w2.2.1, w2.2.2.w⟩
  obtain ⟨y1, y2, y3⟩ := RM_Vn h (Or.inr rfl) hf (VR_w9 (u := w) w3)
  obtain ⟨z1, z2, z3⟩ := RM_Sw (j := 19) (v := 1) y1 (by decide) (by decide) (by decide) (by decide)
  refine ⟨_, ?_, z1, y2.tr z2, by rw [z3, y3]⟩
  rw [w_oth (Or.inr (by decide)), y3, RM_S h 20 (by decide) (by decide) (by decide)]
def aRen (A : zA) : zA := sS (sV1 A 62 ((aV A 70).1, (aV A 70).2.1, (aV A 70).2.2.1, (aV A 70).2.2.2.1, (aV A 62).2.2.2.2)) (upd (upd (aS A) 19 0) 20 (aS A 20 + 1))
theorem z_ren {X : gX} {A : zA} (h : RM X A) (hB : VB (aD A) (aV A 70)) : ∃ Y, gCv (f_Ve_copy X 62 70) (fun X4 => gB (X4.w 46 19 0) (fun X5 => gB (X5.w 46 20 ((X5.I 46 20) + 1)) (fun X6 => some (gR.i (X6.I 46 20), X6)))) = some (gR.i (aS A 20 + 1), Y) ∧ RM Y (aRen A) ∧ frM X Y ∧ Y.I 46 0 = X.I 46 0 := by
  obtain ⟨W, w1, w2, w3⟩ := z_copy (n := 62) (m := 70) (by omega) (RM_V h 70 rfl) hB rfl
  rw [w1, gCv_v, gB_b, gB_b]
  have e10 : X.I 62 10 = (aV A 62).2.2.2.2 := (RM_V h 62 rfl).1.2.2.2
  rw [e10] at w3
  obtain ⟨y1, y2, y3⟩ := RM_Vn h (Or.inl rfl) w2 w3
  obtain ⟨z1, z2, z3⟩ := RM_Sw (j := 19) (v := 0) y1 (by decide) (by decide) (by decide) (by decide)
  have e20 : (W.w 46 19 0).I 46 20 = aS A 20 := by rw [w_oth (Or.inr (by decide)), y3, RM_S h 20 (by decide) (by decide) (by decide)]
  rw [e20]
  obtain ⟨u1, u2, u3⟩ := RM_Sw (j := 20) (v := aS A 20 + 1) z1 (by decide) (by decide) (by decide) (by decide)
  exact ⟨_, by rw [w_same rfl], u1, (y2.tr z2).tr u2, by rw [u3, z3, y3]⟩
/-- the class: what is prepared lies in the other View -/
theorem gOk_f {N q : Nat} (h : gFile N q = true) : gOk N (some q) = true := by
  have h1 := gFile.lo h
  have h2 := gFile.hi h
  unfold gOk
  simp
  omega
theorem gOk_v {N c p : Nat} (h : cpq c p) : gOk N (some c) = true ∧ gOk N (some p) = true := by
  unfold gOk
  rcases h with ⟨rfl, rfl⟩ | ⟨rfl, rfl⟩ <;> simp <;> omega
theorem C_prp {X : gX} {A : zA} {nm : Nat → Nat} {k w : Nat} (h : RC X A nm k) (o : ¬ aS A 18 = 0) (hl4 : (aV A 54).1.length ≤ 4096) (ho : okN X.N nm (aV A 54).1) (hq : gFile X.N (nm w) = true) : ∃ Y, gM (X.G 0 6) (fun n9 => (if gVie n9 then gCv (f_Vi_copyFrom X n9 8) (fun X11 => gM (X11.G 0 6) (fun n12 => (if gVie n12 then (if gOk X11.N (some (nm w)) then gB (X11.g n12 3 (some (nm w))) (fun X14 => gB (X14.w 0 8 1) (fun X15 => some (gR.i 1, X15))) else none) else none))) else none)) = some (gR.i 1, Y) ∧ RC Y (aPrp A w) nm k ∧ frC X Y := by
  obtain ⟨q1, q2, q3, q4, q5, q6, q7⟩ := h
  obtain ⟨⟨h1, h2⟩, ⟨c, p, k1, k2, k3, k4, k5⟩, h4⟩ := q5
  obtain ⟨v5, v6, v7, v8, v1, v2, v3, v4⟩ := cpq_v k1
  obtain ⟨W, y1, y2, y3⟩ := C_copy (v := p) (u := 8) (by omega) (h1 o) hl4 ho
  have g6 : W.G 0 6 = some p := by rw [y3.2.1 0 (by omega) (by omega)]; exact k3
  have hN : W.N = X.N := y3.2.2.2.2.1
  rw [k3, gM_s, if_pos v6, y1, gCv_v, g6, gM_s, if_pos v6, hN, if_pos (gOk_f hq), gB_b, gB_b]
  have hap : (c = 12 ∧ p = 16) ∨ (c = 16 ∧ p = 12) := k1
  have yI : ∀ a, a ≠ 0 → a ≠ p → a ≠ p + 3 → ((W.g p 3 (some (nm w))).w 0 8 1).I a = X.I a := fun a a1 a2 a3 => by rw [gX.w_ne a1]; exact y3.1 a a2 a3
  have yG : ∀ a, a ≠ p → a ≠ p + 1 → a ≠ p + 2 → ((W.g p 3 (some (nm w))).w 0 8 1).G a = X.G a := fun a a1 a2 a3 => by rw [w_G, gX.g_ne a1]; exact y3.2.1 a a2 a3
  have y0 : W.I 0 = X.I 0 := y3.1 0 (by omega) (by omega)
  have yE : gEq X ((W.g p 3 (some (nm w))).w 0 8 1) := y3.2.2.g.w
  refine ⟨_, rfl, ⟨?_, ?_, ?_, ?_, ?_, ?_, RR_fr q7 yE⟩, fun a ha => yI a (by omega) (by omega) (by omega), yG 121 (by omega) (by omega) (by omega)⟩
  · have : cS (W.g p 3 (some (nm w))) (aS A) := cS_fr q1 y0 (y3.1 1 (by omega) (by omega)) (y3.1 5 (by omega) (by omega))
    exact cS_w this (show (0, 8, 19) ∈ cTab by decide)
  · intro q
    rw [w_oth (Or.inr (by decide))]
    show W.I 0 9 = _
    rw [y0]
    exact q2 o
  · unfold cE at q3 ⊢
    rw [yI 2 (by omega) (by omega) (by omega), yI 3 (by omega) (by omega) (by omega), yI 4 (by omega) (by omega) (by omega)]
    exact q3
  · exact cT_fr q4 (by rw [yI 6 (by omega) (by omega) (by omega)]) (by rw [yI 7 (by omega) (by omega) (by omega)]) (yG 130 (by omega) (by omega) (by omega)) (yG 131 (by omega) (by omega) (by omega)) yE (fun a j ha _ => by rw [yI a (by omega) (by omega) (by omega)])
  · have fr : ∀ v V, (v = 8 ∨ v = c ∨ 26 ≤ v) → v < 43 → CV X v nm V → CV ((W.g p 3 (some (nm w))).w 0 8 1) v nm V := fun v V hv hv2 q => CV_fr q (yI _ (by omega) (by omega) (by omega)) (yG _ (by omega) (by omega) (by omega)) (yG _ (by omega) (by omega) (by omega)) (yI _ (by omega) (by omega) (by omega))
    have eV : ∀ n, n ≠ 70 → aV (aPrp A w) n = aV A n := fun n hn => if_neg hn
    have e70 : aV (aPrp A w) 70 = ((aV A 54).1, (aV A 54).2.1, w, (aV A 54).2.2.2.1, (aV A 70).2.2.2.2) := rfl
    have e20 : aS (aPrp A w) 20 = aS A 20 := rfl
    refine ⟨⟨fun _ => ?_, ?_⟩, ⟨c, p, k1, ?_, ?_, fun q => ?_, fun q => ⟨?_, ?_⟩⟩, fun i hi => ?_⟩
    · rw [eV 54 (by decide)]; exact fr 8 _ (Or.inl rfl) (by omega) (h1 o)
    · rw [yG 8 (by omega) (by omega) (by omega)]; exact h2
    · rw [yG 0 (by omega) (by omega) (by omega)]; exact k2
    · rw [yG 0 (by omega) (by omega) (by omega)]; exact k3
    · rw [eV 62 (by decide), yG c (by omega) (by omega) (by omega)]
      rw [e20] at q
      exact ⟨fr c _ (Or.inr (Or.inl rfl)) (by omega) (k4 q).1, (k4 q).2⟩
    · rw [e70]
      have hz : CV ((W.g p 3 (some (nm w))).w 0 8 1) p nm (aV A 54) := CV_fr y2 (gX.w_ne (by omega)) (by rw [w_G, gX.g_ne (by omega)]) (by rw [w_G, gX.g_ne (by omega)]) (gX.w_ne (by omega))
      exact hz
    · rw [e70, w_G]
      exact g_same rfl
    · rw [eV (84 + 8 * i) (by omega)]
      have q := h4 i hi
      unfold cR at q ⊢
      rw [yI (26 + 5 * i) (by omega) (by omega) (by omega)]
      rcases q with q | ⟨r1, r2, r3, r4⟩
      · exact Or.inl q
      · exact Or.inr ⟨r1, r2, r3, fr _ _ (Or.inr (Or.inr (by omega))) (by omega) r4⟩
  · exact cM_fr q6 (fun a a1 a2 => yI a (by omega) (by omega) (by omega)) (fun a a1 a2 => yG a (by omega) (by omega) (by omega))
theorem C_ren {X : gX} {A : zA} {nm : Nat → Nat} {k : Nat} (h : RC X A nm k) (o : ¬ aS A 19 = 0) : RC ((((X.g 0 5 (X.G 0 6)).g 0 6 (X.G 0 5)).w 0 8 0).w 0 15 (aS A 20 + 1)) (aRen A) nm k ∧ gOk X.N (X.G 0 6) = true ∧ gOk X.N (X.G 0 5) = true := by
  obtain ⟨q1, q2, q3, q4, q5, q6, q7⟩ := h
  obtain ⟨⟨h1, h2⟩, ⟨c, p, k1, k2, k3, k4, k5⟩, h4⟩ := q5
  obtain ⟨v5, v6, v7, v8, v1, v2, v3, v4⟩ := cpq_v k1
  have hk1 : cpq p c := k1.elim (fun q => Or.inr ⟨q.2, q.1⟩) (fun q => Or.inl ⟨q.2, q.1⟩)
  refine ⟨?_, by rw [k3]; exact (gOk_v k1).2, by rw [k2]; exact (gOk_v k1).1⟩
  rw [k2, k3]
  have yI : ∀ a, a ≠ 0 → ((((X.g 0 5 (some p)).g 0 6 (some c)).w 0 8 0).w 0 15 (aS A 20 + 1)).I a = X.I a := fun a a1 => by rw [gX.w_ne a1, gX.w_ne a1]; rfl
  have yG : ∀ a, a ≠ 0 → ((((X.g 0 5 (some p)).g 0 6 (some c)).w 0 8 0).w 0 15 (aS A 20 + 1)).G a = X.G a := fun a a1 => by rw [w_G, w_G, gX.g_ne a1, gX.g_ne a1]
  have yE : gEq X ((((X.g 0 5 (some p)).g 0 6 (some c)).w 0 8 0).w 0 15 (aS A 20 + 1)) := gEq.rf.g.g.w.w
  have eV : ∀ n, n ≠ 62 → aV (aRen A) n = aV A n := fun n hn => if_neg hn
  have e62 : aV (aRen A) 62 = ((aV A 70).1, (aV A 70).2.1, (aV A 70).2.2.1, (aV A 70).2.2.2.1, (aV A 62).2.2.2.2) := rfl
  refine ⟨?_, ?_, ?_, ?_, ?_, ?_, RR_fr q7 yE⟩
  · have s1 : cS ((X.g 0 5 (some p)).g 0 6 (some c)) (aS A) := q1
    exact cS_w (cS_w s1 (show (0, 8, 19) ∈ cTab by decide)) (show (0, 15, 20) ∈ cTab by decide)
  · intro q
    rw [w_oth (Or.inr (by decide)), w_oth (Or.inr (by decide))]
    exact q2 q
  · unfold cE at q3 ⊢
    rw [yI 2 (by omega), yI 3 (by omega), yI 4 (by omega)]
    exact q3
  · exact cT_fr q4 (by rw [yI 6 (by omega)]) (by rw [yI 7 (by omega)]) (yG 130 (by omega)) (yG 131 (by omega)) yE (fun a j ha _ => by rw [yI a (by omega)])
  · have fr : ∀ v V, 0 < v → CV X v nm V → CV ((((X.g 0 5 (some p)).g 0 6 (some c)).w 0 8 0).w 0 15 (aS A 20 + 1)) v nm V := fun v V hv q => CV_fr q (yI _ (by omega)) (yG _ (by omega)) (yG _ (by omega)) (yI _ (by omega))
    refine ⟨⟨fun q => ?_, ?_⟩, ⟨p, c, hk1, ?_, ?_, fun q => ⟨?_, ?_⟩, fun q => absurd rfl q⟩, fun i hi => ?_⟩
    · rw [eV 54 (by decide)]; exact fr 8 _ (by omega) (h1 q)
    · rw [yG 8 (by omega)]; exact h2
    · rw [w_G, w_G, g_oth (Or.inr (by decide)), g_same rfl]
    · rw [w_G, w_G, g_same rfl]
    · rw [e62]; exact fr p _ (by omega) (k5 o).1
    · rw [e62, yG p (by omega)]; exact (k5 o).2
    · rw [eV (84 + 8 * i) (by omega)]
      have q := h4 i hi
      unfold cR at q ⊢
      rw [yI (26 + 5 * i) (by omega)]
      rcases q with q | ⟨r1, r2, r3, r4⟩
      · exact Or.inl q
      · exact Or.inr ⟨r1, r2, r3, fr _ _ (by omega) r4⟩
  · exact cM_fr q6 (fun a a1 a2 => yI a (by omega)) (fun a a1 a2 => yG a (by omega))
