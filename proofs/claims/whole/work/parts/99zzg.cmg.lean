/-! THE PURE SIDE: the class begins a merge -/
def Xmg (X : gX) (q g : Nat) (v a z c : Int32) (w : Nat) : gX := ((((((X.w 0 13 v).w q 0 v).w q 1 a).w q 2 z).g q 3 (some w)).w 0 12 c)
theorem CV_mk {X : gX} {v : Nat} {nm : Nat → Nat} {V : zV} {a n u : Nat} (h : CV X v nm V) : CV X v nm (mkR V.1 a n u, V.2) := by
  refine ⟨?_, h.2.1, fun i y hy => ?_, h.2.2.2⟩
  · show _ = nI (mkR V.1 a n u).length
    rw [mkR_len]
    exact h.1
  · obtain ⟨x, h1, h2⟩ := mkR_some hy
    rw [h2, mkR_o.1, mkR_o.2]
    exact h.2.2.1 i x h1
theorem RC_mg {X : gX} {A : zA} {nm : Nat → Nat} {k q a n : Nat} (h : RC X (aNw A (mgD A a n) (fun _ => true) (mgD A a n).length ((mgD A a n).headD 0) (mgZ A a n)) nm k) (o : ¬ aS A 18 = 0) (h34 : aS A 34 = nI (gn (aS A 34))) (h30 : aS A 30 = nI (aM A).length) (h4 : (aM A).length < 4) (hq : X.G 20 (aM A).length = some q) (hm : gMer q = true) : RC (Xmg X q 0 (nI (gn (aS A 34) + 1)) (nI (mgS A a)) (nI (mgZ A a n)) (nI ((aM A).length + 1)) (nm (wr A))) (aMg A a n) nm k := by
  obtain ⟨q1, q2, q3, q4, q5, q6, q7⟩ := h
  have hq2 := gMer_r hm
  have o' : ¬ aS (aNw A (mgD A a n) (fun _ => true) (mgD A a n).length ((mgD A a n).headD 0) (mgZ A a n)) 18 = 0 := by
    show ¬ upd (aS (aActd A)) 11 (aS (aActd A) 11 + 1) 18 = 0
    rw [upd_at, if_neg (by decide), aActd_S (by decide) (by decide)]
    exact o
  have yI : ∀ b, b ≠ 0 → b ≠ q → (Xmg X q 0 (nI (gn (aS A 34) + 1)) (nI (mgS A a)) (nI (mgZ A a n)) (nI ((aM A).length + 1)) (nm (wr A))).I b = X.I b := fun b b1 b2 => by
    unfold Xmg
    rw [gX.w_ne b1]
    show ((((X.w 0 13 _).w q 0 _).w q 1 _).w q 2 _).I b = _
    rw [gX.w_ne b2, gX.w_ne b2, gX.w_ne b2, gX.w_ne b1]
  have yG : ∀ b, b ≠ q → (Xmg X q 0 (nI (gn (aS A 34) + 1)) (nI (mgS A a)) (nI (mgZ A a n)) (nI ((aM A).length + 1)) (nm (wr A))).G b = X.G b := fun b b1 => by
    unfold Xmg
    rw [w_G, gX.g_ne b1]
    rfl
  have y0 : ∀ j, (Xmg X q 0 (nI (gn (aS A 34) + 1)) (nI (mgS A a)) (nI (mgZ A a n)) (nI ((aM A).length + 1)) (nm (wr A))).I 0 j = if j = 12 then nI ((aM A).length + 1) else if j = 13 then nI (gn (aS A 34) + 1) else X.I 0 j := fun j => by
    unfold Xmg
    by_cases c : j = 12
    · rw [if_pos c, c, w_same rfl]
    · rw [if_neg c, w_oth (Or.inr c)]
      show ((((X.w 0 13 _).w q 0 _).w q 1 _).w q 2 _).I 0 j = _
      rw [gX.w_ne (by omega), gX.w_ne (by omega), gX.w_ne (by omega)]
      by_cases c2 : j = 13
      · rw [if_pos c2, c2, w_same rfl]
      · rw [if_neg c2, w_oth (Or.inr c2)]
  have yE : gEq X (Xmg X q 0 (nI (gn (aS A 34) + 1)) (nI (mgS A a)) (nI (mgZ A a n)) (nI ((aM A).length + 1)) (nm (wr A))) := gEq.rf.w.w.w.w.g.w
  have yq : (Xmg X q 0 (nI (gn (aS A 34) + 1)) (nI (mgS A a)) (nI (mgZ A a n)) (nI ((aM A).length + 1)) (nm (wr A))).I q 0 = nI (gn (aS A 34) + 1) ∧ (Xmg X q 0 (nI (gn (aS A 34) + 1)) (nI (mgS A a)) (nI (mgZ A a n)) (nI ((aM A).length + 1)) (nm (wr A))).I q 1 = nI (mgS A a) ∧ (Xmg X q 0 (nI (gn (aS A 34) + 1)) (nI (mgS A a)) (nI (mgZ A a n)) (nI ((aM A).length + 1)) (nm (wr A))).I q 2 = nI (mgZ A a n) ∧ (Xmg X q 0 (nI (gn (aS A 34) + 1)) (nI (mgS A a)) (nI (mgZ A a n)) (nI ((aM A).length + 1)) (nm (wr A))).G q 3 = some (nm (wr A)) := by
    unfold Xmg
    refine ⟨?_, ?_, ?_, ?_⟩
    · rw [gX.w_ne (by omega)]
      show ((((X.w 0 13 _).w q 0 _).w q 1 _).w q 2 _).I q 0 = _
      rw [w_oth (Or.inr (by decide)), w_oth (Or.inr (by decide)), w_same rfl]
    · rw [gX.w_ne (by omega)]
      show ((((X.w 0 13 _).w q 0 _).w q 1 _).w q 2 _).I q 1 = _
      rw [w_oth (Or.inr (by decide)), w_same rfl]
    · rw [gX.w_ne (by omega)]
      show ((((X.w 0 13 _).w q 0 _).w q 1 _).w q 2 _).I q 2 = _
      rw [w_same rfl]
    · rw [w_G]
      exact g_same rfl
  generalize Xmg X q 0 (nI (gn (aS A 34) + 1)) (nI (mgS A a)) (nI (mgZ A a n)) (nI ((aM A).length + 1)) (nm (wr A)) = Y at yI yG y0 yE yq ⊢
  have cV : ∀ m, m ≠ 54 → aV (aMg A a n) m = aV A m := fun m hm => if_neg hm
  have c54 : aV (aMg A a n) 54 = (mkR (aV A 54).1 a n (gn (aS A 34) + 1), (aV A 54).2) := rfl
  have cSS : aS (aMg A a n) = upd (upd (aS (aNw A (mgD A a n) (fun _ => true) (mgD A a n).length ((mgD A a n).headD 0) (mgZ A a n))) 34 (nI (gn (aS A 34) + 1))) 30 (nI ((aM A).length + 1)) := by
    show upd (upd (aS (aNw A (mgD A a n) (fun _ => true) (mgD A a n).length ((mgD A a n).headD 0) (mgZ A a n))) 34 (aS A 34 + 1)) 30 (aS A 30 + 1) = _
    have e1 : aS A 34 + 1 = nI (gn (aS A 34) + 1) := by
      conv => lhs; rw [h34]
      rw [nI_1]
    have e2 : aS A 30 + 1 = nI ((aM A).length + 1) := by rw [h30, nI_1]
    rw [e1, e2]
  refine ⟨?_, ?_, ?_, ?_, ?_, ?_, RR_fr q7 yE⟩
  · intro p hp
    rw [cSS]
    have hb := q1 p hp
    unfold cTab at hp
    simp only [List.mem_cons, List.mem_nil_iff, or_false] at hp
    rcases hp with rfl | rfl | rfl | rfl | rfl | rfl | rfl | rfl | rfl | rfl | rfl | rfl | rfl <;> first | (rw [yI _ (by decide) (by omega)]; exact hb) | (rw [y0]; first | exact hb | rfl)
  · intro _
    rw [cSS, y0, if_neg (by decide), if_neg (by decide)]
    show X.I 0 9 = _
    rw [upd_at, if_neg (by decide), upd_at, if_neg (by decide), upd_at, if_neg (by decide), upd_at, if_neg (by decide)]
    exact q2 o'
  · unfold cE at q3 ⊢
    rw [yI 2 (by omega) (by omega), yI 3 (by omega) (by omega), yI 4 (by omega) (by omega)]
    exact q3
  · exact cT_fr q4 (by rw [yI 6 (by omega) (by omega)]) (by rw [yI 7 (by omega) (by omega)]) (yG 130 (by omega)) (yG 131 (by omega)) yE (fun b j hb _ => by rw [yI b (by omega) (by omega)])
  · obtain ⟨⟨h1, h2⟩, ⟨c, p, k1, k2, k3, k4, k5⟩, h4'⟩ := q5
    obtain ⟨v5, v6, v7, v8, v1, v2, v3, v4⟩ := cpq_v k1
    have hap : (c = 12 ∧ p = 16) ∨ (c = 16 ∧ p = 12) := k1
    have fr : ∀ v V, ((8 ≤ v ∧ v ≤ 16) ∨ 26 ≤ v) → CV X v nm V → CV Y v nm V := fun v V hv r => CV_fr r (yI _ (by omega) (by omega)) (yG _ (by omega)) (yG _ (by omega)) (yI _ (by omega) (by omega))
    refine ⟨⟨fun _ => ?_, ?_⟩, ⟨c, p, k1, ?_, ?_, fun r => ?_, fun r => ?_⟩, fun i hi => ?_⟩
    · rw [c54]
      exact CV_mk (fr 8 _ (by omega) (h1 o'))
    · rw [yG 8 (by omega)]; exact h2
    · rw [yG 0 (by omega)]; exact k2
    · rw [yG 0 (by omega)]; exact k3
    · rw [cV 62 (by decide), yG c (by omega)]
      rw [cSS] at r
      exact ⟨fr c _ (by omega) (k4 r).1, (k4 r).2⟩
    · rw [cV 70 (by decide), yG p (by omega)]
      rw [cSS] at r
      exact ⟨fr p _ (by omega) (k5 r).1, (k5 r).2⟩
    · rw [cV (84 + 8 * i) (by omega)]
      have r := h4' i hi
      unfold cR at r ⊢
      rw [yI (26 + 5 * i) (by omega) (by omega)]
      rcases r with r | ⟨r1, r2, r3, r4⟩
      · exact Or.inl r
      · exact Or.inr ⟨r1, r2, r3, fr _ _ (by omega) r4⟩
  · obtain ⟨⟨m1, m2⟩, m3⟩ := q6
    have g20 : Y.G 20 = X.G 20 := yG 20 (by omega)
    refine ⟨⟨by rw [g20]; exact m1, by rw [g20]; exact m2⟩, fun i m hi hm' => ?_⟩
    have hm'' : (aM A ++ [(gn (aS A 34) + 1, wr A, mgS A a, mgZ A a n)])[i]? = some m := hm'
    rw [List.getElem?_append] at hm''
    by_cases c : i < (aM A).length
    · rw [if_pos c] at hm''
      obtain ⟨n', r1, r2, r3, r4, r5, r6⟩ := m3 i m hi hm''
      have hne : n' ≠ q := fun e => by
        subst e
        have := m2 i (aM A).length hi h4 (by rw [r1, hq])
        omega
      have := gMer_r r2
      refine ⟨n', by rw [g20]; exact r1, r2, ?_, ?_, ?_, ?_⟩
      · rw [yI n' (by omega) hne]; exact r3
      · rw [yI n' (by omega) hne]; exact r4
      · rw [yI n' (by omega) hne]; exact r5
      · rw [yG n' hne]; exact r6
    · rw [if_neg c] at hm''
      have hi0 : i - (aM A).length = 0 := by
        have := vs_lt hm''
        simp only [List.length_cons, List.length_nil] at this
        omega
      rw [hi0] at hm''
      have e : m = (gn (aS A 34) + 1, wr A, mgS A a, mgZ A a n) := (Option.some.inj hm'').symm
      have hil : i = (aM A).length := by omega
      rw [e, hil, g20]
      exact ⟨q, hq, hm, yq.1, yq.2.1, yq.2.2.1, yq.2.2.2⟩
def mgR (A : zA) (a n : Nat) : Bool × zA := if aS A 13 = 0 then (false, aLose A) else (true, aMg A a n)
theorem C_begin {X : gX} {A : zA} {nm : Nat → Nat} {k k' a n : Nat} (h : RC X A nm k') (hm : Mid A k 0) (hc : CH A a n) (hk : k ≤ 600) (hk' : k' ≤ 600) (h4 : (aM A).length < 4) : ((mgR A a n).1 = true ∧ ∃ Y nm', f_Le_beginMerge X (nI a) (nI n) = some (gR.i (nI (gn (aS A 34) + 1)), Y) ∧ RC Y (mgR A a n).2 nm' k' ∧ frC X Y) ∨ ((mgR A a n).1 = false ∧ ∃ Y, f_Le_beginMerge X (nI a) (nI n) = some (gR.t "java/lang/ArithmeticException", Y) ∧ RC Y (mgR A a n).2 nm k' ∧ frC X Y) := by
  obtain ⟨d1, d2, d3, d4, d5, d6, d7, xa, xl, hxa, hxl, eS', eZ'⟩ := mg_facts hm hc
  have hd := hm.2.1.1.1.2
  have hlen : (aV A 54).1.length ≤ 4096 := (VB_of hm.2.2.2.2.1.1.1 (show dc A - bf A ≤ 4096 by omega)).1.1
  have hTB := hm.2.2.1.1
  obtain ⟨c1, c2, c3⟩ := hc
  have hCV := (RC_W h).1.1 hm.1
  have hv := hm.2.2.2.2.2.1.1.2.2.1 hm.1
  obtain ⟨t1, -, -, -, -, t5, t6⟩ := cT_at (RC_T h) hTB (hv xa (vs_mem hxa)).1
  obtain ⟨u1, -, -, -, -, u5, u6⟩ := cT_at (RC_T h) hTB (hv xl (vs_mem hxl)).1
  have gA : X.G 9 a = some (nm xa.1) := (hCV.2.2.1 a xa hxa).1
  have gL : X.G 9 (a + n - 1) = some (nm xl.1) := (hCV.2.2.1 _ xl hxl).1
  have j1 : gIn (nI a) 4096 = true := gIn_nI (by omega) (by omega)
  have j2 : gIn (nI (a + n - 1)) 4096 = true := gIn_nI (by omega) (by omega)
  have eN : nI a + nI n - 1 = nI (a + n - 1) := by rw [nI_add, nI_m1 (by omega)]
  unfold f_Le_beginMerge mgR
  rw [eN, if_pos j1, gn_nI (by omega), gA, gM_s, if_pos t1, if_pos j2, gn_nI (by omega), gL, gM_s, if_pos u1, t5, u6, ← eS', ← eZ']
  by_cases c : aS A 13 = 0
  · right
    obtain ⟨Y, y1, y2, y3⟩ := C_act0 h hTB hk' c
    rw [if_pos c, y1, gCvt_t]
    exact ⟨rfl, Y, rfl, y2, y3⟩
  left
  obtain ⟨Y, y1, y2, y3⟩ := C_act1 h c
  have ew : wr (aActd A) = wr A := congrArg gn (aActd_S (by decide) (by decide))
  have o5 : ¬ aS (aActd A) 18 = 0 := by rw [aActd_S (by decide) (by decide)]; exact hm.1
  have hCY := (RC_W y2).1.1 o5
  have hsz : mgS A a ≤ mgZ A a n := by have := d2 _ d5; omega
  have hlb : f_Vi_liveBetween Y 8 (nI (mgS A a)) (nI (mgZ A a n)) = some (gR.i (nI (mgD A a n).length), Y) := by
    rw [s_liveBetween hsz (by omega), cnt_eq (q := (aV A 54).2.1) _ (fun j hj => by
      show decide _ = _
      rw [hCY.2.2.2 _ (by omega)]
      show decide (¬ b2i ((aV A 54).2.1 (mgS A a + j)) = 0) = _
      cases (aV A 54).2.1 (mgS A a + j) <;> decide), cnt_list d1 (fun d hd' => by have := d2 d hd'; omega) (fun e e1 e2 e3 => d4 e e1 (by omega) e3)]
    have : (mgD A a n).countP (aV A 54).2.1 = (mgD A a n).length := List.countP_eq_length.mpr (fun e he => (mgD_mem.mp he).2)
    rw [this]
  obtain ⟨W, q, w1, w2, w3, w4, w5, w6, w7⟩ := C_new (tl := (mgD A a n).length) (mgD A a n) (fun _ => true) y2 (NW_act (NW_mid hm)) (fun f hf => by rw [ew]; exact hm.2.2.1.2.1 f hf) (by rw [ew, aActd_S (by decide) (by decide)]; exact hm.2.1.1.2.2.1) (by have := hm.2.2.1.2.2; show (aT A).length < 59000; omega) hk'
  rw [ew] at w3
  have hWN : gFile W.N (nmu nm (wr A) q (wr A)) = true := by rw [nmu_w]; exact w2
  have w9 := RC_st (a := (mgD A a n).headD 0) (z := mgZ A a n) (A := aNew (aActd A) (hU (aH (aActd A)) (wr A) (mgD A a n) (fun _ => true) (mgD A a n).length 0 0)) (H := aH A) w3 hWN ⟨(gn (aS (aActd A) 11), false, false), List.mem_append.mpr (Or.inr (List.mem_singleton.mpr rfl)), ew⟩
  rw [nmu_w] at w9
  have hCW : CV W 8 (nmu nm (wr A) q) (aV A 54) := (RC_W w3).1.1 (show ¬ aS (aActd A) 18 = 0 from o5)
  have hfl : f_Vi_firstLive W 8 (nI (mgS A a)) (nI (mgZ A a n)) = some (gR.i (nI ((mgD A a n).headD 0)), W) := C_firstLive hCW (by omega) d7 (d2 _ d5).2 (mgD_mem.mp d5).2 (fun e e1 e2 => by
    cases r : (aV A 54).2.1 e with
    | false => rfl
    | true =>
      have := d6 e (d4 e e1 (by have := (d2 _ d5).2; omega) r)
      omega)
  have w9' : RC ((W.w q 5 (nI ((mgD A a n).headD 0))).w q 6 (nI (mgZ A a n))) (aNw A (mgD A a n) (fun _ => true) (mgD A a n).length ((mgD A a n).headD 0) (mgZ A a n)) (nmu nm (wr A) q) k' := w9
  have hql := gFile.lo w2
  have e13 : ((W.w q 5 (nI ((mgD A a n).headD 0))).w q 6 (nI (mgZ A a n))).I 0 13 + 1 = nI (gn (aS A 34) + 1) := by
    rw [gX.w_ne (by omega), gX.w_ne (by omega), cS_34 w3.1]
    show upd (aS (aActd A)) 11 (aS (aActd A) 11 + 1) 34 + 1 = _
    rw [upd_at, if_neg (by decide), aActd_S (by decide) (by decide)]
    conv => lhs; rw [hm.2.1.2.1.2.2.1.1]
    rw [nI_1]
  have e12 : W.I 0 12 = nI (aM A).length := by
    rw [cS_30 w3.1]
    show upd (aS (aActd A)) 11 (aS (aActd A) 11 + 1) 30 = _
    rw [upd_at, if_neg (by decide), aActd_S (by decide) (by decide)]
    exact hm.2.1.2.2.1.1
  obtain ⟨qm, g1, g2⟩ := (RC_M w3).1.1 (aM A).length h4
  have hqm := gMer_r g2
  have fin := RC_mg w9' hm.1 hm.2.1.2.1.2.2.1.1 hm.2.1.2.2.1.1 h4 (q := qm) g1 g2
  rw [nmu_w] at fin
  rw [if_neg c, y1, gCvt_v, hlb, gCi_i, w1, gCa_a, hfl, gCi_i, gM_s, if_pos w2, gB_b, gM_s, if_pos (show gFile (W.w q 5 (nI ((mgD A a n).headD 0))).N q = true from w2), gB_b, gB_b, e13]
  have h12 : (((W.w q 5 (nI ((mgD A a n).headD 0))).w q 6 (nI (mgZ A a n))).w 0 13 (nI (gn (aS A 34) + 1))).I 0 12 = nI (aM A).length := by
    rw [w_oth (Or.inr (by decide)), gX.w_ne (by omega), gX.w_ne (by omega)]
    exact e12
  have h13 : (((W.w q 5 (nI ((mgD A a n).headD 0))).w q 6 (nI (mgZ A a n))).w 0 13 (nI (gn (aS A 34) + 1))).I 0 13 = nI (gn (aS A 34) + 1) := w_same rfl
  rw [h12, h13, if_pos (gIn_nI h4 (by omega)), gn_nI (by omega), show (((W.w q 5 (nI ((mgD A a n).headD 0))).w q 6 (nI (mgZ A a n))).w 0 13 (nI (gn (aS A 34) + 1))).G 20 (aM A).length = some qm from g1, gM_s, if_pos g2]
  unfold f_Me_begin
  rw [gB_b, gB_b, gB_b, if_pos (show gOk ((((((W.w q 5 (nI ((mgD A a n).headD 0))).w q 6 (nI (mgZ A a n))).w 0 13 (nI (gn (aS A 34) + 1))).w qm 0 (nI (gn (aS A 34) + 1))).w qm 1 (nI (mgS A a))).w qm 2 (nI (mgZ A a n))).N (some q) = true from gOk_f w2), gB_b, gCv_v, gB_b]
  have h12' : ((((((((W.w q 5 (nI ((mgD A a n).headD 0))).w q 6 (nI (mgZ A a n))).w 0 13 (nI (gn (aS A 34) + 1))).w qm 0 (nI (gn (aS A 34) + 1))).w qm 1 (nI (mgS A a))).w qm 2 (nI (mgZ A a n))).g qm 3 (some q)).I 0 12) = nI (aM A).length := by
    show ((((((W.w q 5 (nI ((mgD A a n).headD 0))).w q 6 (nI (mgZ A a n))).w 0 13 (nI (gn (aS A 34) + 1))).w qm 0 (nI (gn (aS A 34) + 1))).w qm 1 (nI (mgS A a))).w qm 2 (nI (mgZ A a n))).I 0 12 = _
    rw [gX.w_ne (by omega), gX.w_ne (by omega), gX.w_ne (by omega)]
    exact h12
  rw [h12', nI_1]
  refine ⟨rfl, _, _, ?_, fin, ?_⟩
  · congr 2
    apply congrArg gR.i
    show (Xmg _ qm 0 _ _ _ _ q).I 0 13 = _
    unfold Xmg
    rw [w_oth (Or.inr (by decide))]
    show (((((((W.w q 5 (nI ((mgD A a n).headD 0))).w q 6 (nI (mgZ A a n))).w 0 13 (nI (gn (aS A 34) + 1))).w qm 0 (nI (gn (aS A 34) + 1))).w qm 1 (nI (mgS A a))).w qm 2 (nI (mgZ A a n)))).I 0 13 = _
    rw [gX.w_ne (by omega), gX.w_ne (by omega), gX.w_ne (by omega), w_same rfl]
  · exact (((((((((y3.C).tr w4).w (by omega)).w (by omega)).w (by omega)).w (by omega)).w (by omega)).w (by omega)).g (by omega)).w (by omega)
