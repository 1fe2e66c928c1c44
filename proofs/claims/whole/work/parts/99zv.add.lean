/-! THE PURE SIDE: the call add -/
def adE (A : zA) (key val : Int32) : Nat → Nat → Int32 := fun r => if r = 0 then upd (aE A 0) (dc A) key else if r = 1 then upd (aE A 1) (dc A) val else if r = 2 then upd (aE A 2) (dc A) ((aV A 54).2.2.2.1 + 1) else aE A r
def adV (A : zA) : zV := ((aV A 54).1, fun e => if e = dc A then true else (aV A 54).2.1 e, (aV A 54).2.2.1, (aV A 54).2.2.2.1 + 1, (aV A 54).2.2.2.2)
def aAd (A : zA) (key val : Int32) : zA := (upd (upd (aS A) 23 (aS A 23 + 1)) 5 (aS A 5 + 1), adE A key val, aT A, fun m => if m = 54 then adV A else aV A m, aM A, aH A)
theorem ad_S {A : zA} {key val : Int32} {j : Nat} (h1 : j ≠ 5) (h2 : j ≠ 23) : aS (aAd A key val) j = aS A j := by
  show upd (upd (aS A) 23 (aS A 23 + 1)) 5 (aS A 5 + 1) j = _
  rw [upd_at, if_neg h1, upd_at, if_neg h2]
theorem ad_dc {A : zA} {k : Nat} {key val : Int32} (h : J1 A k) : dc (aAd A key val) = dc A + 1 ∧ bf (aAd A key val) = bf A + 1 ∧ aS (aAd A key val) 5 = nI (dc A + 1) ∧ aS (aAd A key val) 23 = nI (bf A + 1) := by
  obtain ⟨⟨⟨p1, p1'⟩, ⟨p2, p2'⟩, -⟩, -⟩ := h
  have e5 : aS (aAd A key val) 5 = nI (dc A + 1) := by
    show upd (upd (aS A) 23 (aS A 23 + 1)) 5 (aS A 5 + 1) 5 = _
    rw [upd_at, if_pos rfl, p1, nI_1]
  have e23 : aS (aAd A key val) 23 = nI (bf A + 1) := by
    show upd (upd (aS A) 23 (aS A 23 + 1)) 5 (aS A 5 + 1) 23 = _
    rw [upd_at, if_neg (by decide), upd_at, if_pos rfl, p2, nI_1]
  refine ⟨?_, ?_, e5, e23⟩
  · show gn (aS (aAd A key val) 5) = _
    rw [e5, gn_nI (by omega)]
  · show gn (aS (aAd A key val) 23) = _
    rw [e23, gn_nI (by omega)]
theorem Mid_ad {A : zA} {k : Nat} {key val : Int32} (h : Mid A k 0) (hd : dc A + 1 ≤ 4096) : Mid (aAd A key val) k 0 := by
  obtain ⟨d1, d2, d3, d4⟩ := ad_dc (key := key) (val := val) h.2.1
  obtain ⟨ho, h1, h2, h3, ⟨⟨a1, a1'⟩, a2, ⟨a3, a3', a3''⟩, a4⟩, h5, h6⟩ := h
  obtain ⟨⟨⟨p1, p1'⟩, ⟨p2, p2'⟩, p3⟩, q, r, s⟩ := h1
  have eV : ∀ n, n ≠ 54 → aV (aAd A key val) n = aV A n := fun n hn => if_neg hn
  have e54 : aV (aAd A key val) 54 = adV A := rfl
  have ew : wr (aAd A key val) = wr A := congrArg gn (ad_S (by decide) (by decide))
  have e18 : aS (aAd A key val) 18 = aS A 18 := ad_S (by decide) (by decide)
  have e19 : aS (aAd A key val) 19 = aS A 19 := ad_S (by decide) (by decide)
  have e20 : aS (aAd A key val) 20 = aS A 20 := ad_S (by decide) (by decide)
  have e14 : aS (aAd A key val) 14 = aS A 14 := ad_S (by decide) (by decide)
  have e34 : aS (aAd A key val) 34 = aS A 34 := ad_S (by decide) (by decide)
  have eb : dc (aAd A key val) - bf (aAd A key val) = dc A - bf A := by rw [d1, d2]; omega
  have old : ∀ e, e < dc A → (adV A).2.1 e = (aV A 54).2.1 e := fun e he => if_neg (by omega)
  have hDlt : ∀ x, x ∈ (aV A 54).1 → ∀ e, e ∈ aD A x.1 → e < dc A := fun x hx e he => by
    have f := (a1.1 x hx).1
    have := (f.2.1 e he).2
    have := f.2.2.2.1
    omega
  have hkp : ∀ x, x ∈ (aV A 54).1 → (aD A x.1).countP (adV A).2.1 = (aD A x.1).countP (aV A 54).2.1 := fun x hx => List.countP_congr (fun e he => by rw [old e (hDlt x hx e he)])
  have nde : ∀ f, ndd (aAd A key val) f = ndd A f := fun f => by
    have h1 : nd1 (aAd A key val) f = nd1 A f := by unfold nd1; rw [eV 62 (by decide), e20]
    have h2 : nd2 (aAd A key val) f = nd2 A f := by unfold nd2; rw [eV 70 (by decide), e19]
    have h3 : nd3 (aAd A key val) f = nd3 A f := by unfold nd3; rw [e18]; rfl
    have h5 : nd5 (aAd A key val) 4 f = nd5 A 4 f := by
      unfold nd5
      congr 1
      funext i
      rw [eV (84 + 8 * i) (by omega)]
    unfold ndd
    rw [h1, h2, h3, h5]
    rfl
  refine ⟨by rw [e18]; exact ho, ⟨⟨⟨by rw [d1]; exact d3, by omega⟩, ⟨by rw [d2]; exact d4, by omega⟩, ?_⟩, ⟨?_, ?_, ?_, ?_⟩, ?_, ?_⟩, ⟨h2.1, by rw [ew]; exact h2.2.1, h2.2.2⟩, fun n hn hn' => ?_, ⟨⟨?_, fun e he => ?_⟩, fun x hx => ?_, ⟨fun m hm => ?_, a3', a3''⟩, ?_⟩, ?_, ?_⟩
  · rw [ew, ad_S (by decide) (by decide)]; exact p3
  · rw [ad_S (by decide) (by decide)]; exact q.1
  · rw [e20]; exact q.2.1
  · rw [e34]; exact q.2.2.1
  · rw [ad_S (by decide) (by decide)]; exact q.2.2.2
  · rw [ad_S (by decide) (by decide)]; exact r
  · rw [e18, e19, e14]; exact s
  · rw [d1, ew, eV n hn']
    exact ⟨VI_mono (h3 n hn hn').1 (by omega), (h3 n hn hn').2⟩
  · rw [eb, ew, e54]
    refine ⟨fun x hx => ?_, a1.2⟩
    obtain ⟨x1, x2, x3, x4⟩ := a1.1 x hx
    refine ⟨x1, x2, x3, fun j hj => ?_⟩
    obtain ⟨y1, y2, y3⟩ := x4 j hj
    exact ⟨y1, y2, fun e he1 he2 => y3 e he1 (by rw [← old e (hDlt x hx e he1)]; exact he2)⟩
  · rw [eb, d1]
    rw [e54] at he
    by_cases c : e = dc A
    · exact Or.inr (by omega)
    · have he' : (aV A 54).2.1 e = true := by
        have : (if e = dc A then true else (aV A 54).2.1 e) = true := he
        rw [if_neg c] at this
        exact this
      rcases a1' e he' with q | q
      · exact Or.inl q
      · exact Or.inr (by omega)
  · rw [e54] at hx ⊢
    have := a2 x hx
    unfold kp at this ⊢
    show (!decide (x.2.2 = 0) || !decide ((aD A x.1).countP (adV A).2.1 = 0)) = true
    rw [hkp x hx]
    exact this
  · obtain ⟨m1, ⟨m2, m3, m4⟩, m5, m6, m7, m8, m9⟩ := a3 m hm
    have men := m2.2.2.2.1
    refine ⟨by rw [e34]; exact m1, ⟨by rw [eb]; exact m2, by rw [ew]; exact m3, m4⟩, m5, m6, m7, m8, fun e x1 x2 x3 => m9 e x1 x2 ?_⟩
    rw [← old e (by have : gEn (aH A) m.2.1 = m.2.2.2 := m4; omega)]
    exact x3
  · intro j x hj hx j' hj'
    rw [e19, e20, eV 70 (by decide), eV 62 (by decide)]
    exact a4 j x hj hx j' hj'
  · obtain ⟨⟨b1, b2, b3, b4, b5⟩, b6, b7⟩ := h5
    refine ⟨⟨?_, ?_, ?_, b4, fun i hi => ?_⟩, ?_, ?_⟩
    · rw [e20, eV 62 (by decide)]; exact b1
    · rw [e19, eV 70 (by decide)]; exact b2
    · rw [e18]; exact b3
    · rw [eV (84 + 8 * i) (by omega)]; exact b5 i hi
    · rw [e20, eV 62 (by decide)]; exact b6
    · rw [e19, eV 70 (by decide)]; exact b7
  · refine ⟨by rw [e18, e19]; exact h6.1, by rw [e14, e18]; exact h6.2.1, fun q f hf => ?_, fun i hi => ?_⟩
    · rw [nde]
      rw [e14] at q
      exact h6.2.2.1 q f hf
    · rw [eV (84 + 8 * i) (by omega)]; exact h6.2.2.2 i hi
theorem C_ad {X : gX} {A : zA} {nm : Nat → Nat} {k k' : Nat} {key val : Int32} (h : RC X A nm k') (hm : Mid A k 0) (hd : dc A + 1 ≤ 4096) : ∃ Y, f_Le_addEntry X key val = some (gR.v, Y) ∧ RC Y (aAd A key val) nm k' ∧ frC X Y := by
  obtain ⟨d1, d2, d3, d4⟩ := ad_dc (key := key) (val := val) hm.2.1
  have ho := hm.1
  have p1 := hm.2.1.1.1.1
  have p2 := hm.2.1.1.2.1.1
  have hCV := (RC_W h).1.1 ho
  obtain ⟨q1, q2, q3, q4, q5, q6, q7⟩ := h
  have f5 : X.I 1 3 = nI (dc A) := (cS_5 q1).trans p1
  unfold f_Le_addEntry f_En_append
  rw [f5, if_neg (n4096_ge (by omega)), gB_b, gX.w_ne (show 1 ≠ 8 by decide), f5, if_pos (gIn_nI (by omega) (by omega)), gn_nI (by omega), gB_b, show vp_nar .boolean 1 = 1 from rfl]
  have g5 : ((X.w 8 5 (X.I 8 5 + 1)).w 11 (dc A) 1).I 1 3 = nI (dc A) := by rw [gX.w_ne (by decide), gX.w_ne (by decide)]; exact f5
  have g85 : ((X.w 8 5 (X.I 8 5 + 1)).w 11 (dc A) 1).I 8 5 = (aV A 54).2.2.2.1 + 1 := by rw [gX.w_ne (by decide), w_same rfl, hCV.2.1]
  rw [g5, g85, if_pos (gIn_nI (by omega) (by omega)), gn_nI (by omega), gB_b, gX.w_ne (show 1 ≠ 2 by decide), g5, if_pos (gIn_nI (by omega) (by omega)), gn_nI (by omega), gB_b, gX.w_ne (show 1 ≠ 3 by decide), gX.w_ne (show 1 ≠ 2 by decide), g5, if_pos (gIn_nI (by omega) (by omega)), gn_nI (by omega), gB_b, gX.w_ne (show 1 ≠ 4 by decide), gX.w_ne (show 1 ≠ 3 by decide), gX.w_ne (show 1 ≠ 2 by decide), g5, nI_1, gB_b, gCv_v]
  have s1 : cS ((((((X.w 8 5 (X.I 8 5 + 1)).w 11 (dc A) 1).w 2 (dc A) key).w 3 (dc A) val).w 4 (dc A) ((aV A 54).2.2.2.1 + 1)).w 1 3 (nI (dc A + 1))) (upd (upd (aS A) 23 (aS A 23 + 1)) 5 (aS A 5 + 1)) := by
    have e : nI (dc A + 1) = aS A 5 + 1 := by rw [p1, nI_1]
    rw [e]
    exact cS_w (cS_23 (cS_o (cS_o (cS_o (cS_o (cS_o q1 (Or.inl (by decide))) (Or.inl (by decide))) (Or.inl (by decide))) (Or.inl (by decide))) (Or.inl (by decide)))) (show (1, 3, 5) ∈ cTab by decide)
  have fI : ∀ b, b ≠ 1 → b ≠ 2 → b ≠ 3 → b ≠ 4 → b ≠ 8 → b ≠ 11 → ((((((X.w 8 5 (X.I 8 5 + 1)).w 11 (dc A) 1).w 2 (dc A) key).w 3 (dc A) val).w 4 (dc A) ((aV A 54).2.2.2.1 + 1)).w 1 3 (nI (dc A + 1))).I b = X.I b := fun b b1 b2 b3 b4 b5 b6 => by rw [gX.w_ne b1, gX.w_ne b4, gX.w_ne b3, gX.w_ne b2, gX.w_ne b6, gX.w_ne b5]
  refine ⟨_, rfl, ⟨s1, fun o => ?_, ⟨?_, ?_, ?_⟩, ?_, ?_, ?_, RR_fr q7 gEq.rf.w.w.w.w.w.w⟩, (((((frC.rf.w (by omega)).w (by omega)).w (by omega)).w (by omega)).w (by omega)).w (by omega)⟩
  · rw [fI 0 (by decide) (by decide) (by decide) (by decide) (by decide) (by decide), q2 ho, d3, d4, p1, p2, pk_sub hm.2.1.1.2.1.2, pk_sub (by have := hm.2.1.1.2.1.2; omega)]
    congr 1
    omega
  · show _ = upd (aE A 0) (dc A) key
    rw [gX.w_ne (by decide), gX.w_ne (by decide), gX.w_ne (by decide), gX.w_self, gX.w_ne (by decide), gX.w_ne (by decide), q3.1]
  · show _ = upd (aE A 1) (dc A) val
    rw [gX.w_ne (by decide), gX.w_ne (by decide), gX.w_self, gX.w_ne (by decide), gX.w_ne (by decide), gX.w_ne (by decide), q3.2.1]
  · show _ = upd (aE A 2) (dc A) ((aV A 54).2.2.2.1 + 1)
    rw [gX.w_ne (by decide), gX.w_self, gX.w_ne (by decide), gX.w_ne (by decide), gX.w_ne (by decide), gX.w_ne (by decide), q3.2.2]
  · exact cT_fr q4 (by rw [fI 6 (by decide) (by decide) (by decide) (by decide) (by decide) (by decide)]) (by rw [fI 7 (by decide) (by decide) (by decide) (by decide) (by decide) (by decide)]) rfl rfl gEq.rf.w.w.w.w.w.w (fun b j hb _ => by rw [fI b (by omega) (by omega) (by omega) (by omega) (by omega) (by omega)])
  · obtain ⟨⟨h1, h2⟩, ⟨c, p, k1, k2, k3, k4, k5⟩, h4⟩ := q5
    have hcp := cpq_v k1
    have eV : ∀ n, n ≠ 54 → aV (aAd A key val) n = aV A n := fun n hn => if_neg hn
    have e19 : aS (aAd A key val) 19 = aS A 19 := ad_S (by decide) (by decide)
    have e20 : aS (aAd A key val) 20 = aS A 20 := ad_S (by decide) (by decide)
    have fr : ∀ v V, 12 ≤ v → v < 43 → CV X v nm V → CV ((((((X.w 8 5 (X.I 8 5 + 1)).w 11 (dc A) 1).w 2 (dc A) key).w 3 (dc A) val).w 4 (dc A) ((aV A 54).2.2.2.1 + 1)).w 1 3 (nI (dc A + 1))) v nm V := fun v V a1 a2 q => CV_fr q (fI v (by omega) (by omega) (by omega) (by omega) (by omega) (by omega)) rfl rfl (fI _ (by omega) (by omega) (by omega) (by omega) (by omega) (by omega))
    refine ⟨⟨fun _ => ⟨?_, ?_, hCV.2.2.1, fun e he => ?_⟩, h2⟩, ⟨c, p, k1, k2, k3, fun o => ?_, fun o => ?_⟩, fun i hi => ?_⟩
    · rw [gX.w_ne (by decide), gX.w_ne (by decide), gX.w_ne (by decide), gX.w_ne (by decide), gX.w_ne (by decide), w_oth (Or.inr (by decide))]; exact hCV.1
    · rw [gX.w_ne (by decide), gX.w_ne (by decide), gX.w_ne (by decide), gX.w_ne (by decide), gX.w_ne (by decide), w_same rfl, hCV.2.1]; rfl
    · rw [gX.w_ne (by decide), gX.w_ne (by decide), gX.w_ne (by decide), gX.w_ne (by decide)]
      show _ = b2i (if e = dc A then true else (aV A 54).2.1 e)
      by_cases c9 : e = dc A
      · rw [if_pos c9, c9]
        exact w_same rfl
      · rw [if_neg c9, w_oth (Or.inr c9), gX.w_ne (by decide)]
        exact hCV.2.2.2 e he
    · rw [eV 62 (by decide)]
      rw [e20] at o
      exact ⟨fr c _ (by omega) (by omega) (k4 o).1, (k4 o).2⟩
    · rw [eV 70 (by decide)]
      rw [e19] at o
      exact ⟨fr p _ (by omega) (by omega) (k5 o).1, (k5 o).2⟩
    · rw [eV (84 + 8 * i) (by omega)]
      have q := h4 i hi
      unfold cR at q ⊢
      rw [fI (26 + 5 * i) (by omega) (by omega) (by omega) (by omega) (by omega) (by omega)]
      rcases q with q | ⟨r1, r2, r3, r4⟩
      · exact Or.inl q
      · exact Or.inr ⟨r1, r2, r3, fr _ _ (by omega) (by omega) r4⟩
  · exact cM_fr q6 (fun b b1 b2 => fI b (by omega) (by omega) (by omega) (by omega) (by omega) (by omega)) (fun _ _ _ => rfl)
/-- the rows that add writes in the reference -/
def Xad (X : gX) (A : zA) (key val : Int32) : gX := (((((((X.w 54 8 ((aV A 54).2.2.2.1 + 1)).w 47 (dc A) key).w 48 (dc A) val).w 49 (dc A) ((aV A 54).2.2.2.1 + 1)).w 78 (bf A) (nI (dc A))).w 79 (bf A) 1).w 46 23 (nI (bf A + 1))).w 46 5 (nI (dc A + 1))
theorem z_ad {X : gX} {A : zA} {k : Nat} {key val : Int32} (h : RM X A) (hm : Mid A k 0) (hd : dc A + 1 ≤ 4096) : RM (Xad X A key val) (aAd A key val) ∧ frM X (Xad X A key val) ∧ (Xad X A key val).I 46 0 = X.I 46 0 ∧ ∀ (ρ : Type) (K : gX → Option ρ), gB (X.w 54 8 ((X.I 54 8) + 1)) (fun X14 => (if gIn (X14.I 46 5) 4096 then gB (X14.w 47 (gn (X14.I 46 5)) key) (fun X15 => (if gIn (X15.I 46 5) 4096 then gB (X15.w 48 (gn (X15.I 46 5)) val) (fun X16 => (if gIn (X16.I 46 5) 4096 then gB (X16.w 49 (gn (X16.I 46 5)) (X16.I 54 8)) (fun X17 => (if gIn (X17.I 46 23) 4096 then gB (X17.w 78 (gn (X17.I 46 23)) (X17.I 46 5)) (fun X18 => (if gIn (X18.I 46 23) 4096 then gB (X18.w 79 (gn (X18.I 46 23)) (vp_nar .boolean 1)) (fun X19 => gB (X19.w 46 23 ((X19.I 46 23) + 1)) (fun X20 => gB (X20.w 46 5 ((X20.I 46 5) + 1)) K)) else none)) else none)) else none)) else none)) else none)) = K (Xad X A key val) := by
  obtain ⟨d1, d2, d3, d4⟩ := ad_dc (key := key) (val := val) hm.2.1
  have p1 := hm.2.1.1.1.1
  have p2 := hm.2.1.1.2.1.1
  have p2' := hm.2.1.1.2.1.2
  have hV := RM_V h 54 rfl
  have e5 : X.I 46 5 = nI (dc A) := (RM_S h 5 (by decide) (by decide) (by decide)).trans p1
  have e23 : X.I 46 23 = nI (bf A) := (RM_S h 23 (by decide) (by decide) (by decide)).trans p2
  have j1 : gIn (nI (dc A)) 4096 = true := gIn_nI (by omega) (by omega)
  have j2 : gIn (nI (bf A)) 4096 = true := gIn_nI (by omega) (by omega)
  have fI : ∀ b, b ≠ 46 → b ≠ 47 → b ≠ 48 → b ≠ 49 → b ≠ 54 → b ≠ 78 → b ≠ 79 → (Xad X A key val).I b = X.I b := fun b b1 b2 b3 b4 b5 b6 b7 => by
    unfold Xad
    rw [gX.w_ne b1, gX.w_ne b1, gX.w_ne b7, gX.w_ne b6, gX.w_ne b4, gX.w_ne b3, gX.w_ne b2, gX.w_ne b5]
  have f46 : ∀ j, j ≠ 5 → j ≠ 23 → (Xad X A key val).I 46 j = X.I 46 j := fun j k1 k2 => by
    unfold Xad
    rw [w_oth (Or.inr k1), w_oth (Or.inr k2), gX.w_ne (by decide), gX.w_ne (by decide), gX.w_ne (by decide), gX.w_ne (by decide), gX.w_ne (by decide), gX.w_ne (by decide)]
  have f54 : ∀ j, j ≠ 8 → (Xad X A key val).I 54 j = X.I 54 j := fun j k1 => by
    unfold Xad
    rw [gX.w_ne (by decide), gX.w_ne (by decide), gX.w_ne (by decide), gX.w_ne (by decide), gX.w_ne (by decide), gX.w_ne (by decide), gX.w_ne (by decide), w_oth (Or.inr k1)]
  have f548 : (Xad X A key val).I 54 8 = (aV A 54).2.2.2.1 + 1 := by
    unfold Xad
    rw [gX.w_ne (by decide), gX.w_ne (by decide), gX.w_ne (by decide), gX.w_ne (by decide), gX.w_ne (by decide), gX.w_ne (by decide), gX.w_ne (by decide), w_same rfl]
  have eV : ∀ n, n ≠ 54 → aV (aAd A key val) n = aV A n := fun n hn => if_neg hn
  obtain ⟨⟨w1, -⟩, -⟩ := hm.2.2.2.2.1
  have old : ∀ d, d ∈ fl (aD A) (aV A 54).1 → (adV A).2.1 d = (aV A 54).2.1 d := fun d hd' => by
    have := (VB_of w1 (show dc A - bf A ≤ 4096 by omega)).2.2 d hd'
    exact if_neg (by omega)
  refine ⟨⟨fun j k1 k2 k3 => ?_, ⟨?_, ?_, ?_⟩, mT_fr h.2.2.1 (f46 10 (by decide) (by decide)) (fI 50 (by decide) (by decide) (by decide) (by decide) (by decide) (by decide) (by decide)) (fI 51 (by decide) (by decide) (by decide) (by decide) (by decide) (by decide) (by decide)) (fI 52 (by decide) (by decide) (by decide) (by decide) (by decide) (by decide) (by decide)), fun n hn => ?_, fun i hi => ?_, mM_fr (A := aAd A key val) h.2.2.2.2.2 (fun b b1 b2 => fI b (by omega) (by omega) (by omega) (by omega) (by omega) (by omega) (by omega)) (fun b b1 b2 => fI b (by omega) (by omega) (by omega) (by omega) (by omega) (by omega) (by omega)) rfl⟩, ?_, f46 0 (by decide) (by decide), fun ρ K => ?_⟩
  · by_cases c5 : j = 5
    · rw [c5, d3]
      unfold Xad
      exact w_same rfl
    · by_cases c23 : j = 23
      · rw [c23, d4]
        unfold Xad
        rw [w_oth (Or.inr (by decide))]
        exact w_same rfl
      · rw [f46 j c5 c23, ad_S c5 c23]
        exact h.1 j k1 k2 k3
  · show _ = upd (aE A 0) (dc A) key
    unfold Xad
    rw [gX.w_ne (by decide), gX.w_ne (by decide), gX.w_ne (by decide), gX.w_ne (by decide), gX.w_ne (by decide), gX.w_ne (by decide), gX.w_self, gX.w_ne (by decide), h.2.1.1]
  · show _ = upd (aE A 1) (dc A) val
    unfold Xad
    rw [gX.w_ne (by decide), gX.w_ne (by decide), gX.w_ne (by decide), gX.w_ne (by decide), gX.w_ne (by decide), gX.w_self, gX.w_ne (by decide), gX.w_ne (by decide), h.2.1.2.1]
  · show _ = upd (aE A 2) (dc A) ((aV A 54).2.2.2.1 + 1)
    unfold Xad
    rw [gX.w_ne (by decide), gX.w_ne (by decide), gX.w_ne (by decide), gX.w_ne (by decide), gX.w_self, gX.w_ne (by decide), gX.w_ne (by decide), gX.w_ne (by decide), h.2.1.2.2]
  · by_cases c : n = 54
    · subst c
      show VR (Xad X A key val).I 54 (aD A) (aL A) (adV A)
      have fr : ∀ b, 55 ≤ b → b ≤ 61 → (Xad X A key val).I b = X.I b := fun b b1 b2 => fI b (by omega) (by omega) (by omega) (by omega) (by omega) (by omega) (by omega)
      refine ⟨⟨?_, ?_, ?_, ?_⟩, ⟨?_, ?_, ?_⟩, fun t ht => ?_, ?_, ?_, ?_⟩
      · rw [f54 7 (by decide)]; exact hV.1.1
      · exact f548
      · rw [f54 9 (by decide)]; exact hV.1.2.2.1
      · rw [f54 10 (by decide)]; exact hV.1.2.2.2
      · rw [fr (54 + 1) (by omega) (by omega)]; exact hV.2.1.1
      · rw [fr (54 + 2) (by omega) (by omega)]; exact hV.2.1.2.1
      · rw [fr (54 + 4) (by omega) (by omega)]; exact hV.2.1.2.2
      · rw [fr (54 + 3) (by omega) (by omega)]; exact hV.2.2.1 t ht
      · rw [fr (54 + 5) (by omega) (by omega)]; exact hV.2.2.2.1
      · rw [fr (54 + 6) (by omega) (by omega)]
        refine hl_mk (fun t d hd' => ?_)
        rw [hl_m (g := fun d => b2i ((aV A 54).2.1 d)) hV.2.2.2.2.1 hd']
        show _ = b2i ((adV A).2.1 d)
        rw [old d (vs_mem hd')]
      · rw [fr (54 + 7) (by omega) (by omega)]; exact hV.2.2.2.2.2
    · have hr : n = 62 ∨ n = 70 ∨ 84 ≤ n := by
        unfold gVer at hn
        simp only [decide_eq_true_eq, List.mem_cons, List.mem_nil_iff, or_false] at hn
        omega
      rw [eV n c]
      exact VR_fr (h.2.2.2.1 n hn) (fun b b1 b2 => fI b (by omega) (by omega) (by omega) (by omega) (by omega) (by omega) (by omega))
  · rw [d2] at hi
    rw [d1, d2, show dc A + 1 - (bf A + 1) = dc A - bf A by omega]
    by_cases c : i = bf A
    · subst c
      refine ⟨?_, ?_⟩
      · unfold Xad
        rw [gX.w_ne (by decide), gX.w_ne (by decide), gX.w_ne (by decide), w_same rfl, show dc A - bf A + bf A = dc A by omega]
      · unfold Xad
        rw [gX.w_ne (by decide), gX.w_ne (by decide), w_same rfl, show dc A - bf A + bf A = dc A by omega]
        show 1 = b2i (if dc A = dc A then true else _)
        rw [if_pos rfl]
        rfl
    · have q := h.2.2.2.2.1 i (by omega)
      refine ⟨?_, ?_⟩
      · unfold Xad
        rw [gX.w_ne (by decide), gX.w_ne (by decide), gX.w_ne (by decide), w_oth (Or.inr c), gX.w_ne (by decide), gX.w_ne (by decide), gX.w_ne (by decide), gX.w_ne (by decide)]
        exact q.1
      · unfold Xad
        rw [gX.w_ne (by decide), gX.w_ne (by decide), w_oth (Or.inr c), gX.w_ne (by decide), gX.w_ne (by decide), gX.w_ne (by decide), gX.w_ne (by decide), gX.w_ne (by decide), q.2]
        show _ = b2i (if dc A - bf A + i = dc A then true else (aV A 54).2.1 (dc A - bf A + i))
        rw [if_neg (by omega)]
  · unfold Xad
    exact (((((((frM.rf.w (by omega)).w (by omega)).w (by omega)).w (by omega)).w (by omega)).w (by omega)).w (by omega)).w (by omega)
  · have e548 : (X.w 54 8 ((aV A 54).2.2.2.1 + 1)).I 54 8 = (aV A 54).2.2.2.1 + 1 := w_same rfl
    simp only [gB_b, gX.w_ne (show (46 : Nat) ≠ 54 by decide), gX.w_ne (show (46 : Nat) ≠ 47 by decide), gX.w_ne (show (46 : Nat) ≠ 48 by decide), gX.w_ne (show (46 : Nat) ≠ 49 by decide), gX.w_ne (show (46 : Nat) ≠ 78 by decide), gX.w_ne (show (46 : Nat) ≠ 79 by decide), e5, e23, j1, j2, if_true, gn_nI (show dc A < 2 ^ 31 by omega), gn_nI (show bf A < 2 ^ 31 by omega), gX.w_ne (show (54 : Nat) ≠ 47 by decide), gX.w_ne (show (54 : Nat) ≠ 48 by decide), hV.1.2.1, nI_1, e548, show vp_nar .boolean 1 = 1 from rfl]
    rw [w_oth (Or.inr (show (5 : Nat) ≠ 23 by decide)), gX.w_ne (show (46 : Nat) ≠ 79 by decide), gX.w_ne (show (46 : Nat) ≠ 78 by decide), gX.w_ne (show (46 : Nat) ≠ 49 by decide), gX.w_ne (show (46 : Nat) ≠ 48 by decide), gX.w_ne (show (46 : Nat) ≠ 47 by decide), gX.w_ne (show (46 : Nat) ≠ 54 by decide), e5, nI_1]
    rfl
/-- the entries one by one -/
def adF (key val : Int32) : Nat → Nat → zA → Bool × zA
  | 0, _, A => (true, A)
  | n + 1, i, A => if nI (bf A + 1) < aS A 24 then adF key val n (i + 1) (aAd A (key + nI i) val) else (if (flR (aAd A (key + nI i) val)).1 = true then adF key val n (i + 1) (flR (aAd A (key + nI i) val)).2 else (false, (flR (aAd A (key + nI i) val)).2))
theorem adF_ok {key val : Int32} {k : Nat} (hk : k ≤ 600) : ∀ (n i : Nat) (A : zA), Mid A k 0 → dc A + n ≤ 4096 → wr A + n ≤ 10000 * k → ((adF key val n i A).1 = true → Mid (adF key val n i A).2 k 0) ∧ ((adF key val n i A).1 = false → Inv (adF key val n i A).2 k)
  | 0, _, A, h, _, _ => ⟨fun _ => h, fun q => absurd q (by simp [adF])⟩
  | n + 1, i, A, h, h1, h2 => by
    have hm := Mid_ad (key := key + nI i) (val := val) h (by omega)
    have hdc := (ad_dc (key := key + nI i) (val := val) h.2.1).1
    have hw : wr (aAd A (key + nI i) val) = wr A := congrArg gn (ad_S (by decide) (by decide))
    unfold adF
    by_cases c : nI (bf A + 1) < aS A 24
    · rw [if_pos c]
      exact adF_ok hk n (i + 1) _ hm (by omega) (by omega)
    · rw [if_neg c]
      obtain ⟨f1, f2⟩ := Mid_flR hm hk (by omega)
      by_cases c2 : (flR (aAd A (key + nI i) val)).1 = true
      · rw [if_pos c2]
        obtain ⟨g1, g2, g3⟩ := f1 c2
        have hd2 : dc (flR (aAd A (key + nI i) val)).2 = dc (aAd A (key + nI i) val) := by
          unfold flR
          cases hs : flS (aAd A (key + nI i) val) with
          | false => rw [if_neg (by simp)]; rfl
          | true =>
            rw [if_pos rfl]
            by_cases c0 : aS (aAd A (key + nI i) val) 13 = 0
            · rw [if_pos c0]; rfl
            · rw [if_neg c0]
              show gn (upd (upd (aS (aActd (aAd A (key + nI i) val))) 11 (aS (aActd (aAd A (key + nI i) val)) 11 + 1)) 23 0 5) = _
              rw [upd_at, if_neg (by decide), upd_at, if_neg (by decide), aActd_S (by decide) (by decide)]
        exact adF_ok hk n (i + 1) _ g1 (by omega) (by omega)
      · rw [if_neg c2]
        exact ⟨fun q => absurd q (by simp), fun _ => f2 (Bool.not_eq_true _ ▸ c2)⟩
theorem C_adLoop {X : gX} {A : zA} {nm : Nat → Nat} {k k' n : Nat} {key val : Int32} (h : RC X A nm k') (hk : k ≤ 600) (hk' : k' ≤ 600) (hm : Mid A k 0) (hd : dc A + n ≤ 4096) (hw : wr A + n ≤ 10000 * k) (hn : n ≤ 100) : ((adF key val n 0 A).1 = true ∧ ∃ Y nm', gI (fun s : gX × Int32 => f_Le_add_39 s.1 key val (nI n) s.2) gK (X, 0) = some (gR.i (aV (adF key val n 0 A).2 54).2.2.2.1, Y) ∧ RC Y (adF key val n 0 A).2 nm' k' ∧ frC X Y) ∨ ((adF key val n 0 A).1 = false ∧ ∃ Y nm', gI (fun s : gX × Int32 => f_Le_add_39 s.1 key val (nI n) s.2) gK (X, 0) = some (gR.t "java/lang/ArithmeticException", Y) ∧ RC Y (adF key val n 0 A).2 nm' k' ∧ frC X Y) := by
  have key9 := gI_wf (body := fun s : gX × Int32 => f_Le_add_39 s.1 key val (nI n) s.2) (fun s => ∃ Z B nm1 i, s = (Z, nI i) ∧ i ≤ n ∧ adF key val (n - i) i B = adF key val n 0 A ∧ RC Z B nm1 k' ∧ frC X Z ∧ Mid B k 0 ∧ dc B + (n - i) ≤ 4096 ∧ wr B + (n - i) ≤ 10000 * k) (fun r => ((adF key val n 0 A).1 = true ∧ ∃ Y nm', r = (gR.i (aV (adF key val n 0 A).2 54).2.2.2.1, Y) ∧ RC Y (adF key val n 0 A).2 nm' k' ∧ frC X Y) ∨ ((adF key val n 0 A).1 = false ∧ ∃ Y nm', r = (gR.t "java/lang/ArithmeticException", Y) ∧ RC Y (adF key val n 0 A).2 nm' k' ∧ frC X Y)) (fun s => n - gn s.2) (s0 := (X, 0)) (by show n - gn 0 ≤ 100000; omega) ⟨X, A, nm, 0, rfl, by omega, by rw [Nat.sub_zero], h, frC.rf, hm, by omega, by omega⟩ (fun s hI => by
    obtain ⟨Z, B, nm1, i, rfl, i1, i2, i3, i4, i5, i6, i7⟩ := hI
    show (∃ s', f_Le_add_39 Z key val (nI n) (nI i) = _ ∧ _) ∨ (∃ r, f_Le_add_39 Z key val (nI n) (nI i) = _ ∧ _)
    unfold f_Le_add_39 f_Le_add_69
    by_cases c : n ≤ i
    · right
      have e : n - i = 0 := by omega
      rw [e] at i2
      have i2' : (true, B) = adF key val n 0 A := i2
      rw [if_pos (nI_le c (by omega)), ((RC_W i3).1.1 i5.1).2.1, gLf_s]
      refine ⟨_, rfl, Or.inl ⟨by rw [← i2'], Z, nm1, ?_, ?_, i4⟩⟩
      · rw [← i2']
      · rw [← i2']; exact i3
    · obtain ⟨m, hmm⟩ : ∃ m, n - i = m + 1 := ⟨n - i - 1, by omega⟩
      rw [hmm] at i2
      obtain ⟨Y, y1, y2, y3⟩ := C_ad (key := key + nI i) (val := val) i3 i5 (by omega)
      have hm2 := Mid_ad (key := key + nI i) (val := val) i5 (by omega)
      have dd := ad_dc (key := key + nI i) (val := val) i5.2.1
      have hw2 : wr (aAd B (key + nI i) val) = wr B := congrArg gn (ad_S (by decide) (by decide))
      have hbuf : f_Le_buffered Y = some (gR.i (nI (bf B + 1)), Y) := by
        unfold f_Le_buffered
        rw [cS_5 y2.1, y2.2.1 hm2.1, dd.2.2.1, dd.2.2.2, pk_sub (by have := i5.2.1.1.2.1.2; omega), pk_sub (by omega), show dc B + 1 - (dc B + 1 - (bf B + 1)) = bf B + 1 by have := i5.2.1.1.2.1.2; omega]
      rw [if_neg (nI_ge (by omega) (by omega)), y1, gCv_v, hbuf, gCi_i, cS_24 y2.1, ad_S (by decide) (by decide), nI_1]
      have i2' : (if nI (bf B + 1) < aS B 24 then adF key val m (i + 1) (aAd B (key + nI i) val) else (if (flR (aAd B (key + nI i) val)).1 = true then adF key val m (i + 1) (flR (aAd B (key + nI i) val)).2 else (false, (flR (aAd B (key + nI i) val)).2))) = adF key val n 0 A := i2
      by_cases c1 : nI (bf B + 1) < aS B 24
      · left
        rw [if_pos c1] at i2' ⊢
        refine ⟨_, rfl, ⟨Y, aAd B (key + nI i) val, nm1, i + 1, rfl, by omega, by rw [show n - (i + 1) = m by omega]; exact i2', y2, i4.tr y3, hm2, by omega, by omega⟩, ?_⟩
        show n - gn (nI (i + 1)) < n - gn (nI i)
        rw [gn_nI (by omega), gn_nI (by omega)]
        omega
      · rw [if_neg c1] at i2' ⊢
        obtain ⟨f1, f2⟩ := Mid_flR hm2 hk (by omega)
        rcases C_flush y2 hm2 hk hk' with ⟨b, W, nm', w1, w2, w3⟩ | ⟨b, W, w1, w2, w3⟩
        · left
          rw [if_pos b] at i2'
          obtain ⟨g1, g2, g3⟩ := f1 b
          have hd2 : dc (flR (aAd B (key + nI i) val)).2 = dc (aAd B (key + nI i) val) := by
            unfold flR
            cases hs : flS (aAd B (key + nI i) val) with
            | false => rw [if_neg (by simp)]; rfl
            | true =>
              rw [if_pos rfl]
              by_cases c0 : aS (aAd B (key + nI i) val) 13 = 0
              · rw [if_pos c0]; rfl
              · rw [if_neg c0]
                show gn (upd (upd (aS (aActd (aAd B (key + nI i) val))) 11 (aS (aActd (aAd B (key + nI i) val)) 11 + 1)) 23 0 5) = _
                rw [upd_at, if_neg (by decide), upd_at, if_neg (by decide), aActd_S (by decide) (by decide)]
          rw [w1, gCvt_v]
          refine ⟨_, rfl, ⟨W, (flR (aAd B (key + nI i) val)).2, nm', i + 1, rfl, by omega, by rw [show n - (i + 1) = m by omega]; exact i2', w2, (i4.tr y3).tr w3, g1, by omega, by omega⟩, ?_⟩
          show n - gn (nI (i + 1)) < n - gn (nI i)
          rw [gn_nI (by omega), gn_nI (by omega)]
          omega
        · right
          rw [if_neg (by rw [b]; simp)] at i2'
          rw [w1, gCvt_t, gLf_s]
          refine ⟨_, rfl, Or.inr ⟨by rw [← i2'], W, nm1, rfl, ?_, (i4.tr y3).tr w3⟩⟩
          rw [← i2']
          exact w2)
  obtain ⟨r, k1, k2⟩ := key9
  rcases k2 with ⟨b, Y, nm', rfl, q⟩ | ⟨b, Y, nm', rfl, q⟩
  · exact Or.inl ⟨b, Y, nm', k1, q⟩
  · exact Or.inr ⟨b, Y, nm', k1, q⟩
theorem z_adLoop {X : gX} {A : zA} {k n : Nat} {key val : Int32} (h : RM X A) (h0 : X.I 46 0 = 0) (hk : k ≤ 600) (hm : Mid A k 0) (hd : dc A + n ≤ 4096) (hw : wr A + n ≤ 10000 * k) (hn : n ≤ 100) : ((adF key val n 0 A).1 = true ∧ ∃ U, gI (fun s : gX × Int32 => f_Mo_add_81 s.1 key val (nI n) s.2) gK (X, 0) = some (gR.i (aV (adF key val n 0 A).2 54).2.2.2.1, Xd U 0) ∧ RM (Xd U 0) (adF key val n 0 A).2 ∧ frM X (Xd U 0)) ∨ ((adF key val n 0 A).1 = false ∧ ∃ U, gI (fun s : gX × Int32 => f_Mo_add_81 s.1 key val (nI n) s.2) gK (X, 0) = some (gR.i 0, Xd U 4) ∧ RM (Xd U 4) (adF key val n 0 A).2 ∧ frM X (Xd U 4)) := by
  have key9 := gI_wf (body := fun s : gX × Int32 => f_Mo_add_81 s.1 key val (nI n) s.2) (fun s => ∃ Z B i, s = (Z, nI i) ∧ i ≤ n ∧ adF key val (n - i) i B = adF key val n 0 A ∧ RM Z B ∧ frM X Z ∧ Z.I 46 0 = 0 ∧ Mid B k 0 ∧ dc B + (n - i) ≤ 4096 ∧ wr B + (n - i) ≤ 10000 * k) (fun r => ((adF key val n 0 A).1 = true ∧ ∃ U, r = (gR.i (aV (adF key val n 0 A).2 54).2.2.2.1, Xd U 0) ∧ RM (Xd U 0) (adF key val n 0 A).2 ∧ frM X (Xd U 0)) ∨ ((adF key val n 0 A).1 = false ∧ ∃ U, r = (gR.i 0, Xd U 4) ∧ RM (Xd U 4) (adF key val n 0 A).2 ∧ frM X (Xd U 4))) (fun s => n - gn s.2) (s0 := (X, 0)) (by show n - gn 0 ≤ 100000; omega) ⟨X, A, 0, rfl, by omega, by rw [Nat.sub_zero], h, frM.rf, h0, hm, by omega, by omega⟩ (fun s hI => by
    obtain ⟨Z, B, i, rfl, i1, i2, i3, i4, i40, i5, i6, i7⟩ := hI
    show (∃ s', f_Mo_add_81 Z key val (nI n) (nI i) = _ ∧ _) ∨ (∃ r, f_Mo_add_81 Z key val (nI n) (nI i) = _ ∧ _)
    unfold f_Mo_add_81 f_Mo_add_209
    by_cases c : n ≤ i
    · right
      have e : n - i = 0 := by omega
      rw [e] at i2
      have i2' : (true, B) = adF key val n 0 A := i2
      obtain ⟨U, u1, u2, u3⟩ := z_fin (v := Z.I 54 8) (v' := Z.I 54 8) (L := 1256) (p := 0) i3 (Mid_inv i5) (fun W hW => z_done_1256_0 (hW.trans i40))
      rw [if_pos (nI_le c (by omega)), u1, gCi_i, gLf_s, (RM_V i3 54 rfl).1.2.1]
      refine ⟨_, rfl, Or.inl ⟨by rw [← i2'], U, ?_, ?_, i4.tr u3⟩⟩
      · rw [← i2']
      · rw [← i2']; exact u2
    · obtain ⟨m, hmm⟩ : ∃ m, n - i = m + 1 := ⟨n - i - 1, by omega⟩
      rw [hmm] at i2
      obtain ⟨y2, y3, y4, y5⟩ := z_ad (key := key + nI i) (val := val) i3 i5 (by omega)
      have hm2 := Mid_ad (key := key + nI i) (val := val) i5 (by omega)
      have dd := ad_dc (key := key + nI i) (val := val) i5.2.1
      have hw2 : wr (aAd B (key + nI i) val) = wr B := congrArg gn (ad_S (by decide) (by decide))
      rw [if_neg (nI_ge (by omega) (by omega)), y5, RM_S y2 23 (by decide) (by decide) (by decide), dd.2.2.2, RM_S y2 24 (by decide) (by decide) (by decide), ad_S (by decide) (by decide), nI_1]
      have i2' : (if nI (bf B + 1) < aS B 24 then adF key val m (i + 1) (aAd B (key + nI i) val) else (if (flR (aAd B (key + nI i) val)).1 = true then adF key val m (i + 1) (flR (aAd B (key + nI i) val)).2 else (false, (flR (aAd B (key + nI i) val)).2))) = adF key val n 0 A := i2
      by_cases c1 : nI (bf B + 1) < aS B 24
      · left
        rw [if_pos c1] at i2' ⊢
        refine ⟨_, rfl, ⟨_, aAd B (key + nI i) val, i + 1, rfl, by omega, by rw [show n - (i + 1) = m by omega]; exact i2', y2, i4.tr y3, y4.trans i40, hm2, by omega, by omega⟩, ?_⟩
        show n - gn (nI (i + 1)) < n - gn (nI i)
        rw [gn_nI (by omega), gn_nI (by omega)]
        omega
      · rw [if_neg c1] at i2' ⊢
        obtain ⟨f1, f2⟩ := Mid_flR hm2 hk (by omega)
        rcases z_flush y2 hm2 hk with ⟨b, W, w1, w2, w3, w4⟩ | ⟨b, W, w1, w2, w3, w4⟩
        · left
          rw [if_pos b] at i2'
          obtain ⟨g1, g2, g3⟩ := f1 b
          have hd2 : dc (flR (aAd B (key + nI i) val)).2 = dc (aAd B (key + nI i) val) := by
            unfold flR
            cases hs : flS (aAd B (key + nI i) val) with
            | false => rw [if_neg (by simp)]; rfl
            | true =>
              rw [if_pos rfl]
              by_cases c0 : aS (aAd B (key + nI i) val) 13 = 0
              · rw [if_pos c0]; rfl
              · rw [if_neg c0]
                show gn (upd (upd (aS (aActd (aAd B (key + nI i) val))) 11 (aS (aActd (aAd B (key + nI i) val)) 11 + 1)) 23 0 5) = _
                rw [upd_at, if_neg (by decide), upd_at, if_neg (by decide), aActd_S (by decide) (by decide)]
          rw [w1, gCi_i, if_neg (by decide)]
          refine ⟨_, rfl, ⟨W, (flR (aAd B (key + nI i) val)).2, i + 1, rfl, by omega, by rw [show n - (i + 1) = m by omega]; exact i2', w2, (i4.tr y3).tr w3, w4.trans (y4.trans i40), g1, by omega, by omega⟩, ?_⟩
          show n - gn (nI (i + 1)) < n - gn (nI i)
          rw [gn_nI (by omega), gn_nI (by omega)]
          omega
        · right
          rw [if_neg (by rw [b]; simp)] at i2'
          obtain ⟨U, u1, u2, u3⟩ := z_fin (v := 0) (v' := 0) (L := 1256) (p := 4) w2 (f2 b) (fun V hV => z_done_1256_6 (hV.trans w4))
          rw [w1, gCi_i, if_pos rfl, u1, gCi_i, gLf_s]
          refine ⟨_, rfl, Or.inr ⟨by rw [← i2'], U, rfl, ?_, ((i4.tr y3).tr w3).tr u3⟩⟩
          rw [← i2']
          exact u2)
  obtain ⟨r, k1, k2⟩ := key9
  rcases k2 with ⟨b, U, rfl, q⟩ | ⟨b, U, rfl, q⟩
  · exact Or.inl ⟨b, U, k1, q⟩
  · exact Or.inr ⟨b, U, k1, q⟩
theorem flR_S {A : zA} {j : Nat} (h : (flR A).1 = true) (h1 : j ≠ 11) (h2 : j ≠ 12) (h3 : j ≠ 13) (h4 : j ≠ 23) : aS (flR A).2 j = aS A j := by
  unfold flR at h ⊢
  by_cases c : flS A = true
  · rw [if_pos c] at h ⊢
    by_cases c2 : aS A 13 = 0
    · rw [if_pos c2] at h
      cases h
    · rw [if_neg c2]
      show upd (upd (aS (aActd A)) 11 (aS (aActd A) 11 + 1)) 23 0 j = _
      rw [upd_at, if_neg h4, upd_at, if_neg h1]
      exact aActd_S h2 h3
  · rw [if_neg c]
    show upd (aS A) 23 0 j = _
    rw [upd_at, if_neg h4]
theorem KK_ad {A : zA} {key val : Int32} (h : KK A) : KK (aAd A key val) := KK_sub (B := aAd A key val) h (fun q => by rw [← ad_S (A := A) (key := key) (val := val) (j := 18) (by decide) (by decide)]; exact q) (ad_S (by decide) (by decide)) (ad_S (by decide) (by decide)) rfl rfl (fun _ q => q) (fun x hx => ⟨x, hx, rfl, rfl⟩) rfl
theorem KK_adF {key val : Int32} {k : Nat} (hk : k ≤ 600) : ∀ (n i : Nat) (A : zA), Mid A k 0 → dc A + n ≤ 4096 → wr A + n ≤ 10000 * k → KK A → KK (adF key val n i A).2
  | 0, _, A, _, _, _, h => h
  | n + 1, i, A, h, h1, h2, hK => by
    have hm := Mid_ad (key := key + nI i) (val := val) h (by omega)
    have hdc := (ad_dc (key := key + nI i) (val := val) h.2.1).1
    have hw : wr (aAd A (key + nI i) val) = wr A := congrArg gn (ad_S (by decide) (by decide))
    have hKa := KK_ad (key := key + nI i) (val := val) hK
    unfold adF
    by_cases c : nI (bf A + 1) < aS A 24
    · rw [if_pos c]
      exact KK_adF hk n (i + 1) _ hm (by omega) (by omega) hKa
    · rw [if_neg c]
      obtain ⟨f1, f2⟩ := Mid_flR hm hk (by omega)
      have hKf := KK_flR hm hKa
      by_cases c2 : (flR (aAd A (key + nI i) val)).1 = true
      · rw [if_pos c2]
        obtain ⟨g1, g2, g3⟩ := f1 c2
        have hd2 : dc (flR (aAd A (key + nI i) val)).2 = dc (aAd A (key + nI i) val) := congrArg gn (flR_S c2 (by decide) (by decide) (by decide) (by decide))
        exact KK_adF hk n (i + 1) _ g1 (by omega) (by omega) hKf
      · rw [if_neg c2]
        exact hKf
theorem L_add {X : gX} {k : Nat} {a b n : Int32} (h : JJ X k) (hk : k < 600) : LI (f_Lw_add X a b n) (fun Y => f_Mo_add Y a b n) k := by
  obtain ⟨A, nm, hM, hC, hI, h0, hK⟩ := h
  have lim := RC_lim hC (by omega)
  have hI1 := Inv_mono hI (Nat.le_succ k)
  by_cases c : n < 1 ∨ ¬ n ≤ 100
  · refine LI_ref (p := 1) (e := 1) (v := 0) (by omega) hM hC hI h0 hK ?_ (fun Y hY hY0 => ?_)
    · unfold f_Lw_add f_Le_add
      rw [C_rangeT c, gCvt_t, gCit_t, if_pos rfl, if_pos lim]
      rfl
    · have : f_Mo_add Y a b n = f_Mo_add_12 Y a b n := by
        unfold f_Mo_add
        by_cases c1 : n < 1
        · rw [if_pos c1]
        · rw [if_neg c1, if_neg (c.elim (fun q => absurd q c1) id)]
      show f_Mo_add Y a b n = _
      rw [this]
      unfold f_Mo_add_12 f_Mo_add_17 f_Mo_add_69
      rw [s_wrong1 hY0 (by decide), gCi_i, if_neg (by decide), z_done_1256_1 (w_same rfl), gCi_i]
  · have c1 : ¬ n < 1 := fun q => c (Or.inl q)
    have c2 : n ≤ 100 := Classical.not_not.mp (fun q => c (Or.inr q))
    obtain ⟨m, hm1, rfl⟩ := nI_of2 (M := 100) (n := 100) (by decide) (fun q => c1 (Int32.lt_trans q (by decide))) c2
    have h17 : ∀ Y, Y.I 46 0 = 0 → f_Mo_add Y a b (nI m) = (if (Y.I 46 18) = (0 : Int32) then f_Mo_add_37 Y a b (nI m) 1 else f_Mo_add_37 Y a b (nI m) 0) := fun Y hY0 => by
      unfold f_Mo_add f_Mo_add_17
      rw [if_neg c1, if_pos c2, s_wrong0 hY0, gCi_i, if_pos rfl]
    by_cases o : aS A 18 = 0
    · refine LI_ref (p := 2) (e := 2) (v := 0) (by omega) hM hC hI h0 hK ?_ (fun Y hY hY0 => ?_)
      · unfold f_Lw_add f_Le_add f_Le_requireWriter
        rw [C_rangeV c1 c2, gCvt_v, cS_18 hC.1, if_pos o, gCvt_t, gCit_t, if_neg (by decide), if_pos rfl, if_pos lim]
        rfl
      · show f_Mo_add Y a b (nI m) = _
        rw [h17 Y hY0, RM_S hY 18 (by decide) (by decide) (by decide), if_pos o]
        unfold f_Mo_add_37 f_Mo_add_69
        rw [s_wrong1 hY0 (by decide), gCi_i, if_neg (by decide), z_done_1256_2 (w_same rfl), gCi_i]
    · have p1 := hI.1.1.1.1
      have h37 : ∀ Y, RM Y A → Y.I 46 0 = 0 → f_Mo_add Y a b (nI m) = (if nI (dc A + m) ≤ (4096 : Int32) then f_Mo_add_62 Y a b (nI m) 0 else f_Mo_add_62 Y a b (nI m) 1) := fun Y hY hY0 => by
        rw [h17 Y hY0, RM_S hY 18 (by decide) (by decide) (by decide), if_neg o]
        unfold f_Mo_add_37
        rw [s_wrong0 hY0, gCi_i, if_pos rfl, RM_S hY 5 (by decide) (by decide) (by decide), p1, nI_add]
      by_cases d : dc A + m ≤ 4096
      · have d' : nI (dc A + m) ≤ (4096 : Int32) := nI_le (b := 4096) d (by omega)
        have hmid := Mid_of hI1 o
        have hw := hI.1.1.2.2.2
        have hok := adF_ok (key := a) (val := b) (k := k + 1) (by omega) m 0 A hmid d (by omega)
        rcases C_adLoop (key := a) (val := b) (n := m) (k := k + 1) hC (by omega) (by omega) hmid d (by omega) hm1 with ⟨bb, Y, nm', y1, y2, y3⟩ | ⟨bb, Y, nm', y1, y2, y3⟩
        · have hMY : RM (Y.w 116 0 (aV (adF a b m 0 A).2 54).2.2.2.1) A := RM_frC hM (y3.w (by omega))
          have e0 : (Y.w 116 0 (aV (adF a b m 0 A).2 54).2.2.2.1).I 46 0 = 0 := by rw [gX.w_ne (by decide), y3.1 46 (by omega)]; exact h0
          rcases z_adLoop (key := a) (val := b) (n := m) (k := k + 1) hMY e0 (by omega) hmid d (by omega) hm1 with ⟨-, U, u1, u2, u3⟩ | ⟨b', -⟩
          · refine LI_ok (X := X) (Y := X) (Y0 := Y) ?_ y2 (Z := U) ?_ u2 u3 (Mid_inv (hok.1 bb)) (KK_adF (k := k + 1) (by omega) m 0 A hmid d (by omega) hK)
            · unfold f_Lw_add f_Le_add f_Le_requireWriter
              rw [C_rangeV c1 c2, gCvt_v, cS_18 hC.1, if_neg o, gCvt_v, cS_5 hC.1, p1, nI_add, if_pos d', y1, gCit_i, gB_b]
            · show f_Mo_add _ a b (nI m) = _
              rw [h37 _ hMY e0, if_pos d']
              unfold f_Mo_add_62
              rw [s_wrong0 e0, gCi_i, if_pos rfl, u1]
          · rw [bb] at b'
            cases b'
        · have limY := RC_lim y2 (by omega)
          have hMY : RM Y.ex A := RM_frC hM y3.ex
          have e0 : Y.ex.I 46 0 = 0 := by show Y.I 46 0 = 0; rw [y3.1 46 (by omega)]; exact h0
          rcases z_adLoop (key := a) (val := b) (n := m) (k := k + 1) hMY e0 (by omega) hmid d (by omega) hm1 with ⟨b', -⟩ | ⟨-, U, u1, u2, u3⟩
          · rw [bb] at b'
            cases b'
          · refine LI_no (X := X) (p := 4) (by omega) (Y0 := Y) ?_ y2 (Z := U) (v := 0) ?_ u2 u3 (hok.2 bb) (KK_adF (k := k + 1) (by omega) m 0 A hmid d (by omega) hK)
            · unfold f_Lw_add f_Le_add f_Le_requireWriter
              rw [C_rangeV c1 c2, gCvt_v, cS_18 hC.1, if_neg o, gCvt_v, cS_5 hC.1, p1, nI_add, if_pos d', y1, gCit_t, if_neg (by decide), if_neg (by decide), if_neg (by decide), if_pos rfl, if_pos limY]
              rfl
            · show f_Mo_add _ a b (nI m) = _
              rw [h37 _ hMY e0, if_pos d']
              unfold f_Mo_add_62
              rw [s_wrong0 e0, gCi_i, if_pos rfl, u1]
      · have hd4 : dc A ≤ 4096 := hI.1.1.1.2
        have d' : ¬ nI (dc A + m) ≤ (4096 : Int32) := nI_ge (a := 4096) (b := dc A + m) (by omega) (by omega)
        refine LI_ref (p := 3) (e := 5) (v := 0) (by omega) hM hC hI h0 hK ?_ (fun Y hY hY0 => ?_)
        · unfold f_Lw_add f_Le_add f_Le_requireWriter
          rw [C_rangeV c1 c2, gCvt_v, cS_18 hC.1, if_neg o, gCvt_v, cS_5 hC.1, p1, nI_add, if_neg d', gCit_t, if_neg (by decide), if_neg (by decide), if_pos rfl, if_pos lim]
          rfl
        · show f_Mo_add Y a b (nI m) = _
          rw [h37 Y hY hY0, if_neg d']
          unfold f_Mo_add_62 f_Mo_add_69
          rw [s_wrong1 hY0 (by decide), gCi_i, if_neg (by decide), z_done_1256_5 (w_same rfl), gCi_i]
