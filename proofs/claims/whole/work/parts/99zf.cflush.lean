/-! THE PURE SIDE: a new file in the whole state of the class; a flush -/
/-- all numbers in use are below the next one -/
def NW (A : zA) : Prop := (∀ n, gVer n = true → (n = 54 → ¬ aS A 18 = 0) → ∀ x, x ∈ (aV A n).1 → x.1 < wr A ∧ ∀ k, x.2.1 = some k → k < wr A) ∧ (¬ aS A 20 ≤ 0 → (aV A 62).2.2.1 < wr A) ∧ (¬ aS A 19 = 0 → (aV A 70).2.2.1 < wr A) ∧ ∀ m, m ∈ aM A → m.2.1 < wr A
theorem C_new {X : gX} {A : zA} {nm : Nat → Nat} {k tl : Nat} (D : List Nat) (L : Nat → Bool) (h : RC X A nm k) (hN : NW A) (hf : ∀ f, f ∈ aT A → f.1 < wr A) (hw : aS A 11 = nI (wr A)) (hl : (aT A).length < 59000) (hk : k ≤ 600) : ∃ Y q, f_Di_newFile X (nI tl) = some (gR.a (some q), Y) ∧ gFile Y.N q = true ∧ RC Y (aNew A (hU (aH A) (wr A) D L tl 0 0)) (nmu nm (wr A) q) k ∧ frC X Y ∧ (∀ a, a < 5 → Y.I a = X.I a) ∧ (∀ a, 8 ≤ a → a < 46 → Y.I a = X.I a) ∧ (∀ a, a < 46 → Y.G a = X.G a) := by
  obtain ⟨q1, q2, q3, q4, q5, q6, q7⟩ := h
  obtain ⟨Y, q, y1, y2, y3, ⟨y4, y5, y6, y7⟩, y8, y9⟩ := C_newFile (tl := tl) D L q4 (by rw [cS_11 q1]; exact hw) hf hl q7 hk
  have hql := gFile.lo y2
  have hI : ∀ a, a < 46 → a ≠ 5 → a ≠ 6 → a ≠ 7 → Y.I a = X.I a := fun a a1 a2 a3 a4 => y4 a (by omega) a2 a3 a4
  have hG : ∀ a, a < 46 → Y.G a = X.G a := fun a a1 => y6 a (by omega) (by omega)
  have hnm : ∀ j, j < wr A → nmu nm (wr A) q j = nm j := fun j hj => nmu_o (by omega)
  refine ⟨Y, q, y1, y2, ⟨?_, ?_, ?_, y3, ?_, ?_, y9⟩, ⟨fun a ha => y4 a (by omega) (by omega) (by omega) (by omega), y6 121 (by omega) (by omega)⟩, fun a ha => hI a (by omega) (by omega) (by omega) (by omega), fun a a1 a2 => hI a a2 (by omega) (by omega) (by omega), hG⟩
  · intro p hp
    show _ = upd (aS A) 11 (aS A 11 + 1) p.2.2
    rcases cTab_ap p hp (5, 2, 11) (by decide) with c | ⟨c1, c2⟩
    · rw [c]
      show Y.I 5 2 = upd (aS A) 11 (aS A 11 + 1) 11
      rw [upd_at, if_pos rfl, hw, nI_1]
      exact y8
    · rw [upd_at, if_neg c2]
      have hix := cTab_ix p hp
      by_cases c5 : p.1 = 5
      · have c6 : p.2.1 ≠ 2 := by
          rcases c1 with c1 | c1
          · exact absurd c5 c1
          · exact c1
        rw [c5, y5 _ c6, ← c5]
        exact q1 p hp
      · rw [hI p.1 (by omega) c5 (by omega) (by omega)]
        exact q1 p hp
  · intro p
    rw [hI 0 (by omega) (by omega) (by omega) (by omega)]
    exact q2 p
  · unfold cE at q3 ⊢
    rw [hI 2 (by omega) (by omega) (by omega) (by omega), hI 3 (by omega) (by omega) (by omega) (by omega), hI 4 (by omega) (by omega) (by omega) (by omega)]
    exact q3
  · have h1 := cW_fr (S' := aS A) q5 (fun a a1 a2 => hI a a2 (by omega) (by omega) (by omega)) hG id id id
    obtain ⟨⟨g1, g2⟩, ⟨c, p, k1, k2, k3, k4, k5⟩, g4⟩ := h1
    refine ⟨⟨fun o => CV_nm (g1 o) (fun x hx => ?_), g2⟩, ⟨c, p, k1, k2, k3, fun o => ?_, fun o => ?_⟩, fun i hi => ?_⟩
    · obtain ⟨b1, b2⟩ := hN.1 54 rfl (fun _ => o) x hx
      exact ⟨hnm _ b1, fun j hj => hnm _ (b2 j hj)⟩
    · obtain ⟨k6, k7⟩ := k4 o
      refine ⟨CV_nm k6 (fun x hx => ?_), ?_⟩
      · obtain ⟨b1, b2⟩ := hN.1 62 rfl (fun e => absurd e (by decide)) x hx
        exact ⟨hnm _ b1, fun j hj => hnm _ (b2 j hj)⟩
      · show Y.G c 3 = some (nmu nm (wr A) q (aV A 62).2.2.1)
        rw [hnm _ (hN.2.1 o)]
        exact k7
    · obtain ⟨k6, k7⟩ := k5 o
      refine ⟨CV_nm k6 (fun x hx => ?_), ?_⟩
      · obtain ⟨b1, b2⟩ := hN.1 70 rfl (fun e => absurd e (by decide)) x hx
        exact ⟨hnm _ b1, fun j hj => hnm _ (b2 j hj)⟩
      · show Y.G p 3 = some (nmu nm (wr A) q (aV A 70).2.2.1)
        rw [hnm _ (hN.2.2.1 o)]
        exact k7
    · rcases g4 i hi with r | ⟨r1, r2, r3, r4⟩
      · exact Or.inl r
      · refine Or.inr ⟨r1, r2, r3, CV_nm r4 (fun x hx => ?_)⟩
        obtain ⟨b1, b2⟩ := hN.1 (84 + 8 * i) (gVer_r hi) (fun e => absurd e (by omega)) x hx
        exact ⟨hnm _ b1, fun j hj => hnm _ (b2 j hj)⟩
  · exact cM_nm (cM_fr q6 (fun a a1 a2 => hI a (by omega) (by omega) (by omega) (by omega)) (fun a a1 a2 => hG a (by omega))) (fun m hm => hnm _ (hN.2.2.2 m hm))
/-- start and end of the new file are written -/
theorem RC_st {X : gX} {A : zA} {H : zH} {nm : Nat → Nat} {k w tl a z : Nat} {D : List Nat} {L : Nat → Bool} (h : RC X (sH A (hU H w D L tl 0 0)) nm k) (hq : gFile X.N (nm w) = true) (hav' : hav (aT A) w) : RC ((X.w (nm w) 5 (nI a)).w (nm w) 6 (nI z)) (sH A (hU H w D L tl a z)) nm k := by
  obtain ⟨q1, q2, q3, q4, q5, q6, q7⟩ := h
  have hlo := gFile.lo hq
  have hI : ∀ c, c < 1000 → ((X.w (nm w) 5 (nI a)).w (nm w) 6 (nI z)).I c = X.I c := fun c hc => by rw [gX.w_ne (by omega), gX.w_ne (by omega)]
  refine ⟨cS_fr q1 (hI 0 (by omega)) (hI 1 (by omega)) (hI 5 (by omega)), fun o => by rw [hI 0 (by omega)]; exact q2 o, ?_, ?_, ?_, ?_, RR_fr q7 gEq.rf.w.w⟩
  · unfold cE at q3 ⊢
    rw [hI 2 (by omega), hI 3 (by omega), hI 4 (by omega)]
    exact q3
  · have q4' := q4
    obtain ⟨Z, h1, h2, h3, h4, h5⟩ := q4
    refine ⟨Z, ?_, h2, h3, h4, fun f hf => ?_⟩
    · rw [hI 6 (by omega), hI 7 (by omega)]; exact h1
    · have hc := h5 f hf
      by_cases c : f.1 = w
      · obtain ⟨u1, u2, u3, u4, u5⟩ := hU_w (H := H) (w := w) (D := D) (L := L) (tl := tl) (st := 0) (en := 0)
        obtain ⟨v1, v2, v3, v4, v5⟩ := hU_w (H := H) (w := w) (D := D) (L := L) (tl := tl) (st := a) (en := z)
        obtain ⟨c1, c2, c3, c4, c5, c6⟩ := hc
        unfold CF
        rw [c] at c1 c2 c3 c4 c5 c6 ⊢
        refine ⟨?_, ?_, ?_, ?_, ?_, ?_⟩
        · rw [w_oth (Or.inr (by decide)), w_oth (Or.inr (by decide))]; exact c1
        · rw [w_oth (Or.inr (by decide)), w_oth (Or.inr (by decide))]; exact c2
        · rw [w_oth (Or.inr (by decide)), w_oth (Or.inr (by decide))]; exact c3
        · rw [w_oth (Or.inr (by decide)), w_oth (Or.inr (by decide))]
          show _ = nI (gTl (hU H w D L tl a z) w)
          rw [v3, c4]
          show nI (gTl (hU H w D L tl 0 0) w) = _
          rw [u3]
        · rw [w_oth (Or.inr (by decide)), w_same rfl]
          show _ = nI (gSt (hU H w D L tl a z) w)
          rw [v4]
        · rw [w_same rfl]
          show _ = nI (gEn (hU H w D L tl a z) w)
          rw [v5]
      · obtain ⟨u1, u2, u3, u4, u5⟩ := hU_o (H := H) (w := w) (k := f.1) (D := D) (L := L) (tl := tl) (st := 0) (en := 0) c
        obtain ⟨v1, v2, v3, v4, v5⟩ := hU_o (H := H) (w := w) (k := f.1) (D := D) (L := L) (tl := tl) (st := a) (en := z) c
        have hne : nm f.1 ≠ nm w := fun e => c (cT_inj q4' ⟨f, hf, rfl⟩ hav' e)
        unfold CF at hc ⊢
        rw [gX.w_ne hne, gX.w_ne hne]
        show _ ∧ _ ∧ _ ∧ _ = nI (gTl (hU H w D L tl a z) f.1) ∧ _ = nI (gSt (hU H w D L tl a z) f.1) ∧ _ = nI (gEn (hU H w D L tl a z) f.1)
        rw [v3, v4, v5, ← u3, ← u4, ← u5]
        exact hc
  · exact cW_fr (S' := aS A) q5 (fun c _ a2 => hI c (by omega)) (fun _ _ => rfl) id id id
  · exact cM_fr q6 (fun c _ a2 => hI c (by omega)) (fun _ _ _ => rfl)
/-- the buffer has a live entry -/
def flS (A : zA) : Bool := decide (0 < cnt (aV A 54).2.1 (dc A - bf A) (bf A))
def aFl0 (A : zA) : zA := sS A (upd (aS A) 23 0)
def aFlH (A : zA) : zH := hU (aH A) (wr A) (List.range' (dc A - bf A) (bf A)) (fun _ => true) (bf A) (dc A - bf A) (dc A)
def aFl (A : zA) : zA := aFl0 (sV1 (aNew (aActd A) (aFlH A)) 54 ((aV A 54).1 ++ [(wr A, none, 0)], (aV A 54).2))
theorem aActd_S {A : zA} {j : Nat} (h1 : j ≠ 12) (h2 : j ≠ 13) : aS (aActd A) j = aS A j := by
  show upd (if aS A 13 ≤ 0 then aS A else upd (aS A) 13 (aS A 13 - 1)) 12 (aS A 12 + 1) j = _
  rw [upd_at, if_neg h1]
  by_cases c : aS A 13 ≤ 0
  · rw [if_pos c]
  · rw [if_neg c, upd_at, if_neg h2]
theorem NW_act {A : zA} (h : NW A) : NW (aActd A) := by
  have e : ∀ j, j ≠ 12 → j ≠ 13 → aS (aActd A) j = aS A j := fun j h1 h2 => aActd_S h1 h2
  have ew : wr (aActd A) = wr A := congrArg gn (e 11 (by decide) (by decide))
  unfold NW
  rw [e 18 (by decide) (by decide), e 19 (by decide) (by decide), e 20 (by decide) (by decide), ew]
  exact h
theorem C_append {X : gX} {nm : Nat → Nat} {V : zV} {x : Nat} (h : CV X 8 nm V) (hl : V.1.length < 4096) (hx : gFile X.N (nm x) = true) : ∃ Y, f_Vi_append X 8 (some (nm x)) = some (gR.v, Y) ∧ frV 8 X Y ∧ CV Y 8 nm (V.1 ++ [(x, none, 0)], V.2) := by
  unfold f_Vi_append
  rw [h.1, if_neg (n4096_ge hl), C_put (v := 8) (a := V.1.length) hl (show gOf X.N (some (nm x)) = true from hx) rfl, gCv_v, gB_b]
  have e8 : ((X.g (8 + 1) V.1.length (some (nm x))).g (8 + 2) V.1.length none).I = X.I := rfl
  rw [e8, h.1, nI_1]
  refine ⟨_, rfl, ((frV.rf.g (Or.inl rfl)).g (Or.inr rfl)).w (Or.inl rfl), ?_, ?_, fun i y hy => ?_, fun e he => ?_⟩
  · rw [w_same rfl]
    show _ = nI (V.1 ++ [(x, none, 0)]).length
    rw [List.length_append]
    rfl
  · rw [w_oth (Or.inr (by decide))]; exact h.2.1
  · rw [w_G]
    have hy' : (V.1 ++ [(x, none, 0)])[i]? = some y := hy
    by_cases c : i < V.1.length
    · rw [List.getElem?_append_left c] at hy'
      obtain ⟨a1, a2⟩ := h.2.2.1 i y hy'
      rw [g_oth (Or.inl (by decide)), g_oth (Or.inr (by omega)), g_oth (Or.inr (by omega)), g_oth (Or.inl (by decide))]
      exact ⟨a1, a2⟩
    · have hi := vs_lt hy'
      rw [List.length_append] at hi
      simp only [List.length_cons, List.length_nil] at hi
      have hi' : i = V.1.length := by omega
      rw [List.getElem?_append_right (by omega), hi', Nat.sub_self] at hy'
      have : (x, none, 0) = y := Option.some.inj hy'
      subst this
      rw [hi']
      exact ⟨by rw [g_oth (Or.inl (by decide)), g_same rfl], g_same rfl⟩
  · rw [w_oth (Or.inl (by decide))]; exact h.2.2.2 e he
/-- the buffer starts anew -/
theorem RC_fl0 {X : gX} {A : zA} {nm : Nat → Nat} {k : Nat} (h : RC X A nm k) : RC (X.w 0 9 (X.I 1 3)) (aFl0 A) nm k := by
  refine RC_sS (S' := upd (aS A) 23 0) h (cS_23 (cS_o h.1 (Or.inr ⟨rfl, rfl⟩))) (fun o => ?_) (fun a a1 a2 a3 => gX.w_ne (by omega)) (fun a j a1 a2 => by rw [gX.w_ne (by omega)]) (fun _ _ => rfl) gEq.rf.w id id id
  rw [w_same rfl, cS_5 h.1]
  show aS A 5 = aS A 5 - 0
  simp
/-- what a flush wants -/
def Fb (A : zA) (k : Nat) : Prop := (¬ aS A 18 = 0 ∧ TB (aT A) ∧ k ≤ 600) ∧ ((aS A 5 = nI (dc A) ∧ dc A ≤ 4096) ∧ (aS A 23 = nI (bf A) ∧ bf A ≤ dc A) ∧ aS A 11 = nI (wr A))
def Fw (A : zA) (k : Nat) : Prop := (¬ aS A 18 = 0 ∧ TB (aT A) ∧ k ≤ 600) ∧ ((aS A 5 = nI (dc A) ∧ dc A ≤ 4096) ∧ (aS A 23 = nI (bf A) ∧ bf A ≤ dc A) ∧ aS A 11 = nI (wr A)) ∧ NW A ∧ (∀ f, f ∈ aT A → f.1 < wr A) ∧ (aT A).length < 59000 ∧ (aV A 54).1.length < 4096
theorem C_flushLive {X : gX} {A : zA} {nm : Nat → Nat} {k : Nat} (h : RC X A nm k) (hw : Fb A k) : f_Vi_liveBetween X 8 (X.I 0 9) (X.I 1 3) = some (gR.i (nI (cnt (aV A 54).2.1 (dc A - bf A) (bf A))), X) := by
  obtain ⟨⟨o, hb, hk⟩, ⟨⟨h5, h5'⟩, ⟨h23, h23'⟩, h11⟩⟩ := hw
  have hCV := (RC_W h).1.1 o
  rw [h.2.1 o, cS_5 h.1, h5, h23, pk_sub h23', C_lb hCV (by omega) h5', show dc A - (dc A - bf A) = bf A by omega]
theorem C_flush0 {X : gX} {A : zA} {nm : Nat → Nat} {k : Nat} (h : RC X A nm k) (hw : Fb A k) (hs : flS A = false) : ∃ Y, f_Le_flushBuffer X = some (gR.v, Y) ∧ RC Y (aFl0 A) nm k ∧ frC X Y := by
  have h1 := C_flushLive h hw
  have h2 : cnt (aV A 54).2.1 (dc A - bf A) (bf A) = 0 := by
    unfold flS at hs
    rw [decide_eq_false_iff_not] at hs
    omega
  unfold f_Le_flushBuffer f_Le_flushBuffer_64
  rw [h1, gCi_i, h2, if_pos (by decide), gB_b]
  exact ⟨_, rfl, RC_fl0 h, frC.rf.w (by omega)⟩
theorem C_flushT {X : gX} {A : zA} {nm : Nat → Nat} {k : Nat} (h : RC X A nm k) (hw : Fb A k) (hs : flS A = true) (h0 : aS A 13 = 0) : ∃ Y, f_Le_flushBuffer X = some (gR.t "java/lang/ArithmeticException", Y) ∧ RC Y (aLose A) nm k ∧ frC X Y := by
  have h1 := C_flushLive h hw
  have h3 := cnt_le (p := (aV A 54).2.1) (s := dc A - bf A) (bf A)
  obtain ⟨⟨o, hb, hk⟩, ⟨⟨h5, h5'⟩, ⟨h23, h23'⟩, h11⟩⟩ := hw
  have h2 : 0 < cnt (aV A 54).2.1 (dc A - bf A) (bf A) := of_decide_eq_true hs
  obtain ⟨Y, y1, y2⟩ := C_act0 h hb hk h0
  unfold f_Le_flushBuffer
  rw [h1, gCi_i, if_neg (nI_nle h2 (by omega)), y1, gCvt_t]
  exact ⟨Y, rfl, y2⟩
theorem C_flush1 {X : gX} {A : zA} {nm : Nat → Nat} {k : Nat} (h : RC X A nm k) (hw : Fw A k) (hs : flS A = true) (h0 : ¬ aS A 13 = 0) : ∃ Y nm', f_Le_flushBuffer X = some (gR.v, Y) ∧ RC Y (aFl A) nm' k ∧ frC X Y := by
  have h1 := C_flushLive h ⟨hw.1, hw.2.1⟩
  have h3 := cnt_le (p := (aV A 54).2.1) (s := dc A - bf A) (bf A)
  obtain ⟨⟨o, hb, hk⟩, ⟨⟨h5, h5'⟩, ⟨h23, h23'⟩, h11⟩, hN, hf, hl, hl2⟩ := hw
  have h2 : 0 < cnt (aV A 54).2.1 (dc A - bf A) (bf A) := of_decide_eq_true hs
  have e : ∀ j, j ≠ 12 → j ≠ 13 → aS (aActd A) j = aS A j := fun j h1 h2 => aActd_S h1 h2
  have ew : wr (aActd A) = wr A := congrArg gn (e 11 (by decide) (by decide))
  obtain ⟨W, w1, w2, w3⟩ := C_act1 h h0
  have hbuf : f_Le_buffered W = some (gR.i (nI (bf A)), W) := by
    unfold f_Le_buffered
    rw [cS_5 w2.1, w2.2.1 (by rw [e 18 (by decide) (by decide)]; exact o), e 5 (by decide) (by decide), e 23 (by decide) (by decide), h5, h23, pk_sub h23', pk_sub (by omega), show dc A - (dc A - bf A) = bf A by omega]
  obtain ⟨Y, q, y1, y2, y3, y4, y5, y6, y7⟩ := C_new (tl := bf A) (List.range' (dc A - bf A) (bf A)) (fun _ => true) w2 (NW_act hN) (fun f hf' => by rw [ew]; exact hf f hf') (by rw [ew, e 11 (by decide) (by decide)]; exact h11) hl hk
  rw [ew] at y3
  have hYN : gFile Y.N (nmu nm (wr A) q (wr A)) = true := by rw [nmu_w]; exact y2
  have y9 := RC_st (a := dc A - bf A) (z := dc A) (A := aNew (aActd A) (hU (aH (aActd A)) (wr A) (List.range' (dc A - bf A) (bf A)) (fun _ => true) (bf A) 0 0)) (H := aH A) y3 hYN ⟨(gn (aS (aActd A) 11), false, false), List.mem_append.mpr (Or.inr (List.mem_singleton.mpr rfl)), ew⟩
  have e09 : Y.I 0 9 = nI (dc A - bf A) := by
    rw [y5 0 (by omega), w3.2.1 9 (by decide) (by decide), h.2.1 o, h5, h23, pk_sub h23']
  have e13 : Y.I 1 3 = nI (dc A) := by
    rw [y5 1 (by omega), w3.1 1 (by decide), cS_5 h.1, h5]
  have hql := gFile.lo y2
  rw [nmu_w] at y9
  have hCV := (RC_W y9).1.1 (show ¬ aS (aActd A) 18 = 0 by rw [e 18 (by decide) (by decide)]; exact o)
  obtain ⟨Z, z1, z2, z3⟩ := C_append (x := wr A) hCV hl2 (by rw [nmu_w]; exact y2)
  have z4 := RC_V54 y9 z2 (fun _ => z3)
  unfold f_Le_flushBuffer f_Le_flushBuffer_64
  rw [h1, gCi_i, if_neg (nI_nle h2 (by omega)), w1, gCvt_v, hbuf, gCi_i, y1, gCa_a, gM_s, if_pos y2, gB_b, gM_s, if_pos (show gFile (Y.w q 5 (Y.I 0 9)).N q = true from y2), gB_b, gX.w_ne (show 1 ≠ q by omega), e09, e13]
  rw [nmu_w] at z1
  rw [z1, gCv_v, gB_b]
  refine ⟨_, nmu nm (wr A) q, rfl, RC_fl0 z4, ((((w3.C.tr y4).w (by omega)).w (by omega)).tr (z2.C (by omega))).w (by omega)⟩
