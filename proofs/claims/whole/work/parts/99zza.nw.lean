/-! THE PURE SIDE: a new file beside; what prepare leaves -/
def aNw (A : zA) (D : List Nat) (L : Nat → Bool) (tl st en : Nat) : zA := aNew (aActd A) (hU (aH A) (wr A) D L tl st en)
def nwB (A B : zA) (D : List Nat) (L : Nat → Bool) (tl st en : Nat) : Prop := (∀ j, j ≠ 11 → j ≠ 12 → j ≠ 13 → aS B j = aS A j) ∧ aS B 11 = nI (wr A + 1) ∧ aH B = hU (aH A) (wr A) D L tl st en ∧ aV B = aV A ∧ aM B = aM A ∧ aT B = aT A ++ [(wr A, false, false)]
theorem nwB_of {A : zA} {D : List Nat} {L : Nat → Bool} {tl st en : Nat} (p3 : aS A 11 = nI (wr A)) : nwB A (aNw A D L tl st en) D L tl st en := by
  refine ⟨fun j j1 j2 j3 => ?_, ?_, rfl, rfl, rfl, ?_⟩
  · show upd (aS (aActd A)) 11 (aS (aActd A) 11 + 1) j = _
    rw [upd_at, if_neg j1]
    exact aActd_S j2 j3
  · show upd (aS (aActd A)) 11 (aS (aActd A) 11 + 1) 11 = _
    rw [upd_at, if_pos rfl, aActd_S (by decide) (by decide), p3, nI_1]
  · show aT A ++ [(gn (aS (aActd A) 11), false, false)] = _
    rw [aActd_S (by decide) (by decide)]
theorem nw_okE {E : List Nat} {A B : zA} {k i : Nat} {D : List Nat} {L : Nat → Bool} {tl st en : Nat} (h : MidE E A k i) (hB : nwB A B D L tl st en) (hw : wr A + 1 ≤ 10000 * k) (hk : k ≤ 600) : wr B = wr A + 1 ∧ dc B = dc A ∧ bf B = bf A ∧ J1 B k ∧ (TB (aT B) ∧ ∀ f, f ∈ aT B → f.1 < wr B) ∧ J3 B ∧ (WV B ∧ WK B ∧ WM B) ∧ J5 B ∧ ∀ f, f ∈ aT A → ndd B f.1 = true ∨ f.1 ∈ E := by
  obtain ⟨ho, h1, ⟨h2, h2', h2''⟩, h3, ⟨⟨a1, a1'⟩, a2, ⟨a3, a3', a3''⟩, a4⟩, h5, h6⟩ := h
  obtain ⟨⟨⟨p1, p1'⟩, ⟨p2, p2'⟩, ⟨p3, p3'⟩⟩, ⟨q1, q2, q3, q4⟩, r1, s1⟩ := h1
  obtain ⟨eS, e11, eH, eV, eM, eT⟩ := hB
  have ew : wr B = wr A + 1 := by
    show gn (aS B 11) = _
    rw [e11, gn_nI (by omega)]
  have ed : dc B = dc A := congrArg gn (eS 5 (by decide) (by decide) (by decide))
  have eb : bf B = bf A := congrArg gn (eS 23 (by decide) (by decide) (by decide))
  have hnw : ∀ y, y ∈ (aV A 54).1 → y.1 ≠ wr A := fun y hy => by have := (a1.1 y hy).2.1; omega
  have hfl : fl (aH B).1 (aV A 54).1 = fl (aD A) (aV A 54).1 := by rw [eH, fl_U hnw]
  have e18 := eS 18 (by decide) (by decide) (by decide)
  have e19 := eS 19 (by decide) (by decide) (by decide)
  have e20 := eS 20 (by decide) (by decide) (by decide)
  have e14 := eS 14 (by decide) (by decide) (by decide)
  have h14 : aS A 14 = 0 := by
    by_cases c : aS A 14 = 0
    · exact c
    · exact absurd (h6.2.1 c) ho
  have hTB : TB (aT B) := by rw [eT]; exact TB_app h2 h2' (by omega) (by omega)
  have J3' : J3 B := J3_new h3 ed ew eH (fun n _ => by rw [eV])
  refine ⟨ew, ed, eb, ⟨⟨⟨?_, ?_⟩, ⟨?_, ?_⟩, ⟨?_, ?_⟩⟩, ⟨?_, ?_, ?_, ?_⟩, ?_, ?_⟩, ⟨hTB, fun f hf => ?_⟩, J3', ⟨⟨?_, fun e he => ?_⟩, fun y hy => ?_, ⟨fun m hm => ?_, by rw [eM]; exact a3', fun y hy hy2 => ?_⟩⟩, ?_, fun f hf => ?_⟩
  · rw [ed, eS 5 (by decide) (by decide) (by decide)]; exact p1
  · rw [ed]; exact p1'
  · rw [eb, eS 23 (by decide) (by decide) (by decide)]; exact p2
  · rw [eb, ed]; exact p2'
  · rw [ew]; exact e11
  · rw [ew]; exact hw
  · rw [eS 25 (by decide) (by decide) (by decide)]; exact q1
  · rw [e20]; exact q2
  · rw [eS 34 (by decide) (by decide) (by decide)]; exact q3
  · rw [eS 32 (by decide) (by decide) (by decide)]; exact q4
  · rw [eS 30 (by decide) (by decide) (by decide), eM]; exact r1
  · rw [e18, e19, e14]; exact s1
  · rw [ew]
    rw [eT] at hf
    rcases List.mem_append.mp hf with q | q
    · have := h2' f q; omega
    · rw [List.mem_singleton.mp q]; show wr A < wr A + 1; omega
  · rw [ed, eb, ew, eV, eH]; exact VI_U a1
  · rw [ed, eb]
    rw [eV] at he ⊢
    rcases a1' e he with q | q
    · left
      show e ∈ fl (aH B).1 (aV A 54).1
      rw [hfl]
      exact q
    · exact Or.inr q
  · rw [eV] at hy ⊢
    have := a2 y hy
    unfold kp at this ⊢
    show (!decide (y.2.2 = 0) || !decide (((aH B).1 y.1).countP (aV A 54).2.1 = 0)) = true
    rw [eH, (hU_o (hnw y hy)).1]
    exact this
  · rw [eM] at hm
    obtain ⟨m1, ⟨m2, m3, m4⟩, m5, m6, m7, m8, m9⟩ := a3 m hm
    have hmw : m.2.1 ≠ wr A := by omega
    obtain ⟨t1, t2, t3, t4, t5⟩ := hU_o (H := aH A) (w := wr A) (D := D) (L := L) (tl := tl) (st := st) (en := en) hmw
    have hD : aD B m.2.1 = aD A m.2.1 := by show (aH B).1 m.2.1 = _; rw [eH]; exact t1
    refine ⟨by rw [eS 34 (by decide) (by decide) (by decide)]; exact m1, ⟨by rw [ed, eb, eH]; exact FI_U m2 hmw, by rw [ew]; omega, by rw [eH, t5]; exact m4⟩, fun z hz => ?_, fun z hz hz2 => ?_, by obtain ⟨y, y1, y2, y3⟩ := m7; exact ⟨y, by rw [eV]; exact y1, y2, by rw [eH, (hU_o (hnw y y1)).2.2.2.1]; exact y3⟩, fun e he => ?_, fun e x1 x2 x3 => ?_⟩
    · rw [eV] at hz
      rw [eH, (hU_o (hnw z hz)).2.2.2.1]
      exact m5 z hz
    · rw [eV] at hz
      rw [eH, (hU_o (hnw z hz)).2.2.2.2]
      exact m6 z hz hz2
    · rw [hD] at he
      obtain ⟨z, y1, y2, y3⟩ := m8 e he
      refine ⟨z, by rw [eV]; exact y1, y2, ?_⟩
      show e ∈ (aH B).1 z.1
      rw [eH, (hU_o (hnw z y1)).1]
      exact y3
    · rw [hD]
      rw [eV] at x3
      exact m9 e x1 x2 x3
  · rw [eV] at hy
    rw [eM]
    exact a3'' y hy hy2
  · exact J5_new h5 e18 e19 e20 eT (fun n _ => by rw [eV]) (fun q => by
      rw [eT, eV]
      intro y hy
      obtain ⟨b1, b2⟩ := h5.1.2.2.1 q y hy
      exact ⟨hav_app b1, fun q1 j hj => hav_app (b2 q1 j hj)⟩) (fun m hm => by rw [eT]; rw [eM] at hm; exact hav_app (h5.1.2.2.2.1 m hm))
  · rcases h6.2.2.1 h14 f hf with hq | hq
    case inr => exact Or.inr hq
    exact Or.inl (ndd_new hq ho e18 e19 e20 (fun n _ => by rw [eV]) (fun q2 => nd3_t (by rw [e18]; exact ho) (by rw [eV]; exact q2)) (fun q2 => by rw [eM]; exact q2))
theorem nw_ok {A B : zA} {k i : Nat} {D : List Nat} {L : Nat → Bool} {tl st en : Nat} (h : Mid A k i) (hB : nwB A B D L tl st en) (hw : wr A + 1 ≤ 10000 * k) (hk : k ≤ 600) : wr B = wr A + 1 ∧ dc B = dc A ∧ bf B = bf A ∧ J1 B k ∧ (TB (aT B) ∧ ∀ f, f ∈ aT B → f.1 < wr B) ∧ J3 B ∧ (WV B ∧ WK B ∧ WM B) ∧ J5 B ∧ ∀ f, f ∈ aT A → ndd B f.1 = true := by
  obtain ⟨a1, a2, a3, a4, a5, a6, a7, a8, a9⟩ := nw_okE h hB hw hk
  exact ⟨a1, a2, a3, a4, a5, a6, a7, a8, fun f hf => (a9 f hf).elim id (fun q => absurd q (by simp))⟩
def aPrp (A : zA) (w : Nat) : zA := sS (sV1 A 70 ((aV A 54).1, (aV A 54).2.1, w, (aV A 54).2.2.2.1, (aV A 70).2.2.2.2)) (upd (aS A) 19 1)
def aOwn (A : zA) : zA := aNw A [] (fun _ => false) 0 0 0
def prO (A : zA) : Bool × zA := if aS A 13 = 0 then (false, aLose A) else if (sy1 (wr A) (aOwn A)).1 = true then (true, aPrp (sy1 (wr A) (aOwn A)).2 (wr A)) else sy1 (wr A) (aOwn A)
theorem prO_ok {A : zA} {k i : Nat} (h : Mid A k i) (hw : wr A + 1 ≤ 10000 * k) (hk : k ≤ 600) (h19 : aS A 19 = 0) (hb : bf A = 0) (hs : ∀ x, x ∈ (aV A 54).1 → syn (aT A) x.1 = true ∧ ∀ l, x.2.1 = some l → syn (aT A) l = true) : Inv (prO A).2 k ∧ ((prO A).1 = true → ¬ aS (prO A).2 18 = 0 ∧ aS (prO A).2 19 = 1 ∧ aS (prO A).2 20 = aS A 20) := by
  unfold prO
  by_cases c : aS A 13 = 0
  · rw [if_pos c]
    exact ⟨Mid_lose h, fun q => by cases q⟩
  rw [if_neg c]
  have p3 := h.2.1.1.2.2.1
  have hB : nwB A (aOwn A) [] (fun _ => false) 0 0 0 := nwB_of p3
  obtain ⟨ew, ed, eb, j1, ⟨jt, jt'⟩, j3, ⟨w1, w2, w3⟩, j5, hn⟩ := nw_ok h hB hw hk
  have hm := h
  obtain ⟨ho, h1, ⟨h2, h2', h2''⟩, h3, ⟨⟨a1, a1'⟩, a2, ⟨a3, a3', a3''⟩, a4⟩, h5, h6⟩ := h
  generalize aOwn A = B at hB ew ed eb j1 jt jt' j3 w1 w2 w3 j5 hn ⊢
  obtain ⟨eS, e11, eH, eV, eM, eT⟩ := hB
  have hav_w : hav (aT B) (wr A) := ⟨(wr A, false, false), by rw [eT]; simp, rfl⟩
  have hns : syn (aT B) (wr A) = false := by
    rw [eT]
    cases q : syn (aT A ++ [(wr A, false, false)]) (wr A) with
    | false => rfl
    | true =>
      unfold syn at q
      obtain ⟨f, f1, f2⟩ := List.any_eq_true.mp q
      simp only [Bool.and_eq_true, decide_eq_true_eq] at f2
      rcases List.mem_append.mp f1 with r | r
      · have := h2' f r
        omega
      · rw [List.mem_singleton.mp r] at f2
        cases f2.2
  have e18 : aS B 18 = aS A 18 := eS 18 (by decide) (by decide) (by decide)
  have e19 : aS B 19 = aS A 19 := eS 19 (by decide) (by decide) (by decide)
  have e20 : aS B 20 = aS A 20 := eS 20 (by decide) (by decide) (by decide)
  have e14 : aS B 14 = aS A 14 := eS 14 (by decide) (by decide) (by decide)
  have h14 : aS A 14 = 0 := by
    by_cases c : aS A 14 = 0
    · exact c
    · exact absurd (h6.2.1 c) ho
  have e1 : sy1 (wr A) B = if aS B 13 = 0 then (false, aLose B) else (true, aSyn (aActd B) (wr A)) := by
    unfold sy1
    rw [if_neg (by rw [hns]; simp)]
  rw [e1]
  by_cases c2 : aS B 13 = 0
  · rw [if_pos c2, if_neg (by simp)]
    refine ⟨Inv_lose j1 jt jt' ?_ j3 j5.2.1, fun q => by cases q⟩
    rw [eT, List.filter_append]
    simp only [List.filter_cons, List.filter_nil]
    rw [if_neg (by simp), List.append_nil]
    exact Nat.le_trans (List.length_filter_le _ _) h2''.1
  · rw [if_neg c2, if_pos rfl]
    show Inv (aPrp (aSyn (aActd B) (wr A)) (wr A)) k ∧ (_ → ¬ aS (aPrp (aSyn (aActd B) (wr A)) (wr A)) 18 = 0 ∧ aS (aPrp (aSyn (aActd B) (wr A)) (wr A)) 19 = 1 ∧ aS (aPrp (aSyn (aActd B) (wr A)) (wr A)) 20 = aS A 20)
    have cS : ∀ j, j ≠ 12 → j ≠ 13 → j ≠ 19 → aS (aPrp (aSyn (aActd B) (wr A)) (wr A)) j = aS B j := fun j q1 q2 q3 => by
      show upd (aS (aActd B)) 19 1 j = _
      rw [upd_at, if_neg q3]
      exact aActd_S q1 q2
    have c19 : aS (aPrp (aSyn (aActd B) (wr A)) (wr A)) 19 = 1 := rfl
    have cH : aH (aPrp (aSyn (aActd B) (wr A)) (wr A)) = aH B := rfl
    have cM : aM (aPrp (aSyn (aActd B) (wr A)) (wr A)) = aM B := rfl
    have cT : aT (aPrp (aSyn (aActd B) (wr A)) (wr A)) = (aT B).map (syG (wr A)) := rfl
    have cV : ∀ n, n ≠ 70 → aV (aPrp (aSyn (aActd B) (wr A)) (wr A)) n = aV B n := fun n hn => if_neg hn
    have c70 : aV (aPrp (aSyn (aActd B) (wr A)) (wr A)) 70 = ((aV B 54).1, (aV B 54).2.1, wr A, (aV B 54).2.2.2.1, (aV B 70).2.2.2.2) := rfl
    generalize aPrp (aSyn (aActd B) (wr A)) (wr A) = C at cS c19 cH cM cT cV c70 ⊢
    have dC : dc C = dc B := congrArg gn (cS 5 (by decide) (by decide) (by decide))
    have bC : bf C = bf B := congrArg gn (cS 23 (by decide) (by decide) (by decide))
    have wC : wr C = wr B := congrArg gn (cS 11 (by decide) (by decide) (by decide))
    have o18 : ¬ aS C 18 = 0 := by rw [cS 18 (by decide) (by decide) (by decide), e18]; exact ho
    have hg := syG_fl (wr A)
    have b0 : bf B = 0 := by rw [eb]; exact hb
    have hVI : VI (aH B) (dc B) (wr B) (aV B 54) := VI_mono w1.1 (by omega)
    have hVC : ∀ e, (aV B 54).2.1 e = true → e ∈ fl (aH B).1 (aV B 54).1 := fun e he => (w1.2 e he).elim id (fun q => by omega)
    have J3' : J3 C := fun n hn hn' => by
      rw [dC, wC, cH]
      by_cases cn : n = 70
      · subst cn
        rw [c70]
        exact ⟨⟨hVI.1, hVI.2⟩, hVC⟩
      · rw [cV n cn]; exact j3 n hn hn'
    have hlen : ∀ n, gVer n = true → n ≠ 54 → (aV C n).1.length ≤ 4096 := fun n hn hn' => (VB_of (J3' n hn hn').1 (by rw [dC, ed]; exact h1.1.1.2)).1.1
    have hTB : TB (aT C) := by rw [cT]; exact TB_map hg jt
    have hnd : ∀ f, f ∈ aT C → ndd C f.1 = true := by
      intro f hf
      rw [cT] at hf
      obtain ⟨g, g1, g2⟩ := List.mem_map.mp hf
      have gf : f.1 = g.1 := by rw [← g2]; exact (hg g).1
      rw [gf]
      rw [eT] at g1
      rcases List.mem_append.mp g1 with r | r
      · have q := hn g r
        have x5 : nd5 C 4 g.1 = nd5 B 4 g.1 := by
          unfold nd5
          congr 1
          funext i
          rw [cV (84 + 8 * i) (by omega)]
        have x1 : nd1 C g.1 = nd1 B g.1 := by
          unfold nd1
          rw [cV 62 (by decide), cS 20 (by decide) (by decide) (by decide)]
        have x3 : nd3 C g.1 = nd3 B g.1 := by
          unfold nd3
          rw [cV 54 (by decide), cS 18 (by decide) (by decide) (by decide)]
        have x2 : nd2 B g.1 = false := by
          unfold nd2
          rw [e19, h19]
          rfl
        unfold ndd at q ⊢
        rw [x5, x1, x3, cM]
        rw [x2] at q
        revert q
        cases nd1 B g.1 <;> cases nd3 B g.1 <;> cases nd4 (aM B) g.1 <;> cases nd5 B 4 g.1 <;> cases nd2 C g.1 <;> simp
      · rw [List.mem_singleton.mp r]
        refine nd2_t (by rw [c19]; decide) ?_
        rw [c70]
        simp
    refine ⟨⟨⟨⟨?_, ?_, ?_⟩, ⟨?_, ?_, ?_, ?_⟩, ?_, ?_⟩, ⟨hTB, fun f hf => ?_, ?_⟩, J3', fun _ => ⟨⟨?_, ?_⟩, ?_, ⟨fun m hm => ?_, ?_, ?_⟩, fun x hx l hl' => Or.inl ⟨by rw [c19]; decide, x, ?_, hl'⟩⟩, ⟨⟨fun q => ?_, fun _ => ⟨?_, ?_⟩, fun _ => ?_, fun m hm => ?_, fun i hi q => ?_⟩, fun q => ?_, fun _ => ?_⟩, ⟨fun q => absurd q o18, fun q => ?_, fun _ => hnd, fun i hi => ?_⟩⟩, fun _ => ⟨o18, c19, by rw [cS 20 (by decide) (by decide) (by decide), e20]⟩⟩
    · rw [dC, cS 5 (by decide) (by decide) (by decide)]; exact j1.1.1
    · rw [bC, dC, cS 23 (by decide) (by decide) (by decide)]; exact j1.1.2.1
    · rw [wC, cS 11 (by decide) (by decide) (by decide)]; exact j1.1.2.2
    · rw [cS 25 (by decide) (by decide) (by decide)]; exact j1.2.1.1
    · rw [cS 20 (by decide) (by decide) (by decide)]; exact j1.2.1.2.1
    · rw [cS 34 (by decide) (by decide) (by decide)]; exact j1.2.1.2.2.1
    · rw [cS 32 (by decide) (by decide) (by decide)]; exact j1.2.1.2.2.2
    · rw [cS 30 (by decide) (by decide) (by decide), cM]; exact j1.2.2.1
    · rw [c19, cS 18 (by decide) (by decide) (by decide), cS 14 (by decide) (by decide) (by decide)]
      exact ⟨j1.2.2.2.1, Or.inr rfl, j1.2.2.2.2.2⟩
    · rw [wC]
      rw [cT] at hf
      obtain ⟨g, g1, g2⟩ := List.mem_map.mp hf
      rw [← g2, (hg g).1]
      exact jt' g g1
    · refine need_len hTB (hlen 62 rfl (by decide)) (hlen 70 rfl (by decide)) (fun _ => ?_) (fun i hi => hlen _ (gVer_r hi) (by omega)) (by rw [cM]; exact j1.2.2.1.2) hnd
      rw [cV 54 (by decide)]
      exact (VB_of hVI (by rw [ed]; exact h1.1.1.2)).1.1
    · rw [cH, dC, bC, wC, cV 54 (by decide)]; exact w1.1
    · intro e he
      rw [cV 54 (by decide)] at he ⊢
      rw [dC, bC]
      show e ∈ fl (aH C).1 (aV B 54).1 ∨ _
      rw [cH]
      exact w1.2 e he
    · intro x hx
      rw [cV 54 (by decide)] at hx ⊢
      show kp (aH C).1 (aV B 54) x = true
      rw [cH]
      exact w2 x hx
    · rw [cM] at hm
      exact MI_d (w3.1 m hm) (cS 34 (by decide) (by decide) (by decide)) cH (cV 54 (by decide)) wC (by rw [dC, bC]; exact Nat.le_refl _)
    · rw [cM]; exact w3.2.1
    · intro x hx hx2
      rw [cV 54 (by decide)] at hx
      rw [cM]
      exact w3.2.2 x hx hx2
    · rw [cV 54 (by decide)] at hx
      rw [c70]
      exact hx
    · rw [cV 62 (by decide), cT]
      obtain ⟨g1, g2⟩ := j5.1.1 (by rw [cS 20 (by decide) (by decide) (by decide)] at q; exact q)
      exact ⟨fun x hx => ⟨hav_map hg (g1 x hx).1, fun r l hl' => hav_map hg ((g1 x hx).2 r l hl')⟩, hav_map hg g2⟩
    · rw [c70, cT]
      have g1 := j5.1.2.2.1 (by rw [e18]; exact ho)
      exact fun x hx => ⟨hav_map hg (g1 x hx).1, fun r l hl' => hav_map hg ((g1 x hx).2 r l hl')⟩
    · rw [c70, cT]
      exact hav_map hg hav_w
    · rw [cV 54 (by decide), cT]
      have g1 := j5.1.2.2.1 (by rw [e18]; exact ho)
      exact fun x hx => ⟨hav_map hg (g1 x hx).1, fun r l hl' => hav_map hg ((g1 x hx).2 r l hl')⟩
    · rw [cM] at hm
      rw [cT]
      exact hav_map hg (j5.1.2.2.2.1 m hm)
    · rw [cV (84 + 8 * i) (by omega)] at q ⊢
      rw [cT]
      have g1 := j5.1.2.2.2.2 i hi q
      exact fun x hx => ⟨hav_map hg (g1 x hx).1, fun r l hl' => hav_map hg ((g1 x hx).2 r l hl')⟩
    · rw [cV 62 (by decide), cT]
      exact fun k hk => syn_map hg (j5.2.1 (by rw [cS 20 (by decide) (by decide) (by decide)] at q; exact q) k hk)
    · rw [c70, cT]
      intro j hj
      have hsB : ∀ x, x ∈ (aV A 54).1 → syn (aT B) x.1 = true ∧ ∀ l, x.2.1 = some l → syn (aT B) l = true := fun x hx => by
        rw [eT]
        exact ⟨syn_app (hs x hx).1, fun l hl' => syn_app ((hs x hx).2 l hl')⟩
      rw [Bool.or_eq_true] at hj
      rcases hj with hj | hj
      · rw [eV] at hj
        unfold inV at hj
        obtain ⟨y, y1, y2⟩ := List.any_eq_true.mp hj
        simp only [Bool.or_eq_true, Bool.and_eq_true, decide_eq_true_eq, true_and] at y2
        rcases y2 with y2 | y2
        · rw [y2]; exact syn_map hg (hsB y y1).1
        · exact syn_map hg ((hsB y y1).2 j y2)
      · rw [of_decide_eq_true hj]
        exact syn_self hav_w
    · rw [cS 14 (by decide) (by decide) (by decide), e14] at q
      exact absurd h14 q
    · rw [cV (84 + 8 * i) (by omega), eV]
      exact h6.2.2.2 i hi
