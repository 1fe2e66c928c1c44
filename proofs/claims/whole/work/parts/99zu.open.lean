/-! THE PURE SIDE: the call open -/
def unm (x : zS) : zS := (x.1, x.2.1, 0)
def opc (A : zA) (a : Int32) : Bool := decide (a = 0) && !decide (aS A 20 ≤ 0)
def opV (A : zA) (a : Int32) : zV := if opc A a = true then ((aV A 62).1.map unm, (aV A 62).2.1, (aV A 62).2.2.1, (aV A 62).2.2.2.1, (aV A 54).2.2.2.2) else ([], fun _ => false, (aV A 54).2.2.1, 0, (aV A 54).2.2.2.2)
def aOp (A : zA) (a : Int32) : zA := sS (sV1 A 54 (opV A a)) (upd (upd (upd (aS A) 18 1) 14 0) 23 0)
theorem fl_unm {D : Nat → List Nat} {l : List zS} : fl D (l.map unm) = fl D l := by
  unfold fl
  rw [List.flatMap_map]
  rfl
theorem lf_unm {D : Nat → List Nat} {Ls : Nat → Nat → Bool} {l : List zS} : lf D Ls (l.map unm) = lf D Ls l := by
  unfold lf
  rw [List.flatMap_map]
  rfl
theorem off_unm {D : Nat → List Nat} {l : List zS} {s : Nat} : off D (l.map unm) s = off D l s := by
  unfold off
  rw [← List.map_take, fl_unm]
theorem VI_unm {H : zH} {d w : Nat} {V : zV} {o : Nat} {s n : Int32} (h : VI H d w V) : VI H d w (V.1.map unm, V.2.1, o, s, n) := by
  refine ⟨fun x hx => ?_, ?_⟩
  · obtain ⟨y, y1, rfl⟩ := List.mem_map.mp hx
    obtain ⟨h1, h2, h3, h4⟩ := h.1 y y1
    exact ⟨h1, h2, by show 0 < 1000000; omega, h4⟩
  · rw [List.pairwise_map]
    exact h.2
theorem opV_ok {A : zA} {k : Nat} {a : Int32} (h : Inv A k) : VI (aH A) (dc A) (wr A) (opV A a) ∧ VC (aH A) (opV A a) ∧ hvV true (aT A) (opV A a) ∧ (∀ x, x ∈ (opV A a).1 → x.2.2 = 0) ∧ ∀ x, x ∈ (opV A a).1 → ∀ j, x.2.1 = some j → ¬ aS A 20 ≤ 0 ∧ ∃ y, y ∈ (aV A 62).1 ∧ y.2.1 = some j := by
  unfold opV
  cases c : opc A a with
  | true =>
    rw [if_pos rfl]
    obtain ⟨h1, h2⟩ := h.2.2.1 62 rfl (by decide)
    have g : ¬ aS A 20 ≤ 0 := by
      unfold opc at c
      simp only [Bool.and_eq_true] at c
      simpa using c.2
    have hv := (h.2.2.2.2.1.1.1 g).1
    refine ⟨VI_unm h1, fun e he => ?_, fun x hx => ?_, fun x hx => ?_, fun x hx j hj => ?_⟩
    · show e ∈ fl (aH A).1 ((aV A 62).1.map unm)
      rw [fl_unm]
      exact h2 e he
    · obtain ⟨y, y1, rfl⟩ := List.mem_map.mp hx
      exact hv y y1
    · obtain ⟨y, y1, rfl⟩ := List.mem_map.mp hx
      rfl
    · obtain ⟨y, y1, rfl⟩ := List.mem_map.mp hx
      exact ⟨g, y, y1, hj⟩
  | false =>
    rw [if_neg (by simp)]
    exact ⟨⟨fun x hx => absurd hx (by simp), List.Pairwise.nil⟩, fun e he => absurd he (by simp), fun x hx => absurd hx (by simp), fun x hx => absurd hx (by simp), fun x hx => absurd hx (by simp)⟩
theorem Mid0_op {A : zA} {k : Nat} {a : Int32} (h : Inv A k) (o : aS A 18 = 0) : Mid0 (aOp A a) k := by
  obtain ⟨v1, v2, v3, v4, v5⟩ := opV_ok (a := a) h
  obtain ⟨⟨⟨p1, p2, p3⟩, q, r, s⟩, h2, h3, h4, ⟨⟨a1, a2, a3, a4, a5⟩, b1, b2⟩, h6⟩ := h
  obtain ⟨hm, hp⟩ := h6.1 o
  have eV : ∀ n, n ≠ 54 → aV (aOp A a) n = aV A n := fun n hn => if_neg hn
  have e54 : aV (aOp A a) 54 = opV A a := rfl
  have eM : aM (aOp A a) = aM A := rfl
  have e19 : aS (aOp A a) 19 = aS A 19 := rfl
  have e20 : aS (aOp A a) 20 = aS A 20 := rfl
  refine ⟨by show ¬ (1 : Int32) = 0; decide, ⟨⟨p1, ⟨rfl, Nat.zero_le _⟩, p3⟩, q, r, ⟨Or.inr rfl, s.2.1, Or.inl rfl⟩⟩, ⟨h2.1, h2.2.1⟩, fun n hn hn' => by rw [eV n hn']; exact h3 n hn hn', ⟨⟨?_, fun e he => Or.inl ?_⟩, ⟨fun m hm' => ?_, ?_, fun x hx hx2 => ?_⟩, fun x hx j hj => ?_⟩, ⟨⟨?_, ?_, fun _ => ?_, fun m hm' => ?_, fun i hi => ?_⟩, ?_, ?_⟩, fun q => absurd rfl q, fun i hi => ?_⟩
  · rw [e54]; exact v1
  · rw [e54] at he ⊢; exact v2 e he
  · rw [eM, hm] at hm'; cases hm'
  · rw [eM, hm]; exact List.Pairwise.nil
  · rw [e54] at hx; exact absurd (v4 x hx) hx2
  · rw [e54] at hx
    obtain ⟨g1, g2⟩ := v5 x hx j hj
    rw [e19, e20, eV 62 (by decide)]
    exact Or.inr ⟨hp, g1, g2⟩
  · rw [eV 62 (by decide)]; exact a1
  · rw [eV 70 (by decide)]; exact a2
  · rw [e54]; exact v3
  · rw [eM, hm] at hm'; cases hm'
  · rw [eV (84 + 8 * i) (by omega)]; exact a5 i hi
  · rw [eV 62 (by decide)]; exact b1
  · rw [eV 70 (by decide)]; exact b2
  · rw [eV (84 + 8 * i) (by omega)]; exact h6.2.2.2 i hi
theorem CV_unm {X : gX} {v : Nat} {nm : Nat → Nat} {V : zV} {o : Nat} {n : Int32} (h : CV X v nm V) : CV X v nm (V.1.map unm, V.2.1, o, V.2.2.2.1, n) := by
  refine ⟨?_, h.2.1, fun i x hx => ?_, h.2.2.2⟩
  · show _ = nI (V.1.map unm).length
    rw [List.length_map]; exact h.1
  · have hx' : (V.1.map unm)[i]? = some x := hx
    rw [List.getElem?_map] at hx'
    obtain ⟨y, y1, rfl⟩ := Option.map_eq_some_iff.mp hx'
    exact h.2.2.1 i y y1
theorem RC_op {X Y : gX} {A : zA} {nm : Nat → Nat} {k : Nat} {a : Int32} (h : RC X A nm k) (e : frV 8 X Y) (hV : CV Y 8 nm (opV A a)) : RC (((Y.w 0 7 1).w 0 9 (Y.I 1 3)).w 5 3 0) (aOp A a) nm k := by
  obtain ⟨q1, q2, q3, q4, q5, q6, q7⟩ := h
  have fI : ∀ b, b ≠ 0 → b ≠ 5 → b ≠ 8 → b ≠ 11 → (((Y.w 0 7 1).w 0 9 (Y.I 1 3)).w 5 3 0).I b = X.I b := fun b b1 b2 b3 b4 => by rw [gX.w_ne b2, gX.w_ne b1, gX.w_ne b1, e.1 b b3 b4]
  have fG : ∀ b, b ≠ 9 → b ≠ 10 → (((Y.w 0 7 1).w 0 9 (Y.I 1 3)).w 5 3 0).G b = X.G b := fun b b1 b2 => e.2.1 b b1 b2
  have fE : gEq X (((Y.w 0 7 1).w 0 9 (Y.I 1 3)).w 5 3 0) := e.2.2.w.w.w
  have s0 : cS Y (aS A) := cS_fr q1 (e.1 0 (by omega) (by omega)) (e.1 1 (by omega) (by omega)) (e.1 5 (by omega) (by omega))
  have s1 : cS (((Y.w 0 7 1).w 0 9 (Y.I 1 3)).w 5 3 0) (upd (upd (upd (aS A) 18 1) 14 0) 23 0) := cS_23 (cS_w (cS_o (cS_w s0 (show (0, 7, 18) ∈ cTab by decide)) (Or.inr ⟨rfl, rfl⟩)) (show (5, 3, 14) ∈ cTab by decide))
  refine ⟨s1, fun _ => ?_, ?_, ?_, ?_, ?_, RR_fr q7 fE⟩
  · rw [gX.w_ne (by decide), w_same rfl, cS_5 s0]
    show aS A 5 = aS A 5 - 0
    simp
  · unfold cE at q3 ⊢
    rw [fI 2 (by omega) (by omega) (by omega) (by omega), fI 3 (by omega) (by omega) (by omega) (by omega), fI 4 (by omega) (by omega) (by omega) (by omega)]
    exact q3
  · exact cT_fr q4 (by rw [fI 6 (by omega) (by omega) (by omega) (by omega)]) (by rw [fI 7 (by omega) (by omega) (by omega) (by omega)]) (fG 130 (by omega) (by omega)) (fG 131 (by omega) (by omega)) fE (fun b j hb _ => by rw [fI b (by omega) (by omega) (by omega) (by omega)])
  · obtain ⟨⟨h1, h2⟩, ⟨c, p, k1, k2, k3, k4, k5⟩, h4⟩ := q5
    have hcp := cpq_v k1
    have eV : ∀ n, n ≠ 54 → aV (aOp A a) n = aV A n := fun n hn => if_neg hn
    have fr : ∀ v V, 12 ≤ v → v < 43 → CV X v nm V → CV (((Y.w 0 7 1).w 0 9 (Y.I 1 3)).w 5 3 0) v nm V := fun v V a1 a2 q => CV_fr q (fI v (by omega) (by omega) (by omega) (by omega)) (fG _ (by omega) (by omega)) (fG _ (by omega) (by omega)) (fI _ (by omega) (by omega) (by omega) (by omega))
    refine ⟨⟨fun _ => ?_, ?_⟩, ⟨c, p, k1, ?_, ?_, fun o => ?_, fun o => ?_⟩, fun i hi => ?_⟩
    · show CV _ 8 nm (opV A a)
      exact CV_fr hV (by rw [gX.w_ne (by decide), gX.w_ne (by decide), gX.w_ne (by decide)]) rfl rfl (by rw [gX.w_ne (by decide), gX.w_ne (by decide), gX.w_ne (by decide)])
    · rw [fG 8 (by omega) (by omega)]; exact h2
    · rw [fG 0 (by omega) (by omega)]; exact k2
    · rw [fG 0 (by omega) (by omega)]; exact k3
    · rw [eV 62 (by decide), fG c (by omega) (by omega)]; exact ⟨fr c _ (by omega) (by omega) (k4 o).1, (k4 o).2⟩
    · rw [eV 70 (by decide), fG p (by omega) (by omega)]; exact ⟨fr p _ (by omega) (by omega) (k5 o).1, (k5 o).2⟩
    · rw [eV (84 + 8 * i) (by omega)]
      have q := h4 i hi
      unfold cR at q ⊢
      rw [fI (26 + 5 * i) (by omega) (by omega) (by omega) (by omega)]
      rcases q with q | ⟨r1, r2, r3, r4⟩
      · exact Or.inl q
      · exact Or.inr ⟨r1, r2, r3, fr _ _ (by omega) (by omega) r4⟩
  · exact cM_fr q6 (fun b b1 b2 => fI b (by omega) (by omega) (by omega) (by omega)) (fun b b1 b2 => fG b (by omega) (by omega))
/-- the class opens a writer -/
theorem C_open {X : gX} {A : zA} {nm : Nat → Nat} {k : Nat} {a : Int32} (h : RC X A nm k) (hI : Inv A (k + 1)) (o : aS A 18 = 0) (hk : k < 600) : ∃ Y, f_Le_open_44 X a = some (gR.i (Y.I 8 4), Y) ∧ RC Y (aTf (aTdy (aOp A a))) nm k ∧ frC X Y := by
  have h76 : ∀ Y, frV 8 X Y → CV Y 8 nm (opV A a) → ∃ Z, f_Le_open_76 Y = some (gR.i (Z.I 8 4), Z) ∧ RC Z (aTf (aTdy (aOp A a))) nm k ∧ frC X Z := fun Y y1 y2 => by
    have hr := RC_op h y1 y2
    obtain ⟨U, V, u1, u2, u3, u4⟩ := C_tidy2 hr (Mid0_op hI o) (by omega) (by omega)
    unfold f_Le_open_76
    rw [gB_b, gB_b, gB_b, gX.w_ne (show 1 ≠ 0 by decide), u1, gCv_v, u2, gCv_v]
    exact ⟨V, rfl, u3, ((((y1.C (by omega)).w (by omega)).w (by omega)).w (by omega)).tr u4⟩
  unfold f_Le_open_44 f_Le_open_69
  rw [cS_20 h.1]
  by_cases c : opc A a = true
  · have c' := c
    unfold opc at c'
    simp only [Bool.and_eq_true, decide_eq_true_eq] at c'
    have g : ¬ aS A 20 ≤ 0 := by simpa using c'.2
    obtain ⟨-, ⟨c9, p9, k1, k2, k3, k4, k5⟩, -⟩ := RC_W h
    obtain ⟨v1, -⟩ := cpq_v k1
    obtain ⟨k6, k7⟩ := k4 g
    have hv := hI.2.2.2.2.1.1.1 g
    obtain ⟨Y, y1, y2, y3⟩ := C_copy (v := 8) (u := c9) (by unfold cpq at k1; omega) k6 (VL_of hI 62 rfl (fun e => absurd e (by decide))) (okN_l (RC_T h) hI.2.1.1 hv.1)
    rw [if_pos c'.1, if_neg g, k2, gM_s, if_pos v1, y1, gCv_v]
    refine h76 Y y3 ?_
    unfold opV
    rw [if_pos c]
    exact CV_unm y2
  · obtain ⟨Y, y1, y2, y3⟩ := C_empty (X := X) (v := 8) (nm := nm) (own := (aV A 54).2.2.1) (u := (aV A 54).2.2.2.2)
    have hV : CV Y 8 nm (opV A a) := by
      unfold opV
      rw [if_neg c]
      exact y2
    have : (if a = (0 : Int32) then (if aS A 20 ≤ (0 : Int32) then gCv (f_Vi_becomeEmpty X 8) (fun X5 => f_Le_open_76 X5) else gM (X.G 0 5) (fun n12 => (if gVie n12 then gCv (f_Vi_copyFrom X 8 n12) (fun X14 => f_Le_open_76 X14) else none))) else gCv (f_Vi_becomeEmpty X 8) (fun X5 => f_Le_open_76 X5)) = gCv (f_Vi_becomeEmpty X 8) (fun X5 => f_Le_open_76 X5) := by
      by_cases c1 : a = 0
      · rw [if_pos c1]
        by_cases c2 : aS A 20 ≤ 0
        · rw [if_pos c2]
        · exact absurd (by unfold opc; simp [c1, c2]) c
      · rw [if_neg c1]
    rw [this, y1, gCv_v]
    exact h76 Y y3 hV
/-- the reference opens a writer -/
theorem z_open111 {X : gX} {A : zA} {k : Nat} {a : Int32} {Z : gX} (h : RM X A) (hI : Inv A k) (o : aS A 18 = 0) (h0 : X.I 46 0 = 0) (hZ : frI (sVe 54) X Z) (hV : VR Z.I 54 (aD A) (aL A) (if opc A a = true then ((aV A 62).1, (aV A 62).2.1, (aV A 62).2.2.1, (aV A 62).2.2.2.1, (aV A 54).2.2.2.2) else ([], fun _ => false, (aV A 54).2.2.1, 0, (aV A 54).2.2.2.2))) : ∃ U, f_Mo_open_111 Z = some (gR.i (nI (aV (aTdy (aOp A a)) 54).1.length), Xd U 0) ∧ RM (Xd U 0) (aTf (aTdy (aOp A a))) ∧ frM X (Xd U 0) := by
  obtain ⟨v1, v2, v3, v4, v5⟩ := opV_ok (a := a) hI
  obtain ⟨b1, -, -⟩ := VB_of v1 hI.1.1.1.2
  have hlen : (opV A a).1.length ≤ 4096 := b1.1
  have hm0 := Mid0_op (a := a) hI o
  obtain ⟨hM0, hp0⟩ := hI.2.2.2.2.2.1 o
  have eL : (if opc A a = true then ((aV A 62).1, (aV A 62).2.1, (aV A 62).2.2.1, (aV A 62).2.2.2.1, (aV A 54).2.2.2.2) else (([] : List zS), (fun _ => false), (aV A 54).2.2.1, 0, (aV A 54).2.2.2.2)).1.map unm = (opV A a).1 := by
    unfold opV
    cases c : opc A a with
    | true => rw [if_pos rfl, if_pos rfl]
    | false => rw [if_neg (by simp), if_neg (by simp)]; rfl
  have eR : (if opc A a = true then ((aV A 62).1, (aV A 62).2.1, (aV A 62).2.2.1, (aV A 62).2.2.2.1, (aV A 54).2.2.2.2) else (([] : List zS), (fun _ => false), (aV A 54).2.2.1, 0, (aV A 54).2.2.2.2)).2 = (opV A a).2 := by
    unfold opV
    cases c : opc A a with
    | true => rw [if_pos rfl, if_pos rfl]
    | false => rw [if_neg (by simp), if_neg (by simp)]
  generalize (if opc A a = true then ((aV A 62).1, (aV A 62).2.1, (aV A 62).2.2.1, (aV A 62).2.2.2.1, (aV A 54).2.2.2.2) else (([] : List zS), (fun _ => false), (aV A 54).2.2.1, 0, (aV A 54).2.2.2.2)) = V0 at hV eL eR
  have hl0 : V0.1.length = (opV A a).1.length := by rw [← eL, List.length_map]
  unfold f_Mo_open_111
  have key := gI_inv (body := fun s : gX × Int32 => f_Mo_open_113 s.1 s.2) (fun i s => ∃ W, s = (W, nI i) ∧ frI (sVe 54) X W ∧ (∀ b, b ≠ 58 → W.I b = Z.I b) ∧ (∀ t x, V0.1[t]? = some x → W.I 58 t = if t < i then 0 else nI x.2.2)) (fun r => ∃ U, r = (gR.i (nI (aV (aTdy (aOp A a)) 54).1.length), Xd U 0) ∧ RM (Xd U 0) (aTf (aTdy (aOp A a))) ∧ frM X (Xd U 0)) V0.1.length (by omega) (s0 := (Z, 0)) ⟨Z, rfl, hZ, fun _ _ => rfl, fun t x hx => by rw [if_neg (by omega)]; exact hl_m (g := fun x : zS => nI x.2.2) hV.2.1.2.2 hx⟩ (fun i s hi hIs => by
    obtain ⟨W, rfl, g1, g2, g3⟩ := hIs
    show ∃ s', f_Mo_open_113 W (nI i) = _ ∧ _
    unfold f_Mo_open_113
    rw [g2 54 (by decide), hV.1.1, if_neg (nI_ge hi (by omega)), if_pos (gIn_nI (by omega) (by omega)), gn_nI (by omega), gB_b, nI_1]
    refine ⟨_, rfl, _, rfl, g1.w (show sVe 54 58 = true by decide), fun b hb => by rw [gX.w_ne hb]; exact g2 b hb, fun t x hx => ?_⟩
    by_cases c : t = i
    · rw [w_same c, if_pos (by omega)]
    · rw [w_oth (Or.inr c), g3 t x hx]
      by_cases c2 : t < i
      · rw [if_pos c2, if_pos (by omega)]
      · rw [if_neg c2, if_neg (by omega)]) (fun s hIs => by
    obtain ⟨W, rfl, g1, g2, g3⟩ := hIs
    show ∃ r, f_Mo_open_113 W (nI V0.1.length) = _ ∧ _
    have hVW : VR W.I 54 (aD A) (aL A) (opV A a) := by
      refine ⟨⟨?_, ?_, ?_, ?_⟩, ⟨?_, ?_, ?_⟩, fun t ht => ?_, ?_, ?_, ?_⟩
      · rw [g2 54 (by decide), ← hl0]; exact hV.1.1
      · rw [g2 54 (by decide), ← eR]; exact hV.1.2.1
      · rw [g2 54 (by decide), ← eR]; exact hV.1.2.2.1
      · rw [g2 54 (by decide), ← eR]; exact hV.1.2.2.2
      · rw [g2 (54 + 1) (by decide), ← eL, List.map_map]; exact hV.2.1.1
      · rw [g2 (54 + 2) (by decide), ← eL, List.map_map]; exact hV.2.1.2.1
      · rw [← eL, List.map_map]
        refine hl_mk (fun t x hx => ?_)
        rw [show 54 + 4 = 58 from rfl, g3 t x hx, if_pos (vs_lt hx)]
        rfl
      · rw [g2 (54 + 3) (by decide), ← eL, off_unm]
        exact hV.2.2.1 t (by rw [hl0]; exact ht)
      · rw [g2 (54 + 5) (by decide), ← eL, fl_unm]; exact hV.2.2.2.1
      · rw [g2 (54 + 6) (by decide), ← eL, fl_unm, ← eR]; exact hV.2.2.2.2.1
      · rw [g2 (54 + 7) (by decide), ← eL, lf_unm]; exact hV.2.2.2.2.2
    obtain ⟨T, t1, t2, t3⟩ := z_tidy hVW b1
    have hT := g1.tr t2
    have fI : ∀ b, (b < 54 ∨ 61 < b) → T.I b = X.I b := fun b hb => hT.1 b (sVe_f (by omega))
    unfold f_Mo_open_113
    rw [g2 54 (by decide), hV.1.1, if_pos (nI_le (Nat.le_refl _) (by omega)), t1, gCv_v]
    simp only [gB_b]
    have fI2 : ∀ b, b ≠ 46 → (((((T.w 46 18 1).w 46 14 0).w 46 23 0).w 46 30 0).w 46 19 0).I b = T.I b := fun b hb => by rw [gX.w_ne hb, gX.w_ne hb, gX.w_ne hb, gX.w_ne hb, gX.w_ne hb]
    have f46 : ∀ j, (((((T.w 46 18 1).w 46 14 0).w 46 23 0).w 46 30 0).w 46 19 0).I 46 j = upd (upd (upd (upd (upd (X.I 46) 18 1) 14 0) 23 0) 30 0) 19 0 j := fun j => by
      rw [gX.w_self, gX.w_self, gX.w_self, gX.w_self, gX.w_self, fI 46 (by omega)]
    have fr2 : frM X (((((T.w 46 18 1).w 46 14 0).w 46 23 0).w 46 30 0).w 46 19 0) := (((((frM.of hT (fun b hb => by unfold sVe at hb; simp only [Bool.and_eq_true, decide_eq_true_eq] at hb; omega)).w (by omega)).w (by omega)).w (by omega)).w (by omega)).w (by omega)
    have hRM : RM (((((T.w 46 18 1).w 46 14 0).w 46 23 0).w 46 30 0).w 46 19 0) (aTdy (aOp A a)) := by
      obtain ⟨m1, m2, m3, m4, m5, m6⟩ := h
      refine ⟨fun j j1 j2 j3 => ?_, mE_fr (A := aTdy (aOp A a)) m2 ((fI2 47 (by decide)).trans (fI 47 (by omega))) ((fI2 48 (by decide)).trans (fI 48 (by omega))) ((fI2 49 (by decide)).trans (fI 49 (by omega))), mT_fr m3 ?_ ((fI2 50 (by decide)).trans (fI 50 (by omega))) ((fI2 51 (by decide)).trans (fI 51 (by omega))) ((fI2 52 (by decide)).trans (fI 52 (by omega))), fun n hn => ?_, fun t ht => absurd ht (Nat.not_lt_zero _), mM_fr (A := aTdy (aOp A a)) m6 (fun b b1 b2 => (fI2 b (by omega)).trans (fI b (by omega))) (fun b b1 b2 => (fI2 b (by omega)).trans (fI b (by omega))) (by show T.G 121 = _; rw [hT.2.1])⟩
      · rw [f46]
        show upd (upd (upd (upd (upd (X.I 46) 18 1) 14 0) 23 0) 30 0) 19 0 j = upd (upd (upd (aS A) 18 1) 14 0) 23 0 j
        have e9 := m1 j j1 j2 j3
        simp only [upd_at]
        by_cases c1 : j = 19
        · subst c1
          rw [if_pos rfl, if_neg (by decide), if_neg (by decide), if_neg (by decide), hp0]
        · rw [if_neg c1]
          by_cases c2 : j = 30
          · subst c2
            rw [if_pos rfl, if_neg (by decide), if_neg (by decide), if_neg (by decide), hI.1.2.2.1.1, hM0]
            rfl
          · rw [if_neg c2, e9]
      · rw [f46]
        simp only [upd_at]
        rw [if_neg (by decide), if_neg (by decide), if_neg (by decide), if_neg (by decide), if_neg (by decide)]
      · by_cases c : n = 54
        · subst c
          show VR _ 54 (aD A) (aL A) ((opV A a).1.filter (kp (aD A) (opV A a)), (opV A a).2)
          exact VR_fr t3 (fun b b1 b2 => fI2 b (by omega))
        · have hr : n = 62 ∨ n = 70 ∨ 84 ≤ n := by
            unfold gVer at hn
            simp only [decide_eq_true_eq, List.mem_cons, List.mem_nil_iff, or_false] at hn
            omega
          show VR _ n (aD A) (aL A) (if n = 54 then _ else if n = 54 then _ else aV A n)
          rw [if_neg c, if_neg c]
          exact VR_fr (m4 n hn) (fun b b1 b2 => (fI2 b (by omega)).trans (fI b (by omega)))
    have e0 : (((((T.w 46 18 1).w 46 14 0).w 46 23 0).w 46 30 0).w 46 19 0).I 46 0 = 0 := by
      rw [f46]
      simp only [upd_at]
      rw [if_neg (by decide), if_neg (by decide), if_neg (by decide), if_neg (by decide), if_neg (by decide)]
      exact h0
    have e7 := (RM_V hRM 54 rfl).1.1
    obtain ⟨U, u1, u2, u3⟩ := z_finT (v := (((((T.w 46 18 1).w 46 14 0).w 46 23 0).w 46 30 0).w 46 19 0).I 54 7) (v' := (((((T.w 46 18 1).w 46 14 0).w 46 23 0).w 46 30 0).w 46 19 0).I 54 7) (L := 124) (p := 0) hRM (Pre_tdy hm0) (fun V hV => z_done_124_0 (hV.trans e0))
    rw [u1, gCi_i, gLf_s, e7]
    exact ⟨_, rfl, U, rfl, u2, fr2.tr u3⟩)
  obtain ⟨r, k1, U, rfl, k3⟩ := key
  rw [k1]
  exact ⟨U, rfl, k3⟩
theorem z_open58 {X : gX} {A : zA} {k : Nat} {a : Int32} (h : RM X A) (hI : Inv A k) (o : aS A 18 = 0) (h0 : X.I 46 0 = 0) : ∃ U, f_Mo_open_58 X a 0 = some (gR.i (nI (aV (aTdy (aOp A a)) 54).1.length), Xd U 0) ∧ RM (Xd U 0) (aTf (aTdy (aOp A a))) ∧ frM X (Xd U 0) := by
  have hV := RM_V h 54 rfl
  have f1 : frI (sVe 54) X ((X.w 54 7 0).w 54 8 0) := (frI.rf.w (show sVe 54 54 = true by decide)).w (show sVe 54 54 = true by decide)
  have fI : ∀ b, b ≠ 54 → ((X.w 54 7 0).w 54 8 0).I b = X.I b := fun b hb => by rw [gX.w_ne hb, gX.w_ne hb]
  have hV1 : VR ((X.w 54 7 0).w 54 8 0).I 54 (aD A) (aL A) ([], fun _ => false, (aV A 54).2.2.1, 0, (aV A 54).2.2.2.2) := by
    refine ⟨⟨?_, ?_, ?_, ?_⟩, ⟨hl_nil, hl_nil, hl_nil⟩, fun t ht => ?_, hl_nil, hl_nil, hl_nil⟩
    · rw [w_oth (Or.inr (by decide)), w_same rfl]; rfl
    · rw [w_same rfl]
    · rw [w_oth (Or.inr (by decide)), w_oth (Or.inr (by decide))]; exact hV.1.2.2.1
    · rw [w_oth (Or.inr (by decide)), w_oth (Or.inr (by decide))]; exact hV.1.2.2.2
    · have t0 : t = 0 := Nat.le_zero.mp ht
      subst t0
      rw [fI (54 + 3) (by decide), hV.2.2.1 0 (Nat.zero_le _), off_0, off_0]
  unfold f_Mo_open_58
  rw [s_wrong0 h0, gCi_i, if_pos rfl, gB_b, gB_b, fI 46 (by decide), RM_S h 20 (by decide) (by decide) (by decide)]
  by_cases c : opc A a = true
  · have c' := c
    unfold opc at c'
    simp only [Bool.and_eq_true, decide_eq_true_eq] at c'
    have g : ¬ aS A 20 ≤ 0 := by simpa using c'.2
    have hV2 : VR ((X.w 54 7 0).w 54 8 0).I 62 (aD A) (aL A) (aV A 62) := VR_fr (RM_V h 62 rfl) (fun b b1 b2 => fI b (by omega))
    obtain ⟨hb, -⟩ := VB_of (hI.2.2.1 62 rfl (by decide)).1 hI.1.1.1.2
    obtain ⟨Y, y1, y2, y3⟩ := z_copy (n := 54) (m := 62) (by omega) hV2 hb (u := (aV A 54).2.2.2.2) hV1.1.2.2.2
    rw [if_pos c'.1, if_neg g, y1, gCv_v]
    refine z_open111 h hI o h0 (f1.tr y2) ?_
    rw [if_pos c]
    exact y3
  · have hh : f_Mo_open_111 ((X.w 54 7 0).w 54 8 0) = (if a = (0 : Int32) then (if aS A 20 ≤ (0 : Int32) then f_Mo_open_111 ((X.w 54 7 0).w 54 8 0) else gCv (f_Ve_copy ((X.w 54 7 0).w 54 8 0) 54 62) (fun X33 => f_Mo_open_111 X33)) else f_Mo_open_111 ((X.w 54 7 0).w 54 8 0)) := by
      by_cases c1 : a = 0
      · rw [if_pos c1]
        by_cases c2 : aS A 20 ≤ 0
        · rw [if_pos c2]
        · exact absurd (by unfold opc; simp [c1, c2]) c
      · rw [if_neg c1]
    rw [← hh]
    refine z_open111 h hI o h0 f1 ?_
    rw [if_neg c]
    exact hV1
theorem KK_op {A : zA} {k : Nat} {a : Int32} (hI : Inv A k) (o : aS A 18 = 0) : KK (aOp A a) := by
  intro _
  have e19 : aS (aOp A a) 19 = 0 := (hI.2.2.2.2.2.1 o).2
  have eM : aM (aOp A a) = [] := (hI.2.2.2.2.2.1 o).1
  refine ⟨fun x hx _ => ?_, fun m hm => ?_, by rw [eM]; exact List.Pairwise.nil⟩
  · have hx' : x ∈ (opV A a).1 := hx
    unfold opV at hx'
    by_cases c : opc A a = true
    · rw [if_pos c] at hx'
      obtain ⟨y, y1, y2⟩ := List.mem_map.mp hx'
      unfold opc at c
      simp only [Bool.and_eq_true, Bool.not_eq_true', decide_eq_false_iff_not] at c
      refine Or.inr ⟨e19, c.2, ?_⟩
      show inV true (aV A 62).1 x.1 = true
      rw [← y2]
      exact inV_seg (x := y) y1
    · rw [if_neg c] at hx'
      cases hx'
  · rw [eM] at hm
    cases hm
theorem L_open {X : gX} {k : Nat} {a : Int32} (h : JJ X k) (hk : k < 600) : LI (f_Lw_open X a) (fun Y => f_Mo_open Y a) k := by
  obtain ⟨A, nm, hM, hC, hI, h0, hK⟩ := h
  have lim := RC_lim hC (by omega)
  have hI1 := Inv_mono hI (Nat.le_succ k)
  by_cases c : a < 0 ∨ ¬ a ≤ 1
  · refine LI_ref (p := 1) (e := 1) (v := 0) (by omega) hM hC hI h0 hK ?_ (fun Y hY hY0 => ?_)
    · unfold f_Lw_open f_Le_open
      rw [C_rangeT c, gCvt_t, gCit_t, if_pos rfl, if_pos lim]
      rfl
    · have : f_Mo_open Y a = f_Mo_open_10 Y a := by
        unfold f_Mo_open
        by_cases c1 : a < 0
        · rw [if_pos c1]
        · rw [if_neg c1, if_neg (c.elim (fun q => absurd q c1) id)]
      show f_Mo_open Y a = _
      rw [this]
      unfold f_Mo_open_10 f_Mo_open_15 f_Mo_open_65
      rw [s_wrong1 hY0 (by decide), gCi_i, if_neg (by decide), z_done_124_1 (w_same rfl), gCi_i]
  · have c1 : ¬ a < 0 := fun q => c (Or.inl q)
    have c2 : a ≤ 1 := Classical.not_not.mp (fun q => c (Or.inr q))
    have h15 : ∀ Y, f_Mo_open Y a = f_Mo_open_15 Y a 0 := fun Y => by
      unfold f_Mo_open
      rw [if_neg c1, if_pos c2]
    by_cases o : aS A 18 = 0
    · have g57 : ∀ Y, RM Y A → Y.I 46 0 = 0 → f_Mo_open Y a = (if a = (0 : Int32) then (if aS A 20 ≤ (0 : Int32) then f_Mo_open_57 Y a else gCi (f_Mo_corrupt Y) (fun x35 X35 => (if x35 = (0 : Int32) then f_Mo_open_57 X35 a else f_Mo_open_58 X35 a 1))) else f_Mo_open_57 Y a) := fun Y hY hY0 => by
        rw [h15]
        unfold f_Mo_open_15
        rw [s_wrong0 hY0, gCi_i, if_pos rfl, RM_S hY 18 (by decide) (by decide) (by decide), o, s_wrong0 hY0, gCi_i, if_pos rfl, RM_S hY 20 (by decide) (by decide) (by decide)]
      have zc : ¬ aS A 20 ≤ 0 → ∀ Y, RM Y A → f_Mo_corrupt Y = some (gR.i (b2i (cor A)), Y) := fun g Y hY => z_corrupt hY hI.2.1.1 (VL_of hI) (hI.2.2.2.2.1.1.1 g).1 (hI.2.2.2.2.1.1.1 g).2
      by_cases d : a = 0 ∧ ¬ aS A 20 ≤ 0 ∧ cor A = true
      · obtain ⟨d1, d2, d3⟩ := d
        have hcc := C_corrupt hC hI
        refine LI_ref (p := 3) (e := 4) (v := 0) (by omega) hM hC hI h0 hK ?_ (fun Y hY hY0 => ?_)
        · unfold f_Lw_open f_Le_open
          rw [C_rangeV c1 c2, gCvt_v, cS_18 hC.1, if_pos o, if_pos d1, hcc, gCi_i, if_neg (by simp [d2, d3, b2i]), gCit_t, if_neg (by decide), if_neg (by decide), if_pos rfl, if_pos lim]
          rfl
        · show f_Mo_open Y a = _
          rw [g57 Y hY hY0, if_pos d1, if_neg d2, zc d2 Y hY, gCi_i, d3, if_neg (by decide)]
          unfold f_Mo_open_58 f_Mo_open_65
          rw [s_wrong1 hY0 (by decide), gCi_i, if_neg (by decide), z_done_124_4 (w_same rfl), gCi_i]
      · obtain ⟨Y, y1, y2, y3⟩ := C_open (a := a) hC hI1 o hk
        have hMY : RM (Y.w 116 0 (Y.I 8 4)) A := RM_frC hM (y3.w (by omega))
        have e0 : (Y.w 116 0 (Y.I 8 4)).I 46 0 = 0 := by rw [gX.w_ne (by decide), y3.1 46 (by omega)]; exact h0
        obtain ⟨U, u1, u2, u3⟩ := z_open58 (a := a) hMY hI1 o e0
        have hp := Pre_tdy (Mid0_op (a := a) hI1 o)
        have hiF := Inv_tf hp
        have o' : ¬ aS (aTf (aTdy (aOp A a))) 18 = 0 := by
          unfold aTf
          by_cases c9 : aS (aTdy (aOp A a)) 14 = 0
          · rw [if_pos c9]; show ¬ (1 : Int32) = 0; decide
          · rw [if_neg c9]; show ¬ (1 : Int32) = 0; decide
        have hCV := (RC_W y2).1.1 o'
        have e84 : Y.I 8 4 = nI (aV (aTdy (aOp A a)) 54).1.length := by
          rw [hCV.1]
          unfold aTf
          by_cases c9 : aS (aTdy (aOp A a)) 14 = 0
          · rw [if_pos c9]
          · rw [if_neg c9]
        rw [← e84] at u1
        refine LI_ok (X := X) (Y := X) (Y0 := Y) ?_ y2 (Z := U) ?_ u2 u3 hiF (KK_tf (KK_tdy (KK_op hI o)))
        · have hcc := C_corrupt hC hI
          unfold f_Lw_open f_Le_open
          rw [C_rangeV c1 c2, gCvt_v, cS_18 hC.1, if_pos o]
          by_cases d1 : a = 0
          · have : (!decide (aS A 20 ≤ 0) && cor A) = false := by
              by_cases d2 : aS A 20 ≤ 0
              · simp [d2]
              · cases d3 : cor A with
                | false => simp
                | true => exact absurd ⟨d1, d2, d3⟩ d
            rw [if_pos d1, hcc, gCi_i, this, if_pos b2i_f, y1, gCit_i, gB_b]
          · rw [if_neg d1, y1, gCit_i, gB_b]
        · show f_Mo_open _ a = _
          rw [g57 _ hMY e0]
          unfold f_Mo_open_57
          by_cases d1 : a = 0
          · rw [if_pos d1]
            by_cases d2 : aS A 20 ≤ 0
            · rw [if_pos d2, u1]
            · have d3 : cor A = false := by
                cases d3 : cor A with
                | false => rfl
                | true => exact absurd ⟨d1, d2, d3⟩ d
              rw [if_neg d2, zc d2 _ hMY, gCi_i, d3, if_pos b2i_f, u1]
          · rw [if_neg d1, u1]
    · have o1 : aS A 18 = 1 := hI.1.2.2.2.1.resolve_left o
      refine LI_ref (p := 2) (e := 2) (v := 0) (by omega) hM hC hI h0 hK ?_ (fun Y hY hY0 => ?_)
      · unfold f_Lw_open f_Le_open
        rw [C_rangeV c1 c2, gCvt_v, cS_18 hC.1, if_neg o, gCit_t, if_neg (by decide), if_pos rfl, if_pos lim]
        rfl
      · show f_Mo_open Y a = _
        rw [h15]
        unfold f_Mo_open_15 f_Mo_open_65
        rw [s_wrong0 hY0, gCi_i, if_pos rfl, RM_S hY 18 (by decide) (by decide) (by decide), o1, s_wrong1 hY0 (by decide), gCi_i, if_neg (by decide), z_done_124_2 (w_same rfl), gCi_i]
