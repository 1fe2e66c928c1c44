/-! THE PURE SIDE: the class's merges, dead segments, levels, policy -/
theorem z0_lt {n : Nat} (h0 : 0 < n) (h : n < 2 ^ 31) : (0 : Int32) < nI n := nI_lt (a := 0) h0 h
theorem C_covers {X : gX} {n q a z s : Nat} (hq : gFile X.N q = true) (h5 : X.I q 5 = nI s) (h1 : X.I n 1 = nI a) (h2 : X.I n 2 = nI z) (ha : a ≤ 5000) (hz : z ≤ 5000) (hs : s ≤ 5000) : f_Me_covers X n (some q) = some (gR.i (b2i (decide (a ≤ s ∧ s < z))), X) := by
  unfold f_Me_covers f_Me_covers_26
  rw [gM_s, if_pos hq, h5, h1, h2]
  by_cases c1 : s < a
  · rw [if_pos (nI_lt c1 (by omega)), show decide (a ≤ s ∧ s < z) = false by simp; omega]
    rfl
  · rw [if_neg (nI_nlt (by omega) (by omega)), gM_s, if_pos hq, h5]
    by_cases c2 : z ≤ s
    · rw [if_pos (nI_le c2 (by omega)), show decide (a ≤ s ∧ s < z) = false by simp; omega]
      rfl
    · rw [if_neg (nI_ge (by omega) (by omega)), show decide (a ≤ s ∧ s < z) = true by simp; omega]
      rfl
theorem MI_b {A : zA} {m : zM} (h : MI A m) (hd : dc A ≤ 4096) : m.2.2.1 ≤ 4096 ∧ m.2.2.2 ≤ 4096 ∧ m.1 ≤ gn (aS A 34) := by
  obtain ⟨h1, ⟨h2, h3, h4⟩, h5, h6, ⟨x, h7, h8, -⟩, h9⟩ := h
  have a1 := ((h5 x h7).mpr h8)
  have a2 := h2.2.2.2.1
  omega
/-- what the open writer's view gives -/
def Wr (A : zA) : Prop := dc A ≤ 4096 ∧ TB (aT A) ∧ WV A ∧ WM A ∧ hvV true (aT A) (aV A 54) ∧ aS A 30 = nI (aM A).length ∧ (aM A).length ≤ 4
/-- how many are live in a segment, where only the row of what is live is known -/
theorem C_liveR {X : gX} {v k d : Nat} {nm : Nat → Nat} {L : Nat → Bool} {T : List zF} {H : zH} (h : ∀ e, e < 4096 → X.I (v + 3) e = b2i (L e)) (hT : cT X T nm H) (hb : TB T) (hk : hav T k) (hf : FI H d k) (hd : d ≤ 4096) (hc : ∀ e, gSt H k ≤ e → e < gEn H k → L e = true → e ∈ H.1 k) : f_Vi_liveIn X v (some (nm k)) = some (gR.i (nI ((H.1 k).countP L)), X) := by
  obtain ⟨t1, -, -, -, -, t5, t6⟩ := cT_at hT hb hk
  have h0 := hf.2.1 _ hf.2.2.1
  have h1 := hf.2.2.2.1
  unfold f_Vi_liveIn
  simp only [gM_s, t1, if_true, t5, t6]
  rw [s_liveBetween (by omega) (by omega), cnt_eq (q := L) _ (fun j hj => by
    show decide _ = _
    rw [h _ (by omega)]
    cases L (gSt H k + j) <;> decide), cnt_seg hf hc]
  rfl
theorem C_mergeOf {X : gX} {A : zA} {nm : Nat → Nat} {x : zS} (hT : cT X (aT A) nm (aH A)) (hM : cM X (aM A) nm) (h30 : X.I 0 12 = aS A 30) (hw : Wr A) (hx : x ∈ (aV A 54).1) : f_Le_mergeOf X (some (nm x.1)) = some (gR.i (nI x.2.2), X) := by
  obtain ⟨w1, w2, ⟨w3, w4⟩, ⟨w5, w6, w7⟩, w8, w9, w10⟩ := hw
  obtain ⟨t1, -, -, -, -, t5, -⟩ := cT_at hT w2 (w8 x hx).1
  have hf := (w3.1 x hx).1
  have hst : gSt (aH A) x.1 ≤ 4096 := by
    have a1 := hf.2.1 _ hf.2.2.1
    have a2 := hf.2.2.2.1
    omega
  unfold f_Le_mergeOf
  have hcov : ∀ i m, i < (aM A).length → (aM A)[i]? = some m → ∃ n, X.G 20 i = some n ∧ gMer n = true ∧ X.I n 0 = nI m.1 ∧ f_Me_covers X n (some (nm x.1)) = some (gR.i (b2i (decide (x.2.2 = m.1))), X) := by
    intro i m hi hm
    obtain ⟨n, n1, n2, n3, n4, n5, -⟩ := hM.2 i m (by omega) hm
    have hm' := w5 m (vs_mem hm)
    have hb := MI_b hm' w1
    refine ⟨n, n1, n2, n3, ?_⟩
    rw [C_covers t1 t5 n4 n5 (by omega) (by omega) (by omega)]
    have := hm'.2.2.1 x hx
    rw [decide_eq_decide.mpr this]
  have key := gI_ex (body := fun s : gX × Int32 => f_Le_mergeOf_2 s.1 (some (nm x.1)) s.2) (fun i => (X, nI i)) (fun i => match (aM A)[i]? with | none => false | some m => decide (x.2.2 = m.1)) (fun _ => (gR.i (nI x.2.2), X)) (gR.i 0, X) (aM A).length (by omega) (fun i hi hp => ?_) (fun i hi hp => ?_) ?_ (s0 := (X, 0)) rfl
  · rcases key with ⟨i, hi, hp, -, e⟩ | ⟨hp, e⟩
    · exact e
    · rw [e]
      by_cases c : x.2.2 = 0
      · rw [c]; rfl
      · obtain ⟨m, hm, e2⟩ := w7 x hx c
        obtain ⟨i, hi⟩ := List.getElem?_of_mem hm
        have := hp i (vs_lt hi)
        simp only [hi, e2] at this
        simp at this
  · obtain ⟨m, hm⟩ := vs_at hi
    simp only [hm] at hp
    obtain ⟨n, n1, n2, n3, n4⟩ := hcov i m hi hm
    show f_Le_mergeOf_2 X (some (nm x.1)) (nI i) = _
    unfold f_Le_mergeOf_2
    rw [h30, w9, if_neg (nI_ge (by omega) (by omega)), if_pos (gIn_nI (by omega) (by omega)), gn_nI (by omega), n1, gM_s, if_pos n2, n4, gCi_i, hp, if_pos b2i_f, nI_1]
  · obtain ⟨m, hm⟩ := vs_at hi
    simp only [hm] at hp
    obtain ⟨n, n1, n2, n3, n4⟩ := hcov i m hi hm
    have j1 : gIn (nI i) 4 = true := gIn_nI (by omega) (by omega)
    show f_Le_mergeOf_2 X (some (nm x.1)) (nI i) = _
    unfold f_Le_mergeOf_2
    rw [h30, w9, if_neg (nI_ge (by omega) (by omega)), if_pos j1, gn_nI (by omega), n1, gM_s, if_pos n2, n4, gCi_i, hp, if_neg (by decide), if_pos j1, n1, gM_s, if_pos n2, n3, gLf_s, ← of_decide_eq_true hp]
  · show f_Le_mergeOf_2 X (some (nm x.1)) (nI (aM A).length) = _
    unfold f_Le_mergeOf_2
    rw [h30, w9, if_pos (nI_le (Nat.le_refl _) (by omega)), gLf_s]
theorem C_put {X : gX} {v a : Nat} {m2 m3 : Option Nat} (ha : a < 4096) (h2 : gOf X.N m2 = true) (h3 : gOf X.N m3 = true) : f_Vi_put X v (nI a) m2 m3 = some (gR.v, (X.g (v + 1) a m2).g (v + 2) a m3) := by
  unfold f_Vi_put
  have j1 : gIn (nI a) 4096 = true := gIn_nI ha (by omega)
  rw [if_pos j1, if_pos h2, gB_b, if_pos j1, if_pos (show gOf (X.g (v + 1) (gn (nI a)) m2).N m3 = true from h3), gB_b, gn_nI (by omega)]
abbrev sV1 (A : zA) (n : Nat) (V : zV) : zA := sV A (fun m => if m = n then V else aV A m)
theorem RC_V54 {X Y : gX} {A : zA} {nm : Nat → Nat} {k : Nat} {V : zV} (h : RC X A nm k) (e : frV 8 X Y) (hV : ¬ aS A 18 = 0 → CV Y 8 nm V) : RC Y (sV1 A 54 V) nm k := by
  obtain ⟨q1, q2, q3, q4, q5, q6, q7⟩ := h
  refine ⟨cS_fr q1 (e.1 0 (by omega) (by omega)) (e.1 1 (by omega) (by omega)) (e.1 5 (by omega) (by omega)), ?_, ?_, ?_, ?_, ?_, RR_fr q7 e.2.2⟩
  · intro q
    rw [e.1 0 (by omega) (by omega)]
    exact q2 q
  · unfold cE at q3 ⊢
    rw [e.1 2 (by omega) (by omega), e.1 3 (by omega) (by omega), e.1 4 (by omega) (by omega)]
    exact q3
  · exact cT_fr q4 (by rw [e.1 6 (by omega) (by omega)]) (by rw [e.1 7 (by omega) (by omega)]) (e.2.1 130 (by omega) (by omega)) (e.2.1 131 (by omega) (by omega)) e.2.2 (fun a j ha _ => by rw [e.1 a (by omega) (by omega)])
  · obtain ⟨⟨h1, h2⟩, ⟨c, p, k1, k2, k3, k4, k5⟩, h4⟩ := q5
    obtain ⟨-, -, -, -, v1, v2, v3, v4⟩ := cpq_v k1
    have fr : ∀ v V, 12 ≤ v → v < 43 → CV X v nm V → CV Y v nm V := fun v V a1 a2 q => CV_fr q (e.1 v (by omega) (by omega)) (e.2.1 _ (by omega) (by omega)) (e.2.1 _ (by omega) (by omega)) (e.1 _ (by omega) (by omega))
    refine ⟨⟨hV, ?_⟩, ⟨c, p, k1, ?_, ?_, fun q => ?_, fun q => ?_⟩, fun i hi => ?_⟩
    · rw [e.2.1 8 (by omega) (by omega)]; exact h2
    · rw [e.2.1 0 (by omega) (by omega)]; exact k2
    · rw [e.2.1 0 (by omega) (by omega)]; exact k3
    · rw [e.2.1 c (by omega) (by omega)]
      exact ⟨fr c _ (by omega) (by omega) (k4 q).1, (k4 q).2⟩
    · rw [e.2.1 p (by omega) (by omega)]
      exact ⟨fr p _ (by omega) (by omega) (k5 q).1, (k5 q).2⟩
    · have q := h4 i hi
      show cR Y i nm (if 84 + 8 * i = 54 then V else aV A (84 + 8 * i))
      rw [if_neg (by omega)]
      unfold cR at q ⊢
      rw [e.1 (26 + 5 * i) (by omega) (by omega)]
      rcases q with q | ⟨q1, q2, q3, q4⟩
      · exact Or.inl q
      · exact Or.inr ⟨q1, q2, q3, fr _ _ (by omega) (by omega) q4⟩
  · exact cM_fr q6 (fun a a1 a2 => e.1 a (by omega) (by omega)) (fun a a1 a2 => e.2.1 a (by omega) (by omega))
theorem okN_of {X : gX} {T : List zF} {nm : Nat → Nat} {H : zH} {V : zV} {x : zS} (hT : cT X T nm H) (hb : TB T) (hv : hvV true T V) (hx : x ∈ V.1) : gFile X.N (nm x.1) = true ∧ gOf X.N (x.2.1.map nm) = true := by
  obtain ⟨h1, h2⟩ := hv x hx
  refine ⟨(cT_at hT hb h1).1, ?_⟩
  cases c : x.2.1 with
  | none => rfl
  | some l => exact (cT_at hT hb (h2 rfl l c)).1
/-- a list filtered in place -/
theorem HG_keep {X : gX} {v i : Nat} {nm : Nat → Nat} {l : List zS} {p : zS → Bool} {x : zS} (h : HG X v nm ((l.take i).filter p)) (hx : l[i]? = some x) (hp : p x = true) : HG ((X.g (v + 1) ((l.take i).filter p).length (some (nm x.1))).g (v + 2) ((l.take i).filter p).length (x.2.1.map nm)) v nm ((l.take (i + 1)).filter p) := by
  intro j y hy
  rw [flt_t hx hp] at hy
  by_cases c : j < ((l.take i).filter p).length
  · rw [List.getElem?_append_left c] at hy
    obtain ⟨y1, y2⟩ := h j y hy
    rw [g_oth (Or.inl (by omega)), g_oth (Or.inr (by omega)), g_oth (Or.inr (by omega)), g_oth (Or.inl (by omega))]
    exact ⟨y1, y2⟩
  · have hj := vs_lt hy
    rw [List.length_append] at hj
    simp only [List.length_cons, List.length_nil] at hj
    have hj' : j = ((l.take i).filter p).length := by omega
    rw [List.getElem?_append_right (by omega), hj', Nat.sub_self] at hy
    have hy' : x = y := Option.some.inj hy
    subst hy'
    rw [hj']
    exact ⟨by rw [g_oth (Or.inl (by omega)), g_same rfl], g_same rfl⟩
def aTdy (A : zA) : zA := sV1 A 54 ((aV A 54).1.filter (kp (aD A) (aV A 54)), (aV A 54).2)
theorem C_dropDead {X : gX} {A : zA} {nm : Nat → Nat} {k : Nat} (h : RC X A nm k) (hw : Wr A) (ho : ¬ aS A 18 = 0) (h34 : gn (aS A 34) < 1000000) : ∃ Y, f_Le_dropDeadSegments X = some (gR.v, Y) ∧ RC Y (aTdy A) nm k ∧ frC X Y := by
  have hw' := hw
  obtain ⟨w1, w2, ⟨w3, w4⟩, ⟨w5, w6, w7⟩, w8, w9, w10⟩ := hw
  have hB := (VB_of w3 (by omega)).1
  have hl := hB.1
  have hCV := (RC_W h).1.1 ho
  have hWC : WC (aH A) (dc A - bf A) (aV A 54) := fun e he => (w4 e he).imp id (fun q => q.1)
  unfold f_Le_dropDeadSegments
  have key := gI_inv (body := fun s : gX × Int32 × Int32 => f_Le_dropDeadSegments_4 s.1 s.2.1 s.2.2) (fun i s => ∃ W, s = (W, nI (((aV A 54).1.take i).filter (kp (aD A) (aV A 54))).length, nI i) ∧ frV 8 X W ∧ W.I = X.I ∧ HG W 8 nm (((aV A 54).1.take i).filter (kp (aD A) (aV A 54))) ∧ ∀ j, i ≤ j → W.G 9 j = X.G 9 j ∧ W.G 10 j = X.G 10 j) (fun r => ∃ Y, r = (gR.v, Y) ∧ RC Y (aTdy A) nm k ∧ frC X Y) (aV A 54).1.length (by omega) (s0 := (X, 0, 0)) ⟨X, rfl, frV.rf, rfl, fun j y hy => absurd hy (by simp), fun _ _ => ⟨rfl, rfl⟩⟩ (fun i s hi hI => by
    obtain ⟨W, rfl, g1, g2, g3, g4⟩ := hI
    show ∃ s', f_Le_dropDeadSegments_4 W (nI (((aV A 54).1.take i).filter (kp (aD A) (aV A 54))).length) (nI i) = _ ∧ _
    obtain ⟨x, hx⟩ := vs_at hi
    have hxm := vs_mem hx
    have hle := flt_le (l := (aV A 54).1) (p := kp (aD A) (aV A 54)) (i := i)
    obtain ⟨x1, x2⟩ := hCV.2.2.1 i x hx
    have gx1 : W.G 9 i = some (nm x.1) := (g4 i (Nat.le_refl _)).1.trans x1
    have gx2 : W.G 10 i = x.2.1.map nm := (g4 i (Nat.le_refl _)).2.trans x2
    have hWT : cT W (aT A) nm (aH A) := cT_fr (RC_T h) (by rw [g2]) (by rw [g2]) (g1.2.1 130 (by omega) (by omega)) (g1.2.1 131 (by omega) (by omega)) g1.2.2 (fun a j _ _ => by rw [g2])
    have hN : W.N = X.N := g1.2.2.2.2.1
    have hv8 : W.I 8 4 = nI (aV A 54).1.length := by rw [g2]; exact hCV.1
    have hlive := C_liveR (X := W) (v := 8) (L := (aV A 54).2.1) (fun e he => by rw [g2]; exact hCV.2.2.2 e he) hWT w2 (w8 x hxm).1 (w3.1 x hxm).1 (by omega) (VI_cov w3 hWC hxm)
    have hmer := C_mergeOf hWT (cM_fr (RC_M h) (fun a _ _ => by rw [g2]) (fun a a1 a2 => g1.2.1 a (by omega) (by omega))) (by rw [g2]; exact cS_30 h.1) hw' hxm
    obtain ⟨o1, o2⟩ := okN_of hWT w2 w8 hxm
    have hcl : (aD A x.1).countP (aV A 54).2.1 ≤ 4096 := by
      have q1 := List.countP_le_length (p := (aV A 54).2.1) (l := aD A x.1)
      have q2 := off_s (D := aD A) hx
      have q3 := off_all (D := aD A) (l := (aV A 54).1) (s := i + 1)
      have q4 : (fl (aD A) (aV A 54).1).length ≤ 4096 := hB.2.1
      omega
    have hm6 := hB.2.2 x hxm
    have j1 : gIn (nI i) 4096 = true := gIn_nI (by omega) (by omega)
    have keep : kp (aD A) (aV A 54) x = true → ∃ s', f_Le_dropDeadSegments_44 W (nI (((aV A 54).1.take i).filter (kp (aD A) (aV A 54))).length) (nI i) (some (nm x.1)) = some (Sum.inl s') ∧ ∃ W, s' = (W, nI (((aV A 54).1.take (i + 1)).filter (kp (aD A) (aV A 54))).length, nI (i + 1)) ∧ frV 8 X W ∧ W.I = X.I ∧ HG W 8 nm (((aV A 54).1.take (i + 1)).filter (kp (aD A) (aV A 54))) ∧ ∀ j, i + 1 ≤ j → W.G 9 j = X.G 9 j ∧ W.G 10 j = X.G 10 j := by
      intro hkp
      unfold f_Le_dropDeadSegments_44
      rw [if_pos j1, gn_nI (by omega), gx2, C_put (v := 8) (a := (((aV A 54).1.take i).filter (kp (aD A) (aV A 54))).length) (by omega) (show gOf W.N (some (nm x.1)) = true from o1) o2, gCv_v]
      refine ⟨_, rfl, _, ?_, (g1.g (Or.inl rfl)).g (Or.inr rfl), g2, HG_keep g3 hx hkp, fun j hj => ?_⟩
      · rw [nI_1, nI_1, flt_t hx hkp, List.length_append]
        rfl
      · rw [g_oth (Or.inl (by omega)), g_oth (Or.inr (by omega)), g_oth (Or.inr (by omega)), g_oth (Or.inl (by omega))]
        exact g4 j (by omega)
    unfold f_Le_dropDeadSegments_4
    rw [hv8, if_neg (nI_ge (by omega) (by omega)), if_pos j1, gn_nI (by omega), gx1, hlive, gCi_i]
    by_cases c : (aD A x.1).countP (aV A 54).2.1 = 0
    · rw [if_neg (show ¬ (0 : Int32) < nI ((aD A x.1).countP (aV A 54).2.1) by rw [c]; decide), hmer, gCi_i]
      by_cases c2 : x.2.2 = 0
      · rw [if_pos (by rw [c2]; rfl)]
        have hkp : kp (aD A) (aV A 54) x = false := by simp [kp, c, c2]
        refine ⟨_, rfl, W, ?_, g1, g2, ?_, fun j hj => g4 j (by omega)⟩
        · rw [nI_1, flt_f hx hkp]
        · rw [flt_f hx hkp]; exact g3
      · rw [if_neg (nI_ne0 (by omega) (by omega))]
        exact keep (by simp [kp, c2])
    · rw [if_pos (z0_lt (show 0 < (aD A x.1).countP (aV A 54).2.1 by omega) (by omega))]
      exact keep (by simp only [kp, c]; simp)) (fun s hI => by
    obtain ⟨W, rfl, g1, g2, g3, g4⟩ := hI
    rw [List.take_length] at g3 ⊢
    show ∃ r, f_Le_dropDeadSegments_4 W (nI ((aV A 54).1.filter (kp (aD A) (aV A 54))).length) (nI (aV A 54).1.length) = _ ∧ _
    have hv8 : W.I 8 4 = nI (aV A 54).1.length := by rw [g2]; exact hCV.1
    unfold f_Le_dropDeadSegments_4
    rw [hv8, if_pos (nI_le (Nat.le_refl _) (by omega)), gB_b, gLf_s]
    have g5 : frV 8 X (W.w 8 4 (nI ((aV A 54).1.filter (kp (aD A) (aV A 54))).length)) := g1.w (Or.inl rfl)
    refine ⟨_, rfl, _, rfl, RC_V54 h g5 (fun _ => ⟨w_same rfl, ?_, g3, fun e he => ?_⟩), g5.C (by omega)⟩
    · rw [w_oth (Or.inr (by decide)), g2]; exact hCV.2.1
    · rw [w_oth (Or.inl (by decide)), g2]; exact hCV.2.2.2 e he)
  obtain ⟨r, k1, Y, rfl, k3⟩ := key
  rw [k1]
  exact ⟨Y, rfl, k3⟩
/-- a level -/
def LV (g n L : Nat) : Prop := L ≤ 12 ∧ (∀ j, j < L → g ^ (j + 1) ≤ n) ∧ n < g ^ (L + 1)
theorem LV_ex {g n : Nat} (hg : 2 ≤ g) (hn : n ≤ 4096) : ∃ L, LV g n L := by
  have h13 : n < g ^ 13 := Nat.lt_of_lt_of_le (by omega : n < 2 ^ 13) (Nat.pow_le_pow_left hg 13)
  have key : ∀ m, m ≤ 13 → (∃ L, LV g n L) ∨ ∀ j, j < m → g ^ (j + 1) ≤ n := by
    intro m
    induction m with
    | zero => intro _; exact Or.inr (fun j hj => absurd hj (by omega))
    | succ m ih =>
      intro hm
      rcases ih (by omega) with h | h
      · exact Or.inl h
      · by_cases c : g ^ (m + 1) ≤ n
        · refine Or.inr (fun j hj => ?_)
          by_cases c2 : j = m
          · rw [c2]; exact c
          · exact h j (by omega)
        · exact Or.inl ⟨m, by omega, h, by omega⟩
  rcases key 13 (by omega) with h | h
  · exact h
  · have : g ^ 13 ≤ n := h 12 (by omega)
    omega
noncomputable def lev (g n : Nat) : Nat := Classical.epsilon (LV g n)
theorem LV_lev {g n : Nat} (hg : 2 ≤ g) (hn : n ≤ 4096) : LV g n (lev g n) := Classical.epsilon_spec (LV_ex hg hn)
theorem LV_b {g n L j : Nat} (h : LV g n L) (hg : 2 ≤ g) (hg2 : g ≤ 64) (hn : n ≤ 4096) (hj : j ≤ L) : g ^ (j + 1) ≤ 262144 := by
  rw [Nat.pow_succ]
  have h1 : g ^ j ≤ 4096 := by
    cases j with
    | zero => rw [Nat.pow_zero]; omega
    | succ j => exact Nat.le_trans (h.2.1 j (by omega)) hn
  exact Nat.le_trans (Nat.mul_le_mul h1 hg2) (by omega)
theorem C_levelOf {X : gX} {m : Option Nat} {n g : Nat} (h1 : f_Vi_liveIn X 8 m = some (gR.i (nI n), X)) (h2 : X.I 0 11 = nI g) (hg : 2 ≤ g) (hg2 : g ≤ 64) (hn : n ≤ 4096) : f_Le_levelOf X m = some (gR.i (nI (lev g n)), X) := by
  have hL := LV_lev hg hn
  unfold f_Le_levelOf
  rw [h1, gCi_i, h2]
  refine gI_at (fun j => (nI j, nI (g ^ (j + 1)))) (lev g n) (gK_lt (by have := hL.1; omega)) (fun j hj => ?_) ?_ (by rw [Nat.pow_succ, Nat.pow_zero, Nat.one_mul]; rfl)
  · show f_Le_levelOf_17 X (nI n) (nI j) (nI (g ^ (j + 1))) = _
    have hb := LV_b hL hg hg2 hn (Nat.le_of_lt hj)
    have h12 := hL.1
    unfold f_Le_levelOf_17
    rw [if_neg (nI_nlt (hL.2.1 j hj) (by omega)), if_neg (show ¬ (12 : Int32) ≤ nI j from nI_ge (a := j) (b := 12) (by omega) (by omega)), nI_1, h2, pk_mul, ← Nat.pow_succ]
  · show f_Le_levelOf_17 X (nI n) (nI (lev g n)) (nI (g ^ (lev g n + 1))) = _
    have hb := LV_b hL hg hg2 hn (Nat.le_refl _)
    unfold f_Le_levelOf_17 f_Le_levelOf_44
    rw [if_pos (nI_lt hL.2.2 (by omega)), gLf_s]
theorem C_placeSome {X : gX} {A : zA} {nm : Nat → Nat} {i : Nat} {m : zM} {a : Int32} (hM : cM X (aM A) nm) (h30 : X.I 0 12 = nI (aM A).length) (h4 : (aM A).length ≤ 4) (hm : (aM A)[i]? = some m) (ha : nI m.1 = a) (hn : ∀ j m', j < i → (aM A)[j]? = some m' → ¬ nI m'.1 = a) : f_Le_placeOfMerge X a = some (gR.i (nI i), X) := by
  have hi := vs_lt hm
  unfold f_Le_placeOfMerge
  refine gI_at (fun j => nI j) i (gK_lt (by omega)) (fun j hj => ?_) ?_ rfl
  · show f_Le_placeOfMerge_2 X a (nI j) = _
    obtain ⟨m', hm'⟩ := vs_at (l := aM A) (s := j) (by omega)
    obtain ⟨n, n1, n2, n3, -⟩ := hM.2 j m' (by omega) hm'
    unfold f_Le_placeOfMerge_2
    rw [h30, if_neg (nI_ge (by omega) (by omega)), if_pos (gIn_nI (by omega) (by omega)), gn_nI (by omega), n1, gM_s, if_pos n2, n3, if_neg (hn j m' hj hm'), nI_1]
  · show f_Le_placeOfMerge_2 X a (nI i) = _
    obtain ⟨n, n1, n2, n3, -⟩ := hM.2 i m (by omega) hm
    unfold f_Le_placeOfMerge_2
    rw [h30, if_neg (nI_ge (by omega) (by omega)), if_pos (gIn_nI (by omega) (by omega)), gn_nI (by omega), n1, gM_s, if_pos n2, n3, if_pos ha, gLf_s]
theorem C_placeNone {X : gX} {A : zA} {nm : Nat → Nat} {a : Int32} (hM : cM X (aM A) nm) (h30 : X.I 0 12 = nI (aM A).length) (h4 : (aM A).length ≤ 4) (hn : ∀ m', m' ∈ aM A → ¬ nI m'.1 = a) : f_Le_placeOfMerge X a = some (gR.i (-1), X) := by
  unfold f_Le_placeOfMerge
  refine gI_at (fun j => nI j) (aM A).length (gK_lt (by omega)) (fun j hj => ?_) ?_ rfl
  · show f_Le_placeOfMerge_2 X a (nI j) = _
    obtain ⟨m', hm'⟩ := vs_at hj
    obtain ⟨n, n1, n2, n3, -⟩ := hM.2 j m' (by omega) hm'
    unfold f_Le_placeOfMerge_2
    rw [h30, if_neg (nI_ge (by omega) (by omega)), if_pos (gIn_nI (by omega) (by omega)), gn_nI (by omega), n1, gM_s, if_pos n2, n3, if_neg (hn m' (vs_mem hm')), nI_1]
  · show f_Le_placeOfMerge_2 X a (nI (aM A).length) = _
    unfold f_Le_placeOfMerge_2
    rw [h30, if_pos (nI_le (Nat.le_refl _) (by omega)), gLf_s]
