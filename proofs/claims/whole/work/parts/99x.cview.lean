/-! THE PURE SIDE: the class's views -/
theorem n4096_ge {k : Nat} (h : k < 4096) : ¬ (4096 : Int32) ≤ nI k := nI_ge (a := k) (b := 4096) h (by omega)
theorem hav_syn {t : List zF} {k : Nat} (h : syn t k = true) : hav t k := by
  unfold syn at h
  obtain ⟨f, h1, h2⟩ := List.any_eq_true.mp h
  simp only [Bool.and_eq_true, decide_eq_true_eq] at h2
  exact ⟨f, h1, h2.1⟩
theorem cT_at {X : gX} {T : List zF} {nm : Nat → Nat} {H : zH} {k : Nat} (h : cT X T nm H) (hb : TB T) (hk : hav T k) : gFile X.N (nm k) = true ∧ X.I (nm k) 0 = nI k ∧ X.I (nm k) 1 = b2i (syn T k) ∧ X.I (nm k) 2 = b2i (hrm T k) ∧ X.I (nm k) 4 = nI (gTl H k) ∧ X.I (nm k) 5 = nI (gSt H k) ∧ X.I (nm k) 6 = nI (gEn H k) := by
  obtain ⟨Z, h1, h2, h3, h4, h5⟩ := h
  obtain ⟨i, f, e1, rfl⟩ := hav_at hk
  obtain ⟨c1, c2, c3, c4, c5, c6⟩ := h5 f (vs_mem e1)
  rw [syn_at hb e1, hrm_at hb e1]
  exact ⟨h4.2.1 _ (List.mem_append_left _ (List.mem_map.mpr ⟨f, vs_mem e1, rfl⟩)), c1, c2, c3, c4, c5, c6⟩
theorem cT_inj {X : gX} {T : List zF} {nm : Nat → Nat} {H : zH} {k l : Nat} (h : cT X T nm H) (hk : hav T k) (hl : hav T l) (e : nm k = nm l) : k = l := by
  obtain ⟨Z, h1, h2, h3, h4, h5⟩ := h
  obtain ⟨f, f1, rfl⟩ := hk
  obtain ⟨g, g1, rfl⟩ := hl
  have hn := (List.nodup_append.mp h4.1).1
  obtain ⟨i, hi⟩ := List.getElem?_of_mem f1
  obtain ⟨j, hj⟩ := List.getElem?_of_mem g1
  have ei : (T.map (fun f => nm f.1))[i]? = some (nm f.1) := by rw [List.getElem?_map, hi]; rfl
  have ej : (T.map (fun f => nm f.1))[j]? = some (nm g.1) := by rw [List.getElem?_map, hj]; rfl
  obtain ⟨i1, i2⟩ := List.getElem?_eq_some_iff.mp ei
  obtain ⟨j1, j2⟩ := List.getElem?_eq_some_iff.mp ej
  have : i = j := by
    rcases Nat.lt_trichotomy i j with c | c | c
    · exact absurd (i2.trans (e.trans j2.symm)) (List.pairwise_iff_getElem.mp hn i j i1 j1 c)
    · exact c
    · exact absurd (j2.trans (e.symm.trans i2.symm)) (List.pairwise_iff_getElem.mp hn j i j1 i1 c)
  subst this
  rw [Option.some.inj (hi.symm.trans hj)]
theorem C_lb {X : gX} {v a z : Nat} {nm : Nat → Nat} {V : zV} (h : CV X v nm V) (ha : a ≤ z) (hz : z ≤ 4096) : f_Vi_liveBetween X v (nI a) (nI z) = some (gR.i (nI (cnt V.2.1 a (z - a))), X) := by
  rw [s_liveBetween ha hz, cnt_eq (q := V.2.1) (z - a) (fun i hi => by
    show decide _ = _
    rw [h.2.2.2 _ (by omega)]
    cases V.2.1 (a + i) <;> decide)]
/-- nothing else is live -/
def WC (H : zH) (d : Nat) (V : zV) : Prop := ∀ e, V.2.1 e = true → e ∈ fl H.1 V.1 ∨ d ≤ e
theorem VC_WC {H : zH} {d : Nat} {V : zV} (h : VC H V) : WC H d V := fun e he => Or.inl (h e he)
theorem fl_mem {D : Nat → List Nat} {l : List zS} {e : Nat} : e ∈ fl D l ↔ ∃ x, x ∈ l ∧ e ∈ D x.1 := by
  unfold fl
  exact List.mem_flatMap
theorem VI_cov {H : zH} {d w : Nat} {V : zV} {x : zS} (h : VI H d w V) (hc : WC H d V) (hx : x ∈ V.1) : ∀ e, gSt H x.1 ≤ e → e < gEn H x.1 → V.2.1 e = true → e ∈ H.1 x.1 := by
  intro e h1 h2 h3
  have hfx := (h.1 x hx).1
  rcases hc e h3 with h4 | h4
  · obtain ⟨y, hy, hy2⟩ := fl_mem.mp h4
    have hfy := (h.1 y hy).1
    have hr := hfy.2.1 e hy2
    obtain ⟨i, hi⟩ := List.getElem?_of_mem hx
    obtain ⟨j, hj⟩ := List.getElem?_of_mem hy
    obtain ⟨i1, i2⟩ := List.getElem?_eq_some_iff.mp hi
    obtain ⟨j1, j2⟩ := List.getElem?_eq_some_iff.mp hj
    have hp := List.pairwise_iff_getElem.mp h.2
    rcases Nat.lt_trichotomy i j with c | c | c
    · have := hp i j i1 j1 c
      rw [i2, j2] at this
      omega
    · subst c
      rw [Option.some.inj (hi.symm.trans hj)]
      exact hy2
    · have := hp j i j1 i1 c
      rw [i2, j2] at this
      omega
  · have := hfx.2.2.2.1
    omega
theorem cnt_seg {H : zH} {d k : Nat} {p : Nat → Bool} (h : FI H d k) (hc : ∀ e, gSt H k ≤ e → e < gEn H k → p e = true → e ∈ H.1 k) : cnt p (gSt H k) (gEn H k - gSt H k) = (H.1 k).countP p := by
  have h0 := h.2.1 _ h.2.2.1
  exact cnt_list h.1 (fun e he => by have := h.2.1 e he; omega) (fun e h1 h2 h3 => hc e h1 (by omega) h3)
theorem C_liveIn {X : gX} {v k d : Nat} {nm : Nat → Nat} {V : zV} {T : List zF} {H : zH} (h : CV X v nm V) (hT : cT X T nm H) (hb : TB T) (hk : hav T k) (hf : FI H d k) (hd : d ≤ 4096) (hc : ∀ e, gSt H k ≤ e → e < gEn H k → V.2.1 e = true → e ∈ H.1 k) : f_Vi_liveIn X v (some (nm k)) = some (gR.i (nI ((H.1 k).countP V.2.1)), X) := by
  obtain ⟨t1, -, -, -, -, t5, t6⟩ := cT_at hT hb hk
  have h0 := hf.2.1 _ hf.2.2.1
  have h1 := hf.2.2.2.1
  unfold f_Vi_liveIn
  simp only [gM_s, t1, if_true, t5, t6]
  rw [C_lb h (by omega) (by omega), cnt_seg hf hc]
  rfl
theorem C_firstLive {X : gX} {v a z e0 : Nat} {nm : Nat → Nat} {V : zV} (h : CV X v nm V) (hz : z ≤ 4096) (h1 : a ≤ e0) (h2 : e0 < z) (h3 : V.2.1 e0 = true) (h4 : ∀ e, a ≤ e → e < e0 → V.2.1 e = false) : f_Vi_firstLive X v (nI a) (nI z) = some (gR.i (nI e0), X) := by
  unfold f_Vi_firstLive
  refine gI_at (fun k => nI (a + k)) (e0 - a) (gK_lt (by omega)) (fun k hk => ?_) ?_ rfl
  · show f_Vi_firstLive_2 X v (nI a) (nI z) (nI (a + k)) = _
    unfold f_Vi_firstLive_2
    rw [if_neg (nI_ge (by omega) (by omega)), if_pos (gIn_nI (by omega) (by omega)), gn_nI (by omega), h.2.2.2 _ (by omega), h4 _ (by omega) (by omega), if_pos b2i_f, nI_1]
    rfl
  · show f_Vi_firstLive_2 X v (nI a) (nI z) (nI (a + (e0 - a))) = _
    unfold f_Vi_firstLive_2
    rw [show a + (e0 - a) = e0 by omega, if_neg (nI_ge (by omega) (by omega)), if_pos (gIn_nI (by omega) (by omega)), gn_nI (by omega), h.2.2.2 _ (by omega), h3, if_neg (by decide)]
    rfl
/-- only the rows of the view v have changed -/
def frV (v : Nat) (X Y : gX) : Prop := (∀ a, a ≠ v → a ≠ v + 3 → Y.I a = X.I a) ∧ (∀ a, a ≠ v + 1 → a ≠ v + 2 → Y.G a = X.G a) ∧ gEq X Y
theorem frV.rf {v : Nat} {X : gX} : frV v X X := ⟨fun _ _ _ => rfl, fun _ _ _ => rfl, gEq.rf⟩
theorem frV.tr {v : Nat} {X Y Z : gX} (h : frV v X Y) (h' : frV v Y Z) : frV v X Z := ⟨fun a h1 h2 => (h'.1 a h1 h2).trans (h.1 a h1 h2), fun a h1 h2 => (h'.2.1 a h1 h2).trans (h.2.1 a h1 h2), h.2.2.tr h'.2.2⟩
theorem frV.w {v a j : Nat} {X Y : gX} {x : Int32} (h : frV v X Y) (ha : a = v ∨ a = v + 3) : frV v X (Y.w a j x) := ⟨fun c h1 h2 => (gX.w_ne (by omega)).trans (h.1 c h1 h2), h.2.1, h.2.2.w⟩
theorem frV.g {v a j : Nat} {X Y : gX} {x : Option Nat} (h : frV v X Y) (ha : a = v + 1 ∨ a = v + 2) : frV v X (Y.g a j x) := ⟨h.1, fun c h1 h2 => (gX.g_ne (by omega)).trans (h.2.1 c h1 h2), h.2.2.g⟩
theorem frV.C {v : Nat} {X Y : gX} (h : frV v X Y) (hv : v < 43) : frC X Y := ⟨fun a ha => h.1 a (by omega) (by omega), h.2.1 121 (by omega) (by omega)⟩
/-- segments and lists of a view -/
def HG (X : gX) (v : Nat) (nm : Nat → Nat) (l : List zS) : Prop := ∀ i x, l[i]? = some x → X.G (v + 1) i = some (nm x.1) ∧ X.G (v + 2) i = x.2.1.map nm
def okN (N : Nat) (nm : Nat → Nat) (l : List zS) : Prop := ∀ x, x ∈ l → gFile N (nm x.1) = true ∧ gOf N (x.2.1.map nm) = true
theorem C_copy {X : gX} {v u : Nat} {nm : Nat → Nat} {V : zV} (hap : v + 3 < u ∨ u + 3 < v) (h : CV X u nm V) (hl : V.1.length ≤ 4096) (ho : okN X.N nm V.1) : ∃ Y, f_Vi_copyFrom X v u = some (gR.v, Y) ∧ CV Y v nm V ∧ frV v X Y := by
  unfold f_Vi_copyFrom
  have f1 : frV v X ((X.w v 4 (X.I u 4)).w v 5 ((X.w v 4 (X.I u 4)).I u 5)) := (frV.rf.w (Or.inl rfl)).w (Or.inl rfl)
  have e4 : ((X.w v 4 (X.I u 4)).w v 5 ((X.w v 4 (X.I u 4)).I u 5)).I v 4 = nI V.1.length := by
    rw [w_oth (Or.inr (by decide)), w_same rfl, h.1]
  have e5 : ((X.w v 4 (X.I u 4)).w v 5 ((X.w v 4 (X.I u 4)).I u 5)).I v 5 = V.2.2.2.1 := by
    rw [w_same rfl, w_oth (Or.inl (by omega)), h.2.1]
  show ∃ Y, gI (fun s : gX × Int32 => f_Vi_copyFrom_18 s.1 v u s.2) gK ((X.w v 4 (X.I u 4)).w v 5 ((X.w v 4 (X.I u 4)).I u 5), (0 : Int32)) = some (gR.v, Y) ∧ _
  generalize (X.w v 4 (X.I u 4)).w v 5 ((X.w v 4 (X.I u 4)).I u 5) = X1 at f1 e4 e5 ⊢
  have hu : ∀ {Z : gX}, frV v X Z → Z.G (u + 1) = X.G (u + 1) ∧ Z.G (u + 2) = X.G (u + 2) ∧ Z.I (u + 3) = X.I (u + 3) := fun q => ⟨q.2.1 _ (by omega) (by omega), q.2.1 _ (by omega) (by omega), q.1 _ (by omega) (by omega)⟩
  have key := gI_inv (body := fun s : gX × Int32 => f_Vi_copyFrom_18 s.1 v u s.2) (fun k s => ∃ Z, s = (Z, nI k) ∧ frV v X Z ∧ Z.I v = X1.I v ∧ HG Z v nm (V.1.take k)) (fun r => ∃ Y, r = (gR.v, Y) ∧ CV Y v nm V ∧ frV v X Y) V.1.length (by omega) (s0 := (X1, (0 : Int32))) ⟨X1, rfl, f1, rfl, fun i x hx => absurd hx (by simp)⟩ (fun k s hk hI => by
    obtain ⟨Z, rfl, g1, g2, g3⟩ := hI
    show ∃ s', f_Vi_copyFrom_18 Z v u (nI k) = _ ∧ _
    obtain ⟨x, hx⟩ := vs_at hk
    obtain ⟨u1, u2, u3⟩ := hu g1
    obtain ⟨x1, x2⟩ := h.2.2.1 k x hx
    obtain ⟨o1, o2⟩ := ho x (vs_mem hx)
    have hN : Z.N = X.N := g1.2.2.2.2.1
    have j1 : gIn (nI k) 4096 = true := gIn_nI (by omega) (by omega)
    have p1 : gOf Z.N (Z.G (u + 1) k) = true := by rw [u1, x1, hN]; exact o1
    have g4 := g1.g (j := k) (x := Z.G (u + 1) k) (Or.inl rfl : v + 1 = v + 1 ∨ v + 1 = v + 2)
    have p2 : gOf (Z.g (v + 1) k (Z.G (u + 1) k)).N ((Z.g (v + 1) k (Z.G (u + 1) k)).G (u + 2) k) = true := by
      rw [g_oth (Or.inl (by omega)), u2, x2]
      show gOf Z.N _ = true
      rw [hN]; exact o2
    unfold f_Vi_copyFrom_18
    rw [g2, e4, if_neg (nI_ge (by omega) (by omega))]
    simp only [j1, if_true, gn_nI (show k < 2 ^ 31 by omega), p1, p2, gB_b]
    refine ⟨_, rfl, _, by rw [nI_1], g4.g (Or.inr rfl), g2, fun i y hy => ?_⟩
    have hi : i ≤ k := by have := vs_lt hy; rw [List.length_take] at this; omega
    rw [List.getElem?_take, if_pos (by omega)] at hy
    by_cases c : i = k
    · subst c
      have : y = x := Option.some.inj (hy.symm.trans hx)
      subst this
      refine ⟨?_, ?_⟩
      · rw [g_oth (Or.inl (by omega)), g_same rfl, u1, x1]
      · rw [g_same rfl, g_oth (Or.inl (by omega)), u2, x2]
    · obtain ⟨y1, y2⟩ := g3 i y (by rw [List.getElem?_take, if_pos (by omega)]; exact hy)
      refine ⟨?_, ?_⟩
      · rw [g_oth (Or.inl (by omega)), g_oth (Or.inr c), y1]
      · rw [g_oth (Or.inr c), g_oth (Or.inl (by omega)), y2]) (fun s hI => by
    obtain ⟨Z, rfl, g1, g2, g3⟩ := hI
    rw [List.take_length] at g3
    show ∃ r, f_Vi_copyFrom_18 Z v u (nI V.1.length) = _ ∧ _
    unfold f_Vi_copyFrom_18
    rw [g2, e4, if_pos (nI_le (Nat.le_refl _) (by omega))]
    have key2 := gI_inv (body := fun s : gX × Int32 => f_Vi_copyFrom_58 s.1 v u s.2) (fun k s => ∃ W, s = (W, nI k) ∧ frV v X W ∧ W.I v = X1.I v ∧ W.G = Z.G ∧ ∀ e, e < k → W.I (v + 3) e = b2i (V.2.1 e)) (fun r => ∃ Y, r = (gR.v, Y) ∧ CV Y v nm V ∧ frV v X Y) 4096 (by omega) (s0 := (Z, (0 : Int32))) ⟨Z, rfl, g1, g2, rfl, fun e he => absurd he (by omega)⟩ (fun k s hk hI => by
      obtain ⟨W, rfl, w1, w2, w3, w4⟩ := hI
      show ∃ s', f_Vi_copyFrom_58 W v u (nI k) = _ ∧ _
      have j1 : gIn (nI k) 4096 = true := gIn_nI (by omega) (by omega)
      unfold f_Vi_copyFrom_58
      rw [if_neg (n4096_ge hk)]
      simp only [j1, if_true, gn_nI (show k < 2 ^ 31 by omega), gB_b]
      rw [(hu w1).2.2, h.2.2.2 k hk, b2i_nar]
      refine ⟨_, rfl, _, by rw [nI_1], w1.w (Or.inr rfl), ?_, w3, fun e he => ?_⟩
      · rw [gX.w_ne (by omega), w2]
      · by_cases c : e = k
        · subst c
          exact w_same rfl
        · rw [w_oth (Or.inr c)]
          exact w4 e (by omega)) (fun s hI => by
      obtain ⟨W, rfl, w1, w2, w3, w4⟩ := hI
      show ∃ r, f_Vi_copyFrom_58 W v u (nI 4096) = _ ∧ _
      unfold f_Vi_copyFrom_58
      rw [if_pos (by decide)]
      refine ⟨_, rfl, W, rfl, ⟨by rw [w2, e4], by rw [w2, e5], fun i x hx => ?_, w4⟩, w1⟩
      rw [w3]
      exact g3 i x hx)
    obtain ⟨r, k1, k2⟩ := key2
    rw [k1]
    exact ⟨r, rfl, k2⟩)
  obtain ⟨r, k1, Y, rfl, k3⟩ := key
  rw [k1]
  exact ⟨Y, rfl, k3⟩
theorem C_empty {X : gX} {v : Nat} {nm : Nat → Nat} {own : Nat} {u : Int32} : ∃ Y, f_Vi_becomeEmpty X v = some (gR.v, Y) ∧ CV Y v nm ([], fun _ => false, own, 0, u) ∧ frV v X Y := by
  unfold f_Vi_becomeEmpty
  rw [gB_b, gB_b]
  have key := gI_inv (body := fun s : gX × Int32 => f_Vi_becomeEmpty_12 s.1 v s.2) (fun k s => ∃ Z, s = (Z, nI k) ∧ frV v X Z ∧ Z.I v = ((X.w v 4 0).w v 5 0).I v ∧ ∀ e, e < k → Z.I (v + 3) e = 0) (fun r => ∃ Y, r = (gR.v, Y) ∧ CV Y v nm ([], fun _ => false, own, 0, u) ∧ frV v X Y) 4096 (by omega) (s0 := ((X.w v 4 0).w v 5 0, (0 : Int32))) ⟨_, rfl, (frV.rf.w (Or.inl rfl)).w (Or.inl rfl), rfl, fun e he => absurd he (by omega)⟩ (fun k s hk hI => by
    obtain ⟨Z, rfl, g1, g2, g3⟩ := hI
    show ∃ s', f_Vi_becomeEmpty_12 Z v (nI k) = _ ∧ _
    unfold f_Vi_becomeEmpty_12
    rw [if_neg (n4096_ge hk), if_pos (gIn_nI (by omega) (by omega)), gn_nI (by omega), gB_b]
    refine ⟨_, rfl, _, by rw [nI_1], g1.w (Or.inr rfl), ?_, fun e he => ?_⟩
    · rw [gX.w_ne (by omega), g2]
    · by_cases c : e = k
      · exact w_same c
      · rw [w_oth (Or.inr c)]
        exact g3 e (by omega)) (fun s hI => by
    obtain ⟨Z, rfl, g1, g2, g3⟩ := hI
    show ∃ r, f_Vi_becomeEmpty_12 Z v (nI 4096) = _ ∧ _
    unfold f_Vi_becomeEmpty_12
    rw [if_pos (by decide)]
    refine ⟨_, rfl, Z, rfl, ⟨?_, ?_, fun i x hx => absurd hx (by simp), g3⟩, g1⟩
    · rw [g2, w_oth (Or.inr (by decide)), w_same rfl]; rfl
    · rw [g2, w_same rfl])
  obtain ⟨r, k1, Y, rfl, k3⟩ := key
  rw [k1]
  exact ⟨Y, rfl, k3⟩
