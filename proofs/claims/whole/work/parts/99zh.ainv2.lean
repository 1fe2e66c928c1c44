/-! THE PURE SIDE: what always holds: power lost, a flush -/
theorem syn_flt {t : List zF} {k : Nat} (h : syn t k = true) : syn (t.filter (fun f => f.2.1)) k = true := by
  unfold syn at h ⊢
  obtain ⟨f, h1, h2⟩ := List.any_eq_true.mp h
  refine List.any_eq_true.mpr ⟨f, List.mem_filter.mpr ⟨h1, ?_⟩, h2⟩
  simp only [Bool.and_eq_true] at h2
  exact h2.2
theorem SY_hv {t : List zF} {V : zV} (h : SY t V) : hvV true t V ∧ hav t V.2.2.1 := by
  refine ⟨fun x hx => ⟨hav_syn (h x.1 ?_), fun _ k hk => hav_syn (h k ?_)⟩, hav_syn (h V.2.2.1 (by simp))⟩
  · rw [Bool.or_eq_true]
    left
    unfold inV
    exact List.any_eq_true.mpr ⟨x, hx, by simp⟩
  · rw [Bool.or_eq_true]
    left
    unfold inV
    exact List.any_eq_true.mpr ⟨x, hx, by simp [hk]⟩
theorem J1_mono {A : zA} {k k' : Nat} (h : J1 A k) (hk : k ≤ k') : J1 A k' := by
  obtain ⟨⟨a1, a2, a3, a4⟩, ⟨b1, ⟨b2, b2'⟩, ⟨b3, b3'⟩, b4, b4'⟩, c⟩ := h
  exact ⟨⟨a1, a2, a3, by omega⟩, ⟨b1, ⟨b2, by omega⟩, ⟨b3, by omega⟩, b4, by omega⟩, c⟩
theorem J6_mono {A : zA} {k k' : Nat} (h : J6 A k) (hk : k ≤ k') : J6 A k' := by
  refine ⟨h.1, h.2.1, h.2.2.1, fun i hi => ?_⟩
  have := h.2.2.2 i hi
  exact ⟨this.1, by omega⟩
theorem J6E_mono {E : List Nat} {A : zA} {k k' : Nat} (h : J6E E A k) (hk : k ≤ k') : J6E E A k' := by
  refine ⟨h.1, h.2.1, h.2.2.1, fun i hi => ?_⟩
  have := h.2.2.2 i hi
  exact ⟨this.1, by omega⟩
theorem Inv_mono {A : zA} {k k' : Nat} (h : Inv A k) (hk : k ≤ k') : Inv A k' := ⟨J1_mono h.1 hk, h.2.1, h.2.2.1, h.2.2.2.1, h.2.2.2.2.1, J6_mono h.2.2.2.2.2 hk⟩
theorem Mid_mono {E : List Nat} {A : zA} {k k' i : Nat} (h : MidE E A k i) (hk : k ≤ k') : MidE E A k' i := ⟨h.1, J1_mono h.2.1 hk, h.2.2.1, h.2.2.2.1, h.2.2.2.2.1, h.2.2.2.2.2.1, J6E_mono h.2.2.2.2.2.2 hk⟩
theorem Inv_lose {A : zA} {k : Nat} (h1 : J1 A k) (hb : TB (aT A)) (hf : ∀ f, f ∈ aT A → f.1 < wr A) (hl : ((aT A).filter (fun f => f.2.1)).length ≤ 41000) (h3 : J3 A) (hs : ¬ aS A 20 ≤ 0 → SY (aT A) (aV A 62)) : Inv (aLose A) k := by
  obtain ⟨⟨a1, a2, a3⟩, ⟨b1, b2, b3, b4⟩, c1, c2⟩ := h1
  refine ⟨⟨⟨a1, a2, a3⟩, ⟨b1, b2, b3, b4⟩, ⟨rfl, by show 0 ≤ 4; omega⟩, ⟨Or.inl rfl, Or.inl rfl, Or.inr rfl⟩⟩, ⟨TB_sub hb List.filter_sublist, fun f hf' => hf f (List.mem_filter.mp hf').1, hl⟩, fun n hn hn' => ?_, fun q => absurd rfl q, ⟨⟨fun q => ?_, fun q => absurd rfl q, fun q => absurd rfl q, fun m hm => absurd hm (by show ¬ m ∈ ([] : List zM); simp), fun i hi q => ?_⟩, fun q k hk => syn_flt (hs q k hk), fun q => absurd rfl q⟩, ⟨fun _ => ⟨rfl, rfl⟩, fun _ => rfl, fun q => absurd q (by show ¬ (1 : Int32) = 0; decide), fun i hi => ?_⟩⟩
  · have := h3 n hn hn'
    show VI (aH A) (dc A) (wr A) (if 84 ≤ n then v0 (aV A n) else aV A n) ∧ VC (aH A) (if 84 ≤ n then v0 (aV A n) else aV A n)
    by_cases c : 84 ≤ n
    · rw [if_pos c]; exact this
    · rw [if_neg c]; exact this
  · have h9 : SY ((aT A).filter (fun f => f.2.1)) (aV A 62) := fun k hk => syn_flt (hs q k hk)
    exact SY_hv h9
  · refine absurd ?_ q
    show (if 84 ≤ 84 + 8 * i then v0 (aV A (84 + 8 * i)) else aV A (84 + 8 * i)).2.2.2.2 ≤ 0
    rw [if_pos (by omega)]
    exact (by decide : (0 : Int32) ≤ 0)
  · show (if 84 ≤ 84 + 8 * i then v0 (aV A (84 + 8 * i)) else aV A (84 + 8 * i)).2.2.2.2 = nI (gn (if 84 ≤ 84 + 8 * i then v0 (aV A (84 + 8 * i)) else aV A (84 + 8 * i)).2.2.2.2) ∧ gn (if 84 ≤ 84 + 8 * i then v0 (aV A (84 + 8 * i)) else aV A (84 + 8 * i)).2.2.2.2 ≤ k
    rw [if_pos (by omega)]
    exact ⟨rfl, Nat.zero_le _⟩
theorem Mid_lose {A : zA} {k i : Nat} (h : Mid A k i) : Inv (aLose A) k := by
  obtain ⟨ho, h1, h2, h3, -, h5, h6⟩ := h
  exact Inv_lose h1 h2.1 h2.2.1 (Nat.le_trans (List.length_filter_le _ _) h2.2.2.1) h3 h5.2.1
theorem cnt_0i {p : Nat → Bool} {s : Nat} : ∀ n, cnt p s n = 0 → ∀ i, i < n → p (s + i) = false
  | 0, _, i, hi => absurd hi (by omega)
  | n + 1, h, i, hi => by
    by_cases c : p (s + n) = true
    · rw [cnt_t c] at h
      omega
    · rw [cnt_f c] at h
      by_cases c2 : i = n
      · rw [c2]; exact Bool.not_eq_true _ ▸ c
      · exact cnt_0i n h i (by omega)
theorem cnt_rng {p : Nat → Bool} {s n : Nat} : cnt p s n = (List.range' s n).countP p := cnt_list List.pairwise_lt_range' (fun d hd => by have := List.mem_range'_1.mp hd; omega) (fun e h1 h2 _ => List.mem_range'_1.mpr (by omega))
theorem MI_d {A A' : zA} {m : zM} (h : MI A m) (e34 : aS A' 34 = aS A 34) (eH : aH A' = aH A) (eV : aV A' 54 = aV A 54) (ew : wr A' = wr A) (ed : dc A - bf A ≤ dc A' - bf A') : MI A' m := by
  obtain ⟨h1, ⟨h2, h3, h4⟩, h5⟩ := h
  have h5' : (∀ x, x ∈ (aV A' 54).1 → ((m.2.2.1 ≤ gSt (aH A') x.1 ∧ gSt (aH A') x.1 < m.2.2.2) ↔ x.2.2 = m.1)) ∧ (∀ x, x ∈ (aV A' 54).1 → x.2.2 = m.1 → gEn (aH A') x.1 ≤ m.2.2.2) ∧ (∃ x, x ∈ (aV A' 54).1 ∧ x.2.2 = m.1 ∧ gSt (aH A') x.1 = m.2.2.1) ∧ (∀ e, e ∈ (aH A').1 m.2.1 → ∃ x, x ∈ (aV A' 54).1 ∧ x.2.2 = m.1 ∧ e ∈ (aH A').1 x.1) ∧ ∀ e, m.2.2.1 ≤ e → e < m.2.2.2 → (aV A' 54).2.1 e = true → e ∈ (aH A').1 m.2.1 := by
    rw [eH, eV]
    exact h5
  refine ⟨by rw [e34]; exact h1, ⟨?_, by rw [ew]; exact h3, by rw [eH]; exact h4⟩, h5'⟩
  rw [eH]
  obtain ⟨f1, f2, f3, f4, f5⟩ := h2
  exact ⟨f1, f2, f3, by omega, f5⟩
theorem Mid_fl0 {E : List Nat} {A : zA} {k i : Nat} (h : MidE E A k i) (hs : flS A = false) : MidE E (aFl0 A) k i := by
  obtain ⟨ho, h1, h2, h3, ⟨⟨a1, a1'⟩, a2, ⟨a3, a3', a3''⟩, a4⟩, h5, h6⟩ := h
  obtain ⟨⟨⟨p1, p1'⟩, ⟨p2, p2'⟩, p3⟩, q1⟩ := h1
  have hz : cnt (aV A 54).2.1 (dc A - bf A) (bf A) = 0 := by
    unfold flS at hs
    rw [decide_eq_false_iff_not] at hs
    omega
  have hb0 : bf (aFl0 A) = 0 := rfl
  have hd0 : dc (aFl0 A) = dc A := rfl
  refine ⟨ho, ⟨⟨⟨p1, p1'⟩, ⟨rfl, Nat.zero_le _⟩, p3⟩, q1⟩, h2, h3, ⟨⟨?_, fun e he => ?_⟩, a2, ⟨fun m hm => MI_d (a3 m hm) rfl rfl rfl rfl (by rw [hb0, hd0]; omega), a3', a3''⟩, a4⟩, h5, h6⟩
  · rw [hb0, hd0]
    exact VI_mono a1 (by omega)
  · rcases a1' e he with q | ⟨q, q'⟩
    · exact Or.inl q
    · have := cnt_0i _ hz (e - (dc A - bf A)) (by omega)
      rw [show dc A - bf A + (e - (dc A - bf A)) = e by omega] at this
      have he' : (aV A 54).2.1 e = true := he
      rw [this] at he'
      cases he'
/-- what a new file leaves: the other versions -/
theorem J3_new {A A' : zA} {D : List Nat} {L : Nat → Bool} {tl st en : Nat} (h : J3 A) (ed : dc A' = dc A) (ew : wr A' = wr A + 1) (eH : aH A' = hU (aH A) (wr A) D L tl st en) (eV : ∀ n, n ≠ 54 → aV A' n = aV A n) : J3 A' := by
  intro n hn hn'
  obtain ⟨h1, h2⟩ := h n hn hn'
  rw [ed, ew, eH, eV n hn']
  exact ⟨VI_U h1, VC_U h2 h1⟩
theorem J5_new {A A' : zA} {w : Nat} (h : J5 A) (e18 : aS A' 18 = aS A 18) (e19 : aS A' 19 = aS A 19) (e20 : aS A' 20 = aS A 20) (eT : aT A' = aT A ++ [(w, false, false)]) (eV : ∀ n, n ≠ 54 → aV A' n = aV A n) (h54 : ¬ aS A 18 = 0 → hvV true (aT A') (aV A' 54)) (hM : ∀ m, m ∈ aM A' → hav (aT A') m.2.1) : J5 A' := by
  have hh : ∀ b V, hvV b (aT A) V → hvV b (aT A') V := fun b V q x hx => by
    rw [eT]
    exact ⟨hav_app (q x hx).1, fun q1 k hk => hav_app ((q x hx).2 q1 k hk)⟩
  obtain ⟨⟨a1, a2, a3, a4, a5⟩, b1, b2⟩ := h
  refine ⟨⟨fun q => ?_, fun q => ?_, fun q => h54 (by rw [← e18]; exact q), hM, fun i hi q => ?_⟩, fun q => ?_, fun q => ?_⟩
  · rw [eV 62 (by decide)]
    obtain ⟨c1, c2⟩ := a1 (by rw [← e20]; exact q)
    exact ⟨hh _ _ c1, by rw [eT]; exact hav_app c2⟩
  · rw [eV 70 (by decide)]
    obtain ⟨c1, c2⟩ := a2 (by rw [← e19]; exact q)
    exact ⟨hh _ _ c1, by rw [eT]; exact hav_app c2⟩
  · rw [eV (84 + 8 * i) (by omega)] at q ⊢
    exact hh _ _ (a5 i hi q)
  · rw [eV 62 (by decide), eT]
    exact fun k hk => syn_app (b1 (by rw [← e20]; exact q) k hk)
  · rw [eV 70 (by decide), eT]
    exact fun k hk => syn_app (b2 (by rw [← e19]; exact q) k hk)
/-- needed by the writer, as before by others -/
theorem ndd_new {A A' : zA} {k : Nat} (h : ndd A k = true) (ho : ¬ aS A 18 = 0) (e18 : aS A' 18 = aS A 18) (e19 : aS A' 19 = aS A 19) (e20 : aS A' 20 = aS A 20) (eV : ∀ n, n ≠ 54 → aV A' n = aV A n) (h54 : inV true (aV A 54).1 k = true → ndd A' k = true) (hM : nd4 (aM A) k = true → nd4 (aM A') k = true) : ndd A' k = true := by
  have h5 : nd5 A' 4 k = nd5 A 4 k := by
    unfold nd5
    congr 1
    funext i
    rw [eV (84 + 8 * i) (by omega)]
  have h1 : nd1 A' k = nd1 A k := by
    unfold nd1
    rw [eV 62 (by decide), e20]
  have h2 : nd2 A' k = nd2 A k := by
    unfold nd2
    rw [eV 70 (by decide), e19]
  unfold ndd at h
  simp only [Bool.or_eq_true] at h
  rcases h with (((q | q) | q) | q) | q
  · unfold ndd; rw [h1, q]; simp
  · unfold ndd; rw [h2, q]; simp
  · unfold nd3 at q
    simp only [Bool.and_eq_true] at q
    exact h54 q.2
  · unfold ndd; rw [hM q]; simp
  · unfold ndd; rw [h5, q]; simp
theorem nd3_t {A : zA} {k : Nat} (ho : ¬ aS A 18 = 0) (h : inV true (aV A 54).1 k = true) : ndd A k = true := by
  unfold ndd nd3
  rw [h]
  simp [ho]
theorem inV_app {b : Bool} {l m : List zS} {k : Nat} : inV b (l ++ m) k = (inV b l k || inV b m k) := by
  unfold inV
  rw [List.any_append]
theorem Mid_fl {E : List Nat} {A : zA} {k i : Nat} (h : MidE E A k i) (hs : flS A = true) (hw : wr A + 1 ≤ 10000 * k) (hk : k ≤ 600) : MidE E (aFl A) k i := by
  have hM := h
  obtain ⟨ho, h1, ⟨h2, h2', h2''⟩, h3, ⟨⟨a1, a1'⟩, a2, ⟨a3, a3', a3''⟩, a4⟩, h5, h6⟩ := h
  obtain ⟨⟨⟨p1, p1'⟩, ⟨p2, p2'⟩, ⟨p3, p3'⟩⟩, ⟨q1, q2, q3, q4⟩, r1, s1⟩ := h1
  have hz : 0 < cnt (aV A 54).2.1 (dc A - bf A) (bf A) := of_decide_eq_true hs
  have hbf : 0 < bf A := by have := cnt_le (p := (aV A 54).2.1) (s := dc A - bf A) (bf A); omega
  have eS : ∀ j, j ≠ 11 → j ≠ 12 → j ≠ 13 → j ≠ 23 → aS (aFl A) j = aS A j := fun j j1 j2 j3 j4 => by
    show upd (upd (aS (aActd A)) 11 (aS (aActd A) 11 + 1)) 23 0 j = _
    rw [upd_at, if_neg j4, upd_at, if_neg j1]
    exact aActd_S j2 j3
  have e11 : aS (aFl A) 11 = nI (wr A + 1) := by
    show upd (upd (aS (aActd A)) 11 (aS (aActd A) 11 + 1)) 23 0 11 = _
    rw [upd_at, if_neg (by decide), upd_at, if_pos rfl, aActd_S (by decide) (by decide), p3, nI_1]
  have ew : wr (aFl A) = wr A + 1 := by
    show gn (aS (aFl A) 11) = _
    rw [e11, gn_nI (by omega)]
  have eb : bf (aFl A) = 0 := rfl
  have ed : dc (aFl A) = dc A := congrArg gn (eS 5 (by decide) (by decide) (by decide) (by decide))
  have eH : aH (aFl A) = hU (aH A) (wr A) (List.range' (dc A - bf A) (bf A)) (fun _ => true) (bf A) (dc A - bf A) (dc A) := rfl
  have eV : ∀ n, n ≠ 54 → aV (aFl A) n = aV A n := fun n hn => if_neg hn
  have e54 : aV (aFl A) 54 = ((aV A 54).1 ++ [(wr A, none, 0)], (aV A 54).2) := rfl
  have eM : aM (aFl A) = aM A := rfl
  have eT : aT (aFl A) = aT A ++ [(wr A, false, false)] := by
    show aT A ++ [(gn (aS (aActd A) 11), false, false)] = _
    rw [aActd_S (by decide) (by decide)]
  obtain ⟨u1, u2, u3, u4, u5⟩ := hU_w (H := aH A) (w := wr A) (D := List.range' (dc A - bf A) (bf A)) (L := fun _ => true) (tl := bf A) (st := dc A - bf A) (en := dc A)
  have hU' := VI_U (D := List.range' (dc A - bf A) (bf A)) (L := fun _ => true) (tl := bf A) (st := dc A - bf A) (en := dc A) a1
  have hnw : ∀ x, x ∈ (aV A 54).1 → x.1 ≠ wr A := fun x hx => by have := (a1.1 x hx).2.1; omega
  have hFw : FI (aH (aFl A)) (dc A) (wr A) := by
    rw [eH]
    refine ⟨by rw [u1]; exact List.pairwise_lt_range', fun e he => ?_, ?_, by rw [u5]; omega, by rw [u1, u3, List.length_range']⟩
    · rw [u1] at he
      have := List.mem_range'_1.mp he
      rw [u4, u5]
      omega
    · rw [u1, u4]
      exact List.mem_range'_1.mpr (by omega)
  have hV : VI (aH (aFl A)) (dc (aFl A) - bf (aFl A)) (wr (aFl A)) (aV (aFl A) 54) := by
    rw [ed, eb, ew, e54, eH]
    refine ⟨fun x hx => ?_, ?_⟩
    · rcases List.mem_append.mp hx with q | q
      · exact (VI_mono hU' (show dc A - bf A ≤ dc A - 0 by omega)).1 x q
      · rw [List.mem_singleton.mp q]
        refine ⟨by rw [← eH]; exact hFw, by show wr A < wr A + 1; omega, by show 0 < 1000000; omega, fun k hk => absurd hk (by simp)⟩
    · refine List.pairwise_append.mpr ⟨hU'.2, by simp, fun x hx y hy => ?_⟩
      rw [List.mem_singleton.mp hy]
      show gEn _ x.1 ≤ gSt _ (wr A)
      rw [u4]
      exact (hU'.1 x hx).1.2.2.2.1
  have hvn : hvV true (aT (aFl A)) (aV (aFl A) 54) := by
    intro x hx
    rw [eT]
    rw [e54] at hx
    rcases List.mem_append.mp hx with q | q
    · obtain ⟨b1, b2⟩ := h5.1.2.2.1 ho x q
      exact ⟨hav_app b1, fun q1 k hk => hav_app (b2 q1 k hk)⟩
    · rw [List.mem_singleton.mp q]
      exact ⟨⟨(wr A, false, false), by simp, rfl⟩, fun _ k hk => absurd hk (by simp)⟩
  have ho' : ¬ aS (aFl A) 18 = 0 := by rw [eS 18 (by decide) (by decide) (by decide) (by decide)]; exact ho
  have hnd : aS A 14 = 0 → ∀ f, f ∈ aT (aFl A) → ndd (aFl A) f.1 = true ∨ f.1 ∈ E := by
    intro q f hf
    rw [eT] at hf
    rcases List.mem_append.mp hf with q' | q'
    · rcases h6.2.2.1 q f q' with hq | hq
      case inr => exact Or.inr hq
      refine Or.inl (ndd_new hq ho (eS 18 (by decide) (by decide) (by decide) (by decide)) (eS 19 (by decide) (by decide) (by decide) (by decide)) (eS 20 (by decide) (by decide) (by decide) (by decide)) eV (fun q2 => nd3_t ho' ?_) (fun q2 => q2))
      rw [e54]
      show inV true ((aV A 54).1 ++ [(wr A, none, 0)]) f.1 = true
      rw [inV_app, q2, Bool.true_or]
    · refine Or.inl (nd3_t ho' ?_)
      rw [List.mem_singleton.mp q', e54]
      show inV true ((aV A 54).1 ++ [(wr A, none, 0)]) (wr A) = true
      rw [inV_app]
      simp [inV]
  have h14 : aS A 14 = 0 := by
    by_cases c : aS A 14 = 0
    · exact c
    · exact absurd (h6.2.1 c) ho
  have hTB : TB (aT (aFl A)) := by rw [eT]; exact TB_app h2 h2' (by omega) (by omega)
  have J3' : J3 (aFl A) := J3_new h3 ed ew eH eV
  have hlen : ∀ n, gVer n = true → n ≠ 54 → (aV (aFl A) n).1.length ≤ 4096 := fun n hn hn' => (VB_of (J3' n hn hn').1 (by rw [ed]; exact p1')).1.1
  refine ⟨ho', ⟨⟨⟨?_, ?_⟩, ⟨rfl, Nat.zero_le _⟩, ⟨?_, ?_⟩⟩, ⟨?_, ?_, ?_, ?_⟩, ?_, ?_⟩, ⟨hTB, fun f hf => ?_, ?_⟩, J3', ⟨⟨hV, fun e he => ?_⟩, fun x hx => ?_, ⟨fun m hm => ?_, a3', fun x hx hx2 => ?_⟩, ?_⟩, ?_, ?_⟩
  · rw [ed, eS 5 (by decide) (by decide) (by decide) (by decide)]; exact p1
  · rw [ed]; exact p1'
  · rw [ew]; exact e11
  · rw [ew]; exact hw
  · rw [eS 25 (by decide) (by decide) (by decide) (by decide)]; exact q1
  · rw [eS 20 (by decide) (by decide) (by decide) (by decide)]; exact q2
  · rw [eS 34 (by decide) (by decide) (by decide) (by decide)]; exact q3
  · rw [eS 32 (by decide) (by decide) (by decide) (by decide)]; exact q4
  · rw [eS 30 (by decide) (by decide) (by decide) (by decide)]; exact r1
  · rw [eS 18 (by decide) (by decide) (by decide) (by decide), eS 19 (by decide) (by decide) (by decide) (by decide), eS 14 (by decide) (by decide) (by decide) (by decide)]; exact s1
  · rw [ew]
    rw [eT] at hf
    rcases List.mem_append.mp hf with q | q
    · have := h2' f q; omega
    · rw [List.mem_singleton.mp q]; show wr A < wr A + 1; omega
  · exact ⟨need_lenE hTB (hlen 62 rfl (by decide)) (hlen 70 rfl (by decide)) (fun _ => (VB_of hV (by rw [ed, eb]; omega)).1.1) (fun i hi => hlen _ (gVer_r hi) (by omega)) r1.2 (hnd h14), h2''.2⟩
  · left
    show e ∈ fl (aH (aFl A)).1 (aV (aFl A) 54).1
    rw [e54, eH]
    show e ∈ fl _ ((aV A 54).1 ++ [(wr A, none, 0)])
    rw [fl_app, fl_1, fl_U hnw, u1]
    rcases a1' e he with q | q
    · exact List.mem_append_left _ q
    · exact List.mem_append_right _ (List.mem_range'_1.mpr (by omega))
  · rw [e54] at hx ⊢
    rcases List.mem_append.mp hx with q | q
    · have := a2 x q
      unfold kp at this ⊢
      show (!decide (x.2.2 = 0) || !decide (((aH (aFl A)).1 x.1).countP (aV A 54).2.1 = 0)) = true
      rw [eH, (hU_o (hnw x q)).1]
      exact this
    · rw [List.mem_singleton.mp q]
      unfold kp
      show (!decide ((0 : Nat) = 0) || !decide (((aH (aFl A)).1 (wr A)).countP (aV A 54).2.1 = 0)) = true
      rw [eH, u1, ← cnt_rng]
      simp
      omega
  · obtain ⟨m1, ⟨m2, m3, m4⟩, m5, m6, ⟨y, m7, m7'⟩, m8, m9⟩ := a3 m hm
    have hmw : m.2.1 ≠ wr A := by omega
    obtain ⟨t1, t2, t3, t4, t5⟩ := hU_o (H := aH A) (w := wr A) (D := List.range' (dc A - bf A) (bf A)) (L := fun _ => true) (tl := bf A) (st := dc A - bf A) (en := dc A) hmw
    have men := m2.2.2.2.1
    have hD : aD (aFl A) m.2.1 = aD A m.2.1 := by show (aH (aFl A)).1 m.2.1 = _; rw [eH]; exact t1
    refine ⟨by rw [eS 34 (by decide) (by decide) (by decide) (by decide)]; exact m1, ⟨?_, by rw [ew]; omega, by rw [eH, t5]; exact m4⟩, fun x hx => ?_, fun x hx hx2 => ?_, ⟨y, by rw [e54]; exact List.mem_append_left _ m7, m7'.1, by rw [eH, (hU_o (show y.1 ≠ wr A by have := (a1.1 y m7).2.1; omega)).2.2.2.1]; exact m7'.2⟩, fun e he => ?_, fun e e1 e2 e3 => ?_⟩
    · rw [ed, eb, eH]
      obtain ⟨f1, f2, f3, f4, f5⟩ := FI_U (D := List.range' (dc A - bf A) (bf A)) (L := fun _ => true) (tl := bf A) (st := dc A - bf A) (en := dc A) m2 hmw
      exact ⟨f1, f2, f3, by omega, f5⟩
    · rw [e54] at hx
      rcases List.mem_append.mp hx with q | q
      · rw [eH, (hU_o (hnw x q)).2.2.2.1]
        exact m5 x q
      · rw [List.mem_singleton.mp q, eH]
        show (m.2.2.1 ≤ gSt _ (wr A) ∧ gSt _ (wr A) < m.2.2.2) ↔ 0 = m.1
        rw [u4]
        omega
    · rw [e54] at hx
      rcases List.mem_append.mp hx with q | q
      · rw [eH, (hU_o (hnw x q)).2.2.2.2]
        exact m6 x q hx2
      · rw [List.mem_singleton.mp q] at hx2
        have : (0 : Nat) = m.1 := hx2
        omega
    · rw [hD] at he
      obtain ⟨x, x1, x2, x3⟩ := m8 e he
      refine ⟨x, by rw [e54]; exact List.mem_append_left _ x1, x2, ?_⟩
      show e ∈ (aH (aFl A)).1 x.1
      rw [eH, (hU_o (hnw x x1)).1]
      exact x3
    · rw [hD]
      exact m9 e e1 e2 e3
  · rw [e54] at hx
    rcases List.mem_append.mp hx with q | q
    · exact a3'' x q hx2
    · rw [List.mem_singleton.mp q] at hx2
      exact absurd rfl hx2
  · intro j x hj hx k' hk'
    rw [e54] at hx
    rw [eS 19 (by decide) (by decide) (by decide) (by decide), eS 20 (by decide) (by decide) (by decide) (by decide), eV 70 (by decide), eV 62 (by decide)]
    by_cases c : j < (aV A 54).1.length
    · exact a4 j x hj (by rw [← List.getElem?_append_left c]; exact hx) k' hk'
    · have hx' : ((aV A 54).1 ++ [(wr A, none, 0)])[j]? = some x := hx
      rw [List.getElem?_append_right (by omega)] at hx'
      have := List.mem_singleton.mp (vs_mem hx')
      rw [this] at hk'
      cases hk'
  · exact J5_new h5 (eS 18 (by decide) (by decide) (by decide) (by decide)) (eS 19 (by decide) (by decide) (by decide) (by decide)) (eS 20 (by decide) (by decide) (by decide) (by decide)) eT eV (fun _ => hvn) (fun m hm => by rw [eT]; exact hav_app (h5.1.2.2.2.1 m hm))
  · refine ⟨fun q => absurd q ho', fun q => ?_, fun _ => hnd h14, fun i hi => ?_⟩
    · rw [eS 14 (by decide) (by decide) (by decide) (by decide)] at q
      exact absurd h14 q
    · rw [eV (84 + 8 * i) (by omega)]
      exact h6.2.2.2 i hi
