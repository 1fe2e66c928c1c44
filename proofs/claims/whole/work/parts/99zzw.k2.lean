/-! THE PURE SIDE: what of the open writer is synced, call by call -/
theorem KK_ad {A : zA} {key val : Int32} (h : KK A) : KK (aAd A key val) := KK_sub (B := aAd A key val) h (fun q => by rw [← ad_S (A := A) (key := key) (val := val) (j := 18) (by decide) (by decide)]; exact q) (ad_S (by decide) (by decide)) (ad_S (by decide) (by decide)) rfl rfl (fun _ q => q) (fun x hx => ⟨x, hx, rfl, rfl⟩) rfl
theorem KK_adF {key val : Int32} {k : Nat} (hk : k ≤ 600) : ∀ (n i : Nat) (A : zA), Mid A k 0 → dc A + n ≤ 4096 → wr A + n ≤ 10000 * k → KK A → KK (adF key val n i A).2
  | 0, _, A, _, _, _, h => h
  | n + 1, i, A, h, h1, h2, hK => by
    have hm := Mid_ad (key := key + nI i) (val := val) h (by omega)
    have hdc := (ad_dc (key := key + nI i) (val := val) h.2.1).1
    have hw : wr (aAd A (key + nI i) val) = wr A := congrArg gn (ad_S (by decide) (by decide))
    have hKa := KK_ad (key := key + nI i) (val := val) hK
    unfold adF
    by_cases c : nI (bf A + 1) < aS A 24
    · rw [if_pos c]
      exact KK_adF hk n (i + 1) _ hm (by omega) (by omega) hKa
    · rw [if_neg c]
      obtain ⟨f1, f2⟩ := Mid_flR hm hk (by omega)
      have hKf := KK_flR hm hKa
      by_cases c2 : (flR (aAd A (key + nI i) val)).1 = true
      · rw [if_pos c2]
        obtain ⟨g1, g2, g3⟩ := f1 c2
        have hd2 : dc (flR (aAd A (key + nI i) val)).2 = dc (aAd A (key + nI i) val) := congrArg gn (flR_S c2 (by decide) (by decide) (by decide) (by decide))
        exact KK_adF hk n (i + 1) _ g1 (by omega) (by omega) hKf
      · rw [if_neg c2]
        exact hKf
theorem KK_rdr {A : zA} {i : Nat} {V : zV} (hi : i < 4) (h : KK A) : KK (aRdr A i V) := by
  have eV : ∀ n, n < 84 → aV (aRdr A i V) n = aV A n := fun n hn => if_neg (by omega)
  have eS : ∀ j, j ≠ 32 → aS (aRdr A i V) j = aS A j := fun j hj => by
    show upd (aS A) 32 (aS A 32 + 1) j = _
    rw [upd_at, if_neg hj]
  exact KK_sub (B := aRdr A i V) h (fun q => by rw [← eS 18 (by decide)]; exact q) (eS 19 (by decide)) (eS 20 (by decide)) (by rw [eV 70 (by decide)]) (by rw [eV 62 (by decide)]) (fun _ q => q) (fun x hx => by rw [eV 54 (by decide)] at hx; exact ⟨x, hx, rfl, rfl⟩) rfl
theorem KK_rel {A : zA} {i : Nat} (h : KK A) : KK (aRel A i) := by
  have eV : ∀ n, n < 84 → aV (aRel A i) n = aV A n := fun n hn => if_neg (by omega)
  exact KK_sub (B := aRel A i) h id rfl rfl (by rw [eV 70 (by decide)]) (by rw [eV 62 (by decide)]) (fun _ q => q) (fun x hx => by rw [eV 54 (by decide)] at hx; exact ⟨x, hx, rfl, rfl⟩) rfl
theorem KK_op {A : zA} {k : Nat} {a : Int32} (hI : Inv A k) (o : aS A 18 = 0) : KK (aOp A a) := by
  intro _
  have e19 : aS (aOp A a) 19 = 0 := (hI.2.2.2.2.2.1 o).2
  have eM : aM (aOp A a) = [] := (hI.2.2.2.2.2.1 o).1
  refine ⟨fun x hx _ => ?_, fun m hm => ?_, by rw [eM]; exact List.Pairwise.nil⟩
  · have hx' : x ∈ (opV A a).1 := hx
    unfold opV at hx'
    by_cases c : opc A a = true
    · rw [if_pos c] at hx'
      obtain ⟨y, y1, y2⟩ := List.mem_map.mp hx'
      unfold opc at c
      simp only [Bool.and_eq_true, Bool.not_eq_true', decide_eq_false_iff_not] at c
      refine Or.inr ⟨e19, c.2, ?_⟩
      show inV true (aV A 62).1 x.1 = true
      rw [← y2]
      exact inV_seg (x := y) y1
    · rw [if_neg c] at hx'
      cases hx'
  · rw [eM] at hm
    cases hm
theorem KK_mg {A : zA} {k a n : Nat} (hm : Mid A k 0) (h : KK A) : KK (aMg A a n) := by
  intro _
  obtain ⟨h1, h2, h3⟩ := h hm.1
  have p3 := hm.2.1.1.2.2.1
  have hB : nwB A (aNw A (mgD A a n) (fun _ => true) (mgD A a n).length ((mgD A a n).headD 0) (mgZ A a n)) (mgD A a n) (fun _ => true) (mgD A a n).length ((mgD A a n).headD 0) (mgZ A a n) := nwB_of p3
  have cS : ∀ j, j ≠ 30 → j ≠ 34 → j ≠ 11 → j ≠ 12 → j ≠ 13 → aS (aMg A a n) j = aS A j := fun j q1 q2 q3 q4 q5 => by
    have : aS (aMg A a n) j = aS (aNw A (mgD A a n) (fun _ => true) (mgD A a n).length ((mgD A a n).headD 0) (mgZ A a n)) j := by
      show upd (upd _ 34 (aS A 34 + 1)) 30 (aS A 30 + 1) j = _
      rw [upd_at, if_neg q1, upd_at, if_neg q2]
    rw [this, hB.1 j q3 q4 q5]
  have cT : aT (aMg A a n) = aT A ++ [(wr A, false, false)] := hB.2.2.2.2.2
  have cV : ∀ m, m ≠ 54 → aV (aMg A a n) m = aV A m := fun m hm => if_neg hm
  have c54 : (aV (aMg A a n) 54).1 = mkR (aV A 54).1 a n (gn (aS A 34) + 1) := rfl
  have cM : aM (aMg A a n) = aM A ++ [(gn (aS A 34) + 1, wr A, mgS A a, mgZ A a n)] := rfl
  have hNW := NW_mid hm
  refine ⟨fun y hy hy2 => ?_, fun m hm' => ?_, ?_⟩
  · rw [c54] at hy
    obtain ⟨i, x, i1, i2, i3⟩ := mkR_mem hy
    rw [i3, mkR_o.1] at hy2 ⊢
    rw [cT] at hy2
    unfold KW
    rw [cS 19 (by decide) (by decide) (by decide) (by decide) (by decide), cS 20 (by decide) (by decide) (by decide) (by decide) (by decide), cV 70 (by decide), cV 62 (by decide)]
    exact h1 x (vs_mem i1) (syn_apb hy2)
  · rw [cM] at hm'
    rw [cT, c54]
    rcases List.mem_append.mp hm' with r | r
    · refine ⟨syn_nf (fun q => ?_), fun y hy => ?_⟩
      · have := syn_apb q
        rw [(h2 m r).1] at this
        cases this
      · obtain ⟨i, x, i1, i2, i3⟩ := mkR_mem hy
        rw [i3, mkR_o.1, mkR_o.2]
        exact (h2 m r).2 x (vs_mem i1)
    · rw [List.mem_singleton.mp r]
      refine ⟨syn_nw hm.2.2.1.2.1, fun y hy => ?_⟩
      obtain ⟨i, x, i1, i2, i3⟩ := mkR_mem hy
      rw [i3, mkR_o.1, mkR_o.2]
      have q := hNW.1 54 rfl (fun _ => hm.1) x (vs_mem i1)
      refine ⟨?_, fun e => ?_⟩
      · show x.1 ≠ wr A
        omega
      · have := q.2 _ e
        have : wr A < wr A := this
        omega
  · rw [cM, List.pairwise_append]
    refine ⟨h3, by simp, fun m hm1 m' hm2 => ?_⟩
    rw [List.mem_singleton.mp hm2]
    have := hNW.2.2.2 m hm1
    show m.2.1 ≠ wr A
    omega
theorem KK_fn {A : zA} {k j a n : Nat} {m : zM} {b : Bool} (hm : Mid0 A k) (hj : (aM A)[j]? = some m) (h : KK A) : KK (aFn A j (fnV A m a n b)) := by
  intro _
  obtain ⟨h1, h2, h3⟩ := h hm.1
  have m2 := hm.2.2.2.2.1.2.1.2.1
  have eS : ∀ i, i ≠ 30 → aS (aFn A j (fnV A m a n b)) i = aS A i := fun i hi => by
    show upd (aS A) 30 (aS A 30 - 1) i = _
    rw [upd_at, if_neg hi]
  have eV : ∀ v, v ≠ 54 → aV (aFn A j (fnV A m a n b)) v = aV A v := fun v hv => if_neg hv
  have e54 : (aV (aFn A j (fnV A m a n b)) 54).1 = (fnV A m a n b).1 := rfl
  have eM : aM (aFn A j (fnV A m a n b)) = (aM A).eraseIdx j := rfl
  have eT : aT (aFn A j (fnV A m a n b)) = aT A := rfl
  have mem : ∀ y, y ∈ (fnV A m a n b).1 → (∃ x, x ∈ (aV A 54).1 ∧ x.1 = y.1 ∧ x.2.1 = y.2.1) ∨ (y.1 = m.2.1 ∧ y.2.1 = none) := fun y hy => by
    unfold fnV at hy
    cases b with
    | false =>
      rw [if_neg (by decide)] at hy
      obtain ⟨i, x, i1, i2, i3⟩ := mkR_mem hy
      left
      rw [i3]
      exact ⟨x, vs_mem i1, mkR_o.1.symm, mkR_o.2.symm⟩
    | true =>
      rw [if_pos rfl] at hy
      rcases List.mem_append.mp hy with q | q
      · exact Or.inl ⟨y, List.mem_of_mem_take q, rfl, rfl⟩
      · rcases List.mem_cons.mp q with q | q
        · right
          rw [q]
          exact ⟨rfl, rfl⟩
        · exact Or.inl ⟨y, List.mem_of_mem_drop q, rfl, rfl⟩
  refine ⟨fun y hy hy2 => ?_, fun m' hm' => ?_, by rw [eM]; exact h3.sublist (List.eraseIdx_sublist _ _)⟩
  · rw [e54] at hy
    rw [eT] at hy2
    unfold KW
    rw [eS 19 (by decide), eS 20 (by decide), eV 70 (by decide), eV 62 (by decide)]
    rcases mem y hy with ⟨x, x1, x2, x3⟩ | ⟨q, _⟩
    · rw [← x2] at hy2 ⊢
      exact h1 x x1 hy2
    · rw [q, (h2 m (vs_mem hj)).1] at hy2
      cases hy2
  · rw [eM, List.mem_eraseIdx_iff_getElem?] at hm'
    obtain ⟨i, i1, i2⟩ := hm'
    rw [eT, e54]
    refine ⟨(h2 m' (vs_mem i2)).1, fun y hy => ?_⟩
    rcases mem y hy with ⟨x, x1, x2, x3⟩ | ⟨q, q2⟩
    · rw [← x2, ← x3]
      exact (h2 m' (vs_mem i2)).2 x x1
    · rw [q, q2]
      refine ⟨?_, by simp⟩
      rcases Nat.lt_trichotomy i j with c | c | c
      · exact fun e => (pw_at h3 i2 hj c) e.symm
      · exact absurd c i1
      · exact pw_at (R := fun m m' : zM => m.2.1 ≠ m'.2.1) h3 hj i2 c
