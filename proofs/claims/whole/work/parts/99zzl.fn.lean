/-! THE PURE SIDE: a merge ends -/
theorem cnt_pos {f : zS → Nat} {t : Nat} : ∀ (l : List zS), l.Pairwise (fun x y => f x < f y) → ∀ i x, l[i]? = some x → (f x < t ↔ i < l.countP (fun y => decide (f y < t)))
  | [], _, i, x, hx => by simp at hx
  | y :: l, h, i, x, hx => by
    obtain ⟨h1, h2⟩ := List.pairwise_cons.mp h
    have ih := cnt_pos (f := f) (t := t) l h2
    by_cases c : f y < t
    · rw [List.countP_cons_of_pos (by simpa using c)]
      cases i with
      | zero =>
        have : y = x := Option.some.inj hx
        subst this
        exact ⟨fun _ => by omega, fun _ => c⟩
      | succ i =>
        have hx' : l[i]? = some x := hx
        rw [ih i x hx']
        omega
    · rw [List.countP_cons_of_neg (by simpa using c)]
      have h0 : l.countP (fun y => decide (f y < t)) = 0 := by
        rw [List.countP_eq_zero]
        intro z hz
        have := h1 z hz
        simp
        omega
      rw [h0]
      refine ⟨fun q => ?_, fun q => by omega⟩
      exfalso
      cases i with
      | zero =>
        have : y = x := Option.some.inj hx
        subst this
        exact c q
      | succ i =>
        have hx' : l[i]? = some x := hx
        have := h1 x (vs_mem hx')
        omega
def MP (A : zA) (m : zM) (a n : Nat) : Prop := 0 < n ∧ a + n ≤ (aV A 54).1.length ∧ ∀ i x, (aV A 54).1[i]? = some x → (x.2.2 = m.1 ↔ (a ≤ i ∧ i < a + n))
theorem MP_ex {A : zA} {m : zM} (w : WV A) (hm : MI A m) : ∃ a n, MP A m a n := by
  obtain ⟨w1, -⟩ := w
  obtain ⟨m1, m2, m3, m4, ⟨x0, y1, y2, -⟩, -⟩ := hm
  have hp : (aV A 54).1.Pairwise (fun x y => gSt (aH A) x.1 < gSt (aH A) y.1) := by
    refine List.Pairwise.imp_of_mem (fun {x y} hx hy q => ?_) w1.2
    have := ((w1.1 x hx).1.2.1 _ (w1.1 x hx).1.2.2.1).2
    omega
  have k1 := cnt_pos (f := fun x => gSt (aH A) x.1) (t := m.2.2.1) _ hp
  have k2 := cnt_pos (f := fun x => gSt (aH A) x.1) (t := m.2.2.2) _ hp
  have hle := List.countP_le_length (p := fun y : zS => decide (gSt (aH A) y.1 < m.2.2.2)) (l := (aV A 54).1)
  have key : ∀ i x, (aV A 54).1[i]? = some x → (x.2.2 = m.1 ↔ ((aV A 54).1.countP (fun y => decide (gSt (aH A) y.1 < m.2.2.1)) ≤ i ∧ i < (aV A 54).1.countP (fun y => decide (gSt (aH A) y.1 < m.2.2.2)))) := fun i x hx => by
    rw [← m3 x (vs_mem hx)]
    have q1 : gSt (aH A) x.1 < m.2.2.1 ↔ _ := k1 i x hx
    have q2 : gSt (aH A) x.1 < m.2.2.2 ↔ _ := k2 i x hx
    rw [q2]
    constructor
    · intro ⟨r1, r2⟩
      refine ⟨?_, r2⟩
      by_cases c : i < (aV A 54).1.countP (fun y => decide (gSt (aH A) y.1 < m.2.2.1))
      · have := q1.mpr c
        omega
      · omega
    · intro ⟨r1, r2⟩
      refine ⟨?_, r2⟩
      by_cases c : gSt (aH A) x.1 < m.2.2.1
      · have := q1.mp c
        omega
      · omega
  obtain ⟨i0, hi0⟩ := List.getElem?_of_mem y1
  have := (key i0 x0 hi0).mp y2
  refine ⟨(aV A 54).1.countP (fun y => decide (gSt (aH A) y.1 < m.2.2.1)), (aV A 54).1.countP (fun y => decide (gSt (aH A) y.1 < m.2.2.2)) - (aV A 54).1.countP (fun y => decide (gSt (aH A) y.1 < m.2.2.1)), by omega, by omega, fun i x hx => ?_⟩
  rw [key i x hx]
  omega
def aFn (A : zA) (j : Nat) (V : zV) : zA := sM (sS (sV1 A 54 V) (upd (aS A) 30 (aS A 30 - 1))) ((aM A).eraseIdx j)
def fkV (A : zA) (m : zM) (a n : Nat) : zV := ((aV A 54).1.take a ++ (m.2.1, none, 0) :: (aV A 54).1.drop (a + n), (aV A 54).2)
def fgV (A : zA) (a n : Nat) : zV := (mkR (aV A 54).1 a n 0, (aV A 54).2)
theorem tk_mem {l : List zS} {a : Nat} {x : zS} (h : x ∈ l.take a) : ∃ i, i < a ∧ l[i]? = some x := by
  obtain ⟨i, hi⟩ := List.getElem?_of_mem h
  rw [List.getElem?_take] at hi
  by_cases c : i < a
  · rw [if_pos c] at hi
    exact ⟨i, c, hi⟩
  · rw [if_neg c] at hi
    cases hi
theorem dr_mem {l : List zS} {b : Nat} {x : zS} (h : x ∈ l.drop b) : ∃ i, b ≤ i ∧ l[i]? = some x := by
  obtain ⟨i, hi⟩ := List.getElem?_of_mem h
  rw [List.getElem?_drop] at hi
  exact ⟨b + i, by omega, hi⟩
theorem er_mem {l : List zM} {j : Nat} {m m' : zM} (hp : l.Pairwise (fun a b => a.1 < b.1)) (hj : l[j]? = some m) : m' ∈ l.eraseIdx j ↔ (m' ∈ l ∧ m'.1 ≠ m.1) := by
  rw [List.mem_eraseIdx_iff_getElem?]
  constructor
  · intro ⟨i, h1, h2⟩
    refine ⟨vs_mem h2, ?_⟩
    rcases Nat.lt_trichotomy i j with c | c | c
    · have := pw_at hp h2 hj c
      omega
    · exact absurd c h1
    · have := pw_at hp hj h2 c
      omega
  · intro ⟨h1, h2⟩
    obtain ⟨i, hi⟩ := List.getElem?_of_mem h1
    refine ⟨i, fun e => ?_, hi⟩
    subst e
    rw [hj] at hi
    exact h2 (by rw [Option.some.inj hi])
theorem Mid0_fn {A : zA} {k j : Nat} {m : zM} {V : zV} (h : Mid0 A k) (hj : (aM A)[j]? = some m) (e2 : V.2 = (aV A 54).2) (hV : VI (aH A) (dc A - bf A) (wr A) V) (hc : ∀ e, (aV A 54).2.1 e = true → e ∈ fl (aD A) V.1 ∨ (dc A - bf A ≤ e ∧ e < dc A))
  (hMI : ∀ m', m' ∈ aM A → m'.1 ≠ m.1 → (∀ x, x ∈ V.1 → ((m'.2.2.1 ≤ gSt (aH A) x.1 ∧ gSt (aH A) x.1 < m'.2.2.2) ↔ x.2.2 = m'.1)) ∧ (∀ x, x ∈ V.1 → x.2.2 = m'.1 → gEn (aH A) x.1 ≤ m'.2.2.2) ∧ (∃ x, x ∈ V.1 ∧ x.2.2 = m'.1 ∧ gSt (aH A) x.1 = m'.2.2.1) ∧ (∀ e, e ∈ aD A m'.2.1 → ∃ x, x ∈ V.1 ∧ x.2.2 = m'.1 ∧ e ∈ aD A x.1))
  (hmk : ∀ x, x ∈ V.1 → ¬ x.2.2 = 0 → ¬ x.2.2 = m.1 ∧ ∃ m', m' ∈ aM A ∧ m'.1 = x.2.2) (hls : ∀ x, x ∈ V.1 → ∀ l, x.2.1 = some l → ∃ y, y ∈ (aV A 54).1 ∧ y.2.1 = some l) (hhv : hvV true (aT A) V) : Mid0 (aFn A j V) k := by
  obtain ⟨o, ⟨h1a, h1b, ⟨h1c, h1c'⟩, h1d⟩, h2, h3, ⟨w1, ⟨m1, m2, m3⟩, w3⟩, ⟨⟨a1, a2, a3, a4, a5⟩, b1, b2⟩, h6, h6'⟩ := h
  have hjl := vs_lt hj
  have eS : ∀ i, i ≠ 30 → aS (aFn A j V) i = aS A i := fun i hi => by
    show upd (aS A) 30 (aS A 30 - 1) i = _
    rw [upd_at, if_neg hi]
  have e30 : aS (aFn A j V) 30 = nI ((aM A).length - 1) := by
    have : aS (aFn A j V) 30 = aS A 30 - 1 := rfl
    rw [this, h1c, nI_m1 (by omega)]
  have eV : ∀ n, n ≠ 54 → aV (aFn A j V) n = aV A n := fun n hn => if_neg hn
  have e54 : aV (aFn A j V) 54 = V := rfl
  have eM : aM (aFn A j V) = (aM A).eraseIdx j := rfl
  have eH : aH (aFn A j V) = aH A := rfl
  have eT : aT (aFn A j V) = aT A := rfl
  have eL : ((aM A).eraseIdx j).length = (aM A).length - 1 := by rw [List.length_eraseIdx, if_pos hjl]
  have ed : dc (aFn A j V) = dc A := congrArg gn (eS 5 (by decide))
  have eb : bf (aFn A j V) = bf A := congrArg gn (eS 23 (by decide))
  have ew : wr (aFn A j V) = wr A := congrArg gn (eS 11 (by decide))
  generalize aFn A j V = B at eS e30 eV e54 eM eH eT ed eb ew ⊢
  refine ⟨by rw [eS 18 (by decide)]; exact o, ⟨⟨?_, ?_, ?_⟩, ⟨?_, ?_, ?_, ?_⟩, ⟨?_, ?_⟩, ?_⟩, ⟨by rw [eT]; exact h2.1, fun f hf => ?_⟩, fun n hn hn' => ?_, ⟨⟨?_, fun e he => ?_⟩, ⟨fun m' hm' => ?_, ?_, fun x hx hx2 => ?_⟩, fun x hx l hl' => ?_⟩, ⟨⟨fun q => ?_, fun q => ?_, fun _ => ?_, fun m' hm' => ?_, fun i hi q => ?_⟩, fun q => ?_, fun q => ?_⟩, fun q => ?_, fun i hi => ?_⟩
  · rw [ed, eS 5 (by decide)]; exact h1a.1
  · rw [eb, ed, eS 23 (by decide)]; exact h1a.2.1
  · rw [ew, eS 11 (by decide)]; exact h1a.2.2
  · rw [eS 25 (by decide)]; exact h1b.1
  · rw [eS 20 (by decide)]; exact h1b.2.1
  · rw [eS 34 (by decide)]; exact h1b.2.2.1
  · rw [eS 32 (by decide)]; exact h1b.2.2.2
  · rw [e30, eM, eL]
  · rw [eM, eL]; omega
  · rw [eS 18 (by decide), eS 19 (by decide), eS 14 (by decide)]; exact h1d
  · rw [ew]; rw [eT] at hf; exact h2.2 f hf
  · rw [eH, ed, ew, eV n hn']; exact h3 n hn hn'
  · rw [eH, ed, eb, ew, e54]; exact hV
  · rw [e54] at he ⊢
    rw [ed, eb]
    show e ∈ fl (aH B).1 V.1 ∨ _
    rw [eH]
    exact hc e (by rw [← e2]; exact he)
  · rw [eM, er_mem m2 hj] at hm'
    obtain ⟨q1, q2, q3, q4, q5, q6, q7⟩ := m1 m' hm'.1
    obtain ⟨r1, r2, r3, r4⟩ := hMI m' hm'.1 hm'.2
    refine ⟨by rw [eS 34 (by decide)]; exact q1, by rw [eH, ed, eb, ew]; exact q2, by rw [e54, eH]; exact r1, by rw [e54, eH]; exact r2, by rw [e54, eH]; exact r3, ?_, ?_⟩
    · show ∀ e, e ∈ (aH B).1 m'.2.1 → ∃ x, x ∈ (aV B 54).1 ∧ x.2.2 = m'.1 ∧ e ∈ (aH B).1 x.1
      rw [e54, eH]
      exact r4
    · show ∀ e, _ → _ → (aV B 54).2.1 e = true → e ∈ (aH B).1 m'.2.1
      rw [e54, eH, e2]
      exact q7
  · rw [eM]
    exact m2.sublist (List.eraseIdx_sublist _ _)
  · rw [e54] at hx
    obtain ⟨r1, m', r2, r3⟩ := hmk x hx hx2
    exact ⟨m', by rw [eM, er_mem m2 hj]; exact ⟨r2, by rw [r3]; exact r1⟩, r3⟩
  · rw [e54] at hx
    obtain ⟨y, y1, y2⟩ := hls x hx l hl'
    rw [eS 19 (by decide), eS 20 (by decide), eV 70 (by decide), eV 62 (by decide)]
    exact w3 y y1 l y2
  · rw [eS 20 (by decide)] at q
    rw [eT, eV 62 (by decide)]
    exact a1 q
  · rw [eS 19 (by decide)] at q
    rw [eT, eV 70 (by decide)]
    exact a2 q
  · rw [eT, e54]; exact hhv
  · rw [eM, er_mem m2 hj] at hm'
    rw [eT]
    exact a4 m' hm'.1
  · rw [eV (84 + 8 * i) (by omega)] at q ⊢
    rw [eT]
    exact a5 i hi q
  · rw [eS 20 (by decide)] at q
    rw [eT, eV 62 (by decide)]
    exact b1 q
  · rw [eS 19 (by decide)] at q
    rw [eT, eV 70 (by decide)]
    exact b2 q
  · rw [eS 14 (by decide)] at q
    rw [eS 18 (by decide)]
    exact h6 q
  · rw [eV (84 + 8 * i) (by omega)]
    exact h6' i hi
theorem Mid0_give {A : zA} {k j a n : Nat} {m : zM} (h : Mid0 A k) (hj : (aM A)[j]? = some m) (hp : MP A m a n) : Mid0 (aFn A j (fgV A a n)) k := by
  have hh := h
  obtain ⟨o, h1, h2, h3, ⟨⟨w1, w1'⟩, ⟨m1, m2, m3⟩, w3⟩, ⟨⟨a1, a2, a3, a4, a5⟩, b1, b2⟩, h6, h6'⟩ := hh
  obtain ⟨p1, p2, p3⟩ := hp
  have mm := vs_mem hj
  have mpos := (m1 m mm).1.1
  have hmark : ∀ i x, (aV A 54).1[i]? = some x → ∀ m', m' ∈ aM A → m'.1 ≠ m.1 → ((if a ≤ i ∧ i < a + n then (x.1, x.2.1, 0) else x : zS).2.2 = m'.1 ↔ x.2.2 = m'.1) := fun i x hx m' hm' hne => by
    have := (m1 m' hm').1.1
    by_cases c : a ≤ i ∧ i < a + n
    · have e := (p3 i x hx).mpr c
      rw [if_pos c]
      show 0 = m'.1 ↔ _
      omega
    · rw [if_neg c]
  refine Mid0_fn h hj rfl ⟨fun y hy => ?_, ?_⟩ (fun e he => ?_) (fun m' hm' hne => ⟨fun y hy => ?_, fun y hy hy2 => ?_, ?_, fun e he => ?_⟩) (fun y hy hy2 => ?_) (fun y hy l hl' => ?_) (fun y hy => ?_)
  · obtain ⟨i, x, i1, i2, i3⟩ := mkR_mem hy
    obtain ⟨g1, g2, g3, g4⟩ := w1.1 x (vs_mem i1)
    have o1 := (mkR_o (x := x) (p := a ≤ i ∧ i < a + n) (v := 0))
    rw [← i3] at o1
    rw [o1.1, o1.2]
    refine ⟨g1, g2, ?_, g4⟩
    rw [i3]
    by_cases c : a ≤ i ∧ i < a + n
    · rw [if_pos c]; show 0 < 1000000; omega
    · rw [if_neg c]; exact g3
  · show (mkR (aV A 54).1 a n 0).Pairwise _
    rw [List.pairwise_iff_getElem]
    intro i j' hi hj' hij
    obtain ⟨x, x1, x2⟩ := mkR_some (List.getElem?_eq_getElem hi)
    obtain ⟨y, y1, y2⟩ := mkR_some (List.getElem?_eq_getElem hj')
    rw [x2, y2, mkR_o.1, mkR_o.1]
    exact pw_at (R := fun x y : zS => gEn (aH A) x.1 ≤ gSt (aH A) y.1) w1.2 x1 y1 hij
  · show e ∈ fl (aD A) (mkR (aV A 54).1 a n 0) ∨ _
    rw [← fl_unm, mkR_unm, fl_unm]
    exact w1' e he
  · obtain ⟨i, x, i1, i2, i3⟩ := mkR_mem hy
    rw [i3, hmark i x i1 m' hm' hne, mkR_o.1]
    exact (m1 m' hm').2.2.1 x (vs_mem i1)
  · obtain ⟨i, x, i1, i2, i3⟩ := mkR_mem hy
    rw [i3, hmark i x i1 m' hm' hne] at hy2
    rw [i3, mkR_o.1]
    exact (m1 m' hm').2.2.2.1 x (vs_mem i1) hy2
  · obtain ⟨x, q1, q2, q3⟩ := (m1 m' hm').2.2.2.2.1
    obtain ⟨i, hi⟩ := List.getElem?_of_mem q1
    refine ⟨if a ≤ i ∧ i < a + n then (x.1, x.2.1, 0) else x, ?_, (hmark i x hi m' hm' hne).mpr q2, by rw [mkR_o.1]; exact q3⟩
    exact List.mem_of_getElem? (i := i) (by show (mkR _ _ _ _)[i]? = _; rw [mkR_at, hi]; rfl)
  · obtain ⟨x, q1, q2, q3⟩ := (m1 m' hm').2.2.2.2.2.1 e he
    obtain ⟨i, hi⟩ := List.getElem?_of_mem q1
    refine ⟨if a ≤ i ∧ i < a + n then (x.1, x.2.1, 0) else x, ?_, (hmark i x hi m' hm' hne).mpr q2, by rw [mkR_o.1]; exact q3⟩
    exact List.mem_of_getElem? (i := i) (by show (mkR _ _ _ _)[i]? = _; rw [mkR_at, hi]; rfl)
  · obtain ⟨i, x, i1, i2, i3⟩ := mkR_mem hy
    by_cases c : a ≤ i ∧ i < a + n
    · rw [i3, if_pos c] at hy2
      exact absurd rfl hy2
    · rw [i3, if_neg c] at hy2 ⊢
      exact ⟨fun q => c ((p3 i x i1).mp q), m3 x (vs_mem i1) hy2⟩
  · obtain ⟨i, x, i1, i2, i3⟩ := mkR_mem hy
    rw [i3, mkR_o.2] at hl'
    exact ⟨x, vs_mem i1, hl'⟩
  · obtain ⟨i, x, i1, i2, i3⟩ := mkR_mem hy
    rw [i3, mkR_o.1, mkR_o.2]
    exact a3 o x (vs_mem i1)
theorem Mid0_keep {A : zA} {k j a n : Nat} {m : zM} (h : Mid0 A k) (hj : (aM A)[j]? = some m) (hp : MP A m a n) : Mid0 (aFn A j (fkV A m a n)) k := by
  have hh := h
  obtain ⟨o, h1, h2, h3, ⟨⟨w1, w1'⟩, ⟨m1, m2, m3⟩, w3⟩, ⟨⟨a1, a2, a3, a4, a5⟩, b1, b2⟩, h6, h6'⟩ := hh
  obtain ⟨p1, p2, p3⟩ := hp
  have mm := vs_mem hj
  obtain ⟨u1, ⟨u2, u3, u4⟩, u5, u6, u7, u8, u9⟩ := m1 m mm
  have se : ∀ y, y ∈ (aV A 54).1 → gSt (aH A) y.1 < gEn (aH A) y.1 := fun y hy => ((w1.1 y hy).1.2.1 _ (w1.1 y hy).1.2.2.1).2
  obtain ⟨x', x1, x2, x3⟩ := u8 _ u2.2.2.1
  obtain ⟨i', hi'⟩ := List.getElem?_of_mem x1
  have hpos := (p3 i' x' hi').mp x2
  have hxr := (w1.1 x' x1).1.2.1 _ x3
  have hst := (u5 x' x1).mpr x2
  have mem : ∀ y, y ∈ (fkV A m a n).1 → (∃ i, (i < a ∨ a + n ≤ i) ∧ (aV A 54).1[i]? = some y) ∨ y = (m.2.1, none, 0) := fun y hy => by
    rcases List.mem_append.mp hy with q | q
    · obtain ⟨i, i1, i2⟩ := tk_mem q
      exact Or.inl ⟨i, Or.inl i1, i2⟩
    · rcases List.mem_cons.mp q with q | q
      · exact Or.inr q
      · obtain ⟨i, i1, i2⟩ := dr_mem q
        exact Or.inl ⟨i, Or.inr i1, i2⟩
  have memo : ∀ i y, (aV A 54).1[i]? = some y → (i < a ∨ a + n ≤ i) → y ∈ (fkV A m a n).1 := fun i y hy hi => by
    rcases hi with q | q
    · refine List.mem_append_left _ (List.mem_of_getElem? (i := i) ?_)
      rw [List.getElem?_take, if_pos q]
      exact hy
    · refine List.mem_append_right _ (List.mem_cons_of_mem _ (List.mem_of_getElem? (i := i - (a + n)) ?_))
      rw [List.getElem?_drop, show a + n + (i - (a + n)) = i by omega]
      exact hy
  have unm' : ∀ i y, (aV A 54).1[i]? = some y → (i < a ∨ a + n ≤ i) → ¬ y.2.2 = m.1 := fun i y hy hi q => by
    have := (p3 i y hy).mp q
    omega
  have omk : ∀ m', m' ∈ aM A → m'.1 ≠ m.1 → ∀ y, y ∈ (aV A 54).1 → y.2.2 = m'.1 → y ∈ (fkV A m a n).1 := fun m' hm' hne y hy hy2 => by
    obtain ⟨i, hi⟩ := List.getElem?_of_mem hy
    refine memo i y hi ?_
    by_cases c : a ≤ i ∧ i < a + n
    · have := (p3 i y hi).mpr c
      omega
    · omega
  refine Mid0_fn h hj rfl ⟨fun y hy => ?_, ?_⟩ (fun e he => ?_) (fun m' hm' hne => ⟨fun y hy => ?_, fun y hy hy2 => ?_, ?_, fun e he => ?_⟩) (fun y hy hy2 => ?_) (fun y hy l hl' => ?_) (fun y hy => ?_)
  · rcases mem y hy with ⟨i, i1, i2⟩ | q
    · exact w1.1 y (vs_mem i2)
    · rw [q]
      exact ⟨u2, u3, by show 0 < 1000000; omega, fun l hl' => by cases hl'⟩
  · show ((aV A 54).1.take a ++ (m.2.1, none, 0) :: (aV A 54).1.drop (a + n)).Pairwise _
    have aft : ∀ y, y ∈ (aV A 54).1.drop (a + n) → m.2.2.2 ≤ gSt (aH A) y.1 := fun y hy => by
      obtain ⟨i, i1, i2⟩ := dr_mem hy
      have q1 := pw_at w1.2 hi' i2 (by omega)
      have q2 : ¬ (m.2.2.1 ≤ gSt (aH A) y.1 ∧ gSt (aH A) y.1 < m.2.2.2) := fun q => unm' i y i2 (Or.inr i1) ((u5 y (vs_mem i2)).mp q)
      have := se x' x1
      omega
    have bef : ∀ y, y ∈ (aV A 54).1.take a → gEn (aH A) y.1 ≤ gSt (aH A) m.2.1 := fun y hy => by
      obtain ⟨i, i1, i2⟩ := tk_mem hy
      have q1 := pw_at w1.2 i2 hi' (by omega)
      omega
    rw [List.pairwise_append]
    refine ⟨w1.2.sublist (List.take_sublist _ _), ?_, fun y hy z hz => ?_⟩
    · rw [List.pairwise_cons]
      refine ⟨fun y hy => ?_, w1.2.sublist (List.drop_sublist _ _)⟩
      show gEn (aH A) m.2.1 ≤ gSt (aH A) y.1
      rw [u4]
      exact aft y hy
    · rcases List.mem_cons.mp hz with q | q
      · rw [q]; exact bef y hy
      · obtain ⟨i, i1, i2⟩ := tk_mem hy
        obtain ⟨i3, i4, i5⟩ := dr_mem q
        exact pw_at (R := fun x y : zS => gEn (aH A) x.1 ≤ gSt (aH A) y.1) w1.2 i2 i5 (by omega)
  · rcases w1' e he with q | q
    · left
      obtain ⟨x, q1, q2⟩ := fl_mem.mp q
      obtain ⟨i, hi⟩ := List.getElem?_of_mem q1
      refine fl_mem.mpr ?_
      by_cases c : a ≤ i ∧ i < a + n
      · have hmk := (p3 i x hi).mpr c
        have r1 := (u5 x q1).mpr hmk
        have r2 := u6 x q1 hmk
        have r3 := (w1.1 x q1).1.2.1 e q2
        exact ⟨(m.2.1, none, 0), List.mem_append_right _ (by simp), u9 e (by omega) (by omega) he⟩
      · exact ⟨x, memo i x hi (by omega), q2⟩
    · exact Or.inr q
  · rcases mem y hy with ⟨i, i1, i2⟩ | q
    · exact (m1 m' hm').2.2.1 y (vs_mem i2)
    · rw [q]
      obtain ⟨z, z1, z2, z3⟩ := (m1 m' hm').2.2.2.2.1
      have zp := (m1 m' hm').1.1
      refine ⟨fun r => ?_, fun r => absurd r (by show ¬ 0 = m'.1; omega)⟩
      exfalso
      have r' : m'.2.2.1 ≤ gSt (aH A) m.2.1 ∧ gSt (aH A) m.2.1 < m'.2.2.2 := r
      have n1 : ¬ (m'.2.2.1 ≤ gSt (aH A) x'.1 ∧ gSt (aH A) x'.1 < m'.2.2.2) := fun s => hne (((m1 m' hm').2.2.1 x' x1).mp s ▸ x2 |>.symm ▸ rfl)
      obtain ⟨i2, hi2⟩ := List.getElem?_of_mem z1
      rcases Nat.lt_trichotomy i2 i' with c | c | c
      · have := pw_at w1.2 hi2 hi' c
        have := se z z1
        omega
      · subst c
        have : z = x' := Option.some.inj (hi2.symm.trans hi')
        subst this
        omega
      · have := pw_at w1.2 hi' hi2 c
        omega
  · rcases mem y hy with ⟨i, i1, i2⟩ | q
    · exact (m1 m' hm').2.2.2.1 y (vs_mem i2) hy2
    · rw [q] at hy2
      have zp := (m1 m' hm').1.1
      exact absurd hy2 (by show ¬ 0 = m'.1; omega)
  · obtain ⟨z, z1, z2, z3⟩ := (m1 m' hm').2.2.2.2.1
    exact ⟨z, omk m' hm' hne z z1 z2, z2, z3⟩
  · obtain ⟨z, z1, z2, z3⟩ := (m1 m' hm').2.2.2.2.2.1 e he
    exact ⟨z, omk m' hm' hne z z1 z2, z2, z3⟩
  · rcases mem y hy with ⟨i, i1, i2⟩ | q
    · exact ⟨unm' i y i2 i1, m3 y (vs_mem i2) hy2⟩
    · rw [q] at hy2
      exact absurd rfl hy2
  · rcases mem y hy with ⟨i, i1, i2⟩ | q
    · exact ⟨y, vs_mem i2, hl'⟩
    · rw [q] at hl'
      cases hl'
  · rcases mem y hy with ⟨i, i1, i2⟩ | q
    · exact a3 o y (vs_mem i2)
    · rw [q]
      exact ⟨a4 m mm, fun _ l hl' => by cases hl'⟩
