/-! THE PURE SIDE: what a begun merge leaves -/
def mkR (l : List zS) (a n v : Nat) : List zS := l.mapIdx (fun i x => if a ≤ i ∧ i < a + n then (x.1, x.2.1, v) else x)
theorem mkR_at {l : List zS} {a n v i : Nat} : (mkR l a n v)[i]? = (l[i]?).map (fun x => if a ≤ i ∧ i < a + n then (x.1, x.2.1, v) else x) := by
  unfold mkR
  rw [List.getElem?_mapIdx]
theorem mkR_len {l : List zS} {a n v : Nat} : (mkR l a n v).length = l.length := List.length_mapIdx
theorem mkR_unm {l : List zS} {a n v : Nat} : (mkR l a n v).map unm = l.map unm := by
  apply List.ext_getElem?
  intro i
  rw [List.getElem?_map, List.getElem?_map, mkR_at]
  cases l[i]? with
  | none => rfl
  | some x =>
    show some (unm (if a ≤ i ∧ i < a + n then (x.1, x.2.1, v) else x)) = some (unm x)
    by_cases c : a ≤ i ∧ i < a + n
    · rw [if_pos c]; rfl
    · rw [if_neg c]
theorem mkR_some {l : List zS} {a n v i : Nat} {y : zS} (h : (mkR l a n v)[i]? = some y) : ∃ x, l[i]? = some x ∧ y = if a ≤ i ∧ i < a + n then (x.1, x.2.1, v) else x := by
  rw [mkR_at] at h
  cases hx : l[i]? with
  | none => rw [hx] at h; cases h
  | some x =>
    rw [hx] at h
    exact ⟨x, rfl, (Option.some.inj h).symm⟩
theorem mkR_mem {l : List zS} {a n v : Nat} {y : zS} (h : y ∈ mkR l a n v) : ∃ i x, l[i]? = some x ∧ (mkR l a n v)[i]? = some y ∧ y = if a ≤ i ∧ i < a + n then (x.1, x.2.1, v) else x := by
  obtain ⟨i, hi⟩ := List.getElem?_of_mem h
  obtain ⟨x, h1, h2⟩ := mkR_some hi
  exact ⟨i, x, h1, hi, h2⟩
theorem mkR_o {x : zS} {p : Prop} [Decidable p] {v : Nat} : (if p then (x.1, x.2.1, v) else x : zS).1 = x.1 ∧ (if p then (x.1, x.2.1, v) else x : zS).2.1 = x.2.1 := by
  by_cases c : p
  · rw [if_pos c]; exact ⟨rfl, rfl⟩
  · rw [if_neg c]; exact ⟨rfl, rfl⟩
theorem inV_unm {b : Bool} {l : List zS} {k : Nat} : inV b (l.map unm) k = inV b l k := by
  unfold inV
  rw [List.any_map]
  rfl
theorem pw_at {α : Type} {R : α → α → Prop} {l : List α} {i j : Nat} {x y : α} (h : l.Pairwise R) (hi : l[i]? = some x) (hj : l[j]? = some y) (hij : i < j) : R x y := by
  obtain ⟨i1, rfl⟩ := List.getElem?_eq_some_iff.mp hi
  obtain ⟨j1, rfl⟩ := List.getElem?_eq_some_iff.mp hj
  exact List.pairwise_iff_getElem.mp h i j i1 j1 hij
/-- which segments may be merged -/
def CH (A : zA) (a n : Nat) : Prop := 0 < n ∧ a + n ≤ (aV A 54).1.length ∧ ∀ i x, a ≤ i → i < a + n → (aV A 54).1[i]? = some x → x.2.2 = 0
def mgS (A : zA) (a : Nat) : Nat := match (aV A 54).1[a]? with | none => 0 | some x => gSt (aH A) x.1
def mgZ (A : zA) (a n : Nat) : Nat := match (aV A 54).1[a + n - 1]? with | none => 0 | some x => gEn (aH A) x.1
def mgD (A : zA) (a n : Nat) : List Nat := (fl (aD A) (((aV A 54).1.drop a).take n)).filter (aV A 54).2.1
def aMg (A : zA) (a n : Nat) : zA := sM (sS (sV1 (aNw A (mgD A a n) (fun _ => true) (mgD A a n).length ((mgD A a n).headD 0) (mgZ A a n)) 54 (mkR (aV A 54).1 a n (gn (aS A 34) + 1), (aV A 54).2)) (upd (upd (aS (aNw A (mgD A a n) (fun _ => true) (mgD A a n).length ((mgD A a n).headD 0) (mgZ A a n))) 34 (aS A 34 + 1)) 30 (aS A 30 + 1))) (aM A ++ [(gn (aS A 34) + 1, wr A, mgS A a, mgZ A a n)])
/-- the docs of the segments a to a + n -/
theorem mg_ord {H : zH} {d w a n i : Nat} {V : zV} {x xa xl : zS} (h : VI H d w V) (ha : V.1[a]? = some xa) (hl' : V.1[a + n - 1]? = some xl) (hn : 0 < n) (hx : V.1[i]? = some x) : (gSt H xa.1 ≤ gSt H x.1 ∧ gSt H x.1 < gEn H xl.1) ↔ (a ≤ i ∧ i < a + n) := by
  have se : ∀ y, y ∈ V.1 → gSt H y.1 < gEn H y.1 := fun y hy => ((h.1 y hy).1.2.1 _ (h.1 y hy).1.2.2.1).2
  have sx := se x (vs_mem hx)
  have sa := se xa (vs_mem ha)
  have sl := se xl (vs_mem hl')
  constructor
  · intro ⟨q1, q2⟩
    constructor
    · by_cases c : a ≤ i
      · exact c
      · have := pw_at h.2 hx ha (by omega)
        omega
    · by_cases c : i < a + n
      · exact c
      · have := pw_at h.2 hl' hx (by omega)
        omega
  · intro ⟨q1, q2⟩
    constructor
    · by_cases c : a = i
      · subst c
        have : x = xa := Option.some.inj (hx.symm.trans ha)
        subst this
        omega
      · have := pw_at h.2 ha hx (by omega)
        omega
    · by_cases c : i = a + n - 1
      · subst c
        have : x = xl := Option.some.inj (hx.symm.trans hl')
        subst this
        omega
      · have := pw_at h.2 hx hl' (by omega)
        omega
theorem sub_mem {l : List zS} {a n : Nat} {x : zS} : x ∈ (l.drop a).take n ↔ ∃ i, a ≤ i ∧ i < a + n ∧ l[i]? = some x := by
  constructor
  · intro h
    obtain ⟨i, hi⟩ := List.getElem?_of_mem h
    rw [List.getElem?_take] at hi
    by_cases c : i < n
    · rw [if_pos c, List.getElem?_drop] at hi
      exact ⟨a + i, by omega, by omega, hi⟩
    · rw [if_neg c] at hi
      cases hi
  · intro ⟨i, h1, h2, h3⟩
    refine List.mem_of_getElem? (i := i - a) ?_
    rw [List.getElem?_take, if_pos (by omega), List.getElem?_drop, show a + (i - a) = i by omega]
    exact h3
theorem mgD_mem {A : zA} {a n e : Nat} : e ∈ mgD A a n ↔ (∃ i x, a ≤ i ∧ i < a + n ∧ (aV A 54).1[i]? = some x ∧ e ∈ aD A x.1) ∧ (aV A 54).2.1 e = true := by
  unfold mgD
  rw [List.mem_filter, fl_mem]
  constructor
  · intro ⟨⟨x, h1, h2⟩, h3⟩
    obtain ⟨i, i1, i2, i3⟩ := sub_mem.mp h1
    exact ⟨⟨i, x, i1, i2, i3, h2⟩, h3⟩
  · intro ⟨⟨i, x, i1, i2, i3, h2⟩, h3⟩
    exact ⟨⟨x, sub_mem.mpr ⟨i, i1, i2, i3⟩, h2⟩, h3⟩
theorem mg_facts {A : zA} {k p a n : Nat} (h : Mid A k p) (hc : CH A a n) : (mgD A a n).Pairwise (· < ·) ∧ (∀ e, e ∈ mgD A a n → mgS A a ≤ e ∧ e < mgZ A a n) ∧ mgZ A a n ≤ dc A - bf A ∧ (∀ e, mgS A a ≤ e → e < mgZ A a n → (aV A 54).2.1 e = true → e ∈ mgD A a n) ∧ (mgD A a n).headD 0 ∈ mgD A a n ∧ (∀ e, e ∈ mgD A a n → (mgD A a n).headD 0 ≤ e) ∧ mgS A a ≤ (mgD A a n).headD 0 ∧ (∃ xa xl, (aV A 54).1[a]? = some xa ∧ (aV A 54).1[a + n - 1]? = some xl ∧ mgS A a = gSt (aH A) xa.1 ∧ mgZ A a n = gEn (aH A) xl.1) := by
  obtain ⟨ho, h1, h2, h3, ⟨⟨a1, a1'⟩, a2, a3, a4⟩, h5, h6⟩ := h
  obtain ⟨c1, c2, c3⟩ := hc
  obtain ⟨xa, hxa⟩ := vs_at (l := (aV A 54).1) (s := a) (by omega)
  obtain ⟨xl, hxl⟩ := vs_at (l := (aV A 54).1) (s := a + n - 1) (by omega)
  have eS : mgS A a = gSt (aH A) xa.1 := by unfold mgS; rw [hxa]
  have eZ : mgZ A a n = gEn (aH A) xl.1 := by unfold mgZ; rw [hxl]
  obtain ⟨v1, v2, v3⟩ := VB_of a1 (show dc A - bf A ≤ 4096 by have := h1.1.1.2; omega)
  have b1 : (mgD A a n).Pairwise (· < ·) := by
    unfold mgD
    exact (v2.sublist (fl_sub ((List.take_sublist _ _).trans (List.drop_sublist _ _)))).sublist List.filter_sublist
  have b2 : ∀ e, e ∈ mgD A a n → mgS A a ≤ e ∧ e < mgZ A a n := fun e he => by
    obtain ⟨⟨i, x, i1, i2, i3, i4⟩, _⟩ := mgD_mem.mp he
    have f := (a1.1 x (vs_mem i3)).1
    have := f.2.1 e i4
    have o := (mg_ord a1 hxa hxl c1 i3).mpr ⟨i1, i2⟩
    rw [eS, eZ]
    refine ⟨by omega, ?_⟩
    by_cases ci : i = a + n - 1
    · subst ci
      have : x = xl := Option.some.inj (i3.symm.trans hxl)
      subst this
      omega
    · have q := pw_at a1.2 i3 hxl (by omega)
      have := ((a1.1 xl (vs_mem hxl)).1.2.1 _ (a1.1 xl (vs_mem hxl)).1.2.2.1).2
      omega
  have b3 : mgZ A a n ≤ dc A - bf A := by rw [eZ]; exact (a1.1 xl (vs_mem hxl)).1.2.2.2.1
  have b4 : ∀ e, mgS A a ≤ e → e < mgZ A a n → (aV A 54).2.1 e = true → e ∈ mgD A a n := fun e e1 e2 e3 => by
    rcases a1' e e3 with q | q
    · obtain ⟨x, x1, x2⟩ := fl_mem.mp q
      obtain ⟨i, hi⟩ := List.getElem?_of_mem x1
      refine mgD_mem.mpr ⟨⟨i, x, ?_, ?_, hi, x2⟩, e3⟩
      · by_cases ci : a ≤ i
        · exact ci
        · have q1 := pw_at a1.2 hi hxa (by omega)
          have := (a1.1 x x1).1.2.1 e x2
          rw [eS] at e1
          omega
      · by_cases ci : i < a + n
        · exact ci
        · have q1 := pw_at a1.2 hxl hi (by omega)
          have := (a1.1 x x1).1.2.1 e x2
          rw [eZ] at e2
          omega
    · omega
  have hne : mgD A a n ≠ [] := by
    have q := a2 xa (vs_mem hxa)
    have m0 := c3 a xa (Nat.le_refl _) (by omega) hxa
    unfold kp at q
    rw [m0] at q
    have q' : ¬ (aD A xa.1).countP (aV A 54).2.1 = 0 := by simpa using q
    obtain ⟨e, e1, e2⟩ := List.countP_pos_iff.mp (Nat.pos_of_ne_zero q')
    have := mgD_mem.mpr ⟨⟨a, xa, Nat.le_refl _, (show a < a + n by omega), hxa, e1⟩, e2⟩
    intro q3
    rw [q3] at this
    cases this
  have hh : (mgD A a n).headD 0 ∈ mgD A a n ∧ ∀ e, e ∈ mgD A a n → (mgD A a n).headD 0 ≤ e := by
    cases hD : mgD A a n with
    | nil => exact absurd hD hne
    | cons d l =>
      rw [hD] at b1
      refine ⟨by simp, fun e he => ?_⟩
      rcases List.mem_cons.mp he with q | q
      · rw [q]; exact Nat.le_refl _
      · exact Nat.le_of_lt ((List.pairwise_cons.mp b1).1 e q)
  exact ⟨b1, b2, b3, b4, hh.1, hh.2, (b2 _ hh.1).1, xa, xl, hxa, hxl, eS, eZ⟩
theorem Mid_mg {A : zA} {k a n : Nat} (h : Mid A k 0) (hc : CH A a n) (hw : wr A + 1 ≤ 10000 * k) (hk : k ≤ 600) (h34 : gn (aS A 34) + 1 ≤ k) (h4 : (aM A).length < 4) : Mid (aMg A a n) k 0 := by
  obtain ⟨d1, d2, d3, d4, d5, d6, d7, xa, xl, hxa, hxl, eS', eZ'⟩ := mg_facts h hc
  have p3 := h.2.1.1.2.2.1
  have hB : nwB A (aNw A (mgD A a n) (fun _ => true) (mgD A a n).length ((mgD A a n).headD 0) (mgZ A a n)) (mgD A a n) (fun _ => true) (mgD A a n).length ((mgD A a n).headD 0) (mgZ A a n) := nwB_of p3
  obtain ⟨ew, ed, eb, j1, ⟨jt, jt'⟩, j3, ⟨w1, w2, w3⟩, j5, hn⟩ := nw_ok h hB hw hk
  obtain ⟨ho, h1, ⟨h2, h2', h2''⟩, h3, ⟨⟨a1, a1'⟩, a2, ⟨a3, a3', a3''⟩, a4⟩, h5, h6⟩ := h
  have q34 := h1.2.1.2.2.1.1
  have q30 := h1.2.2.1.1
  have cS : ∀ j, j ≠ 30 → j ≠ 34 → aS (aMg A a n) j = aS (aNw A (mgD A a n) (fun _ => true) (mgD A a n).length ((mgD A a n).headD 0) (mgZ A a n)) j := fun j q1 q2 => by
    show upd (upd _ 34 (aS A 34 + 1)) 30 (aS A 30 + 1) j = _
    rw [upd_at, if_neg q1, upd_at, if_neg q2]
  have c34 : aS (aMg A a n) 34 = nI (gn (aS A 34) + 1) := by
    have : aS (aMg A a n) 34 = aS A 34 + 1 := rfl
    rw [this]
    conv => lhs; rw [q34]
    rw [nI_1]
  have c30 : aS (aMg A a n) 30 = nI ((aM A).length + 1) := by
    have : aS (aMg A a n) 30 = aS A 30 + 1 := rfl
    rw [this, q30, nI_1]
  have cV : ∀ m, m ≠ 54 → aV (aMg A a n) m = aV (aNw A (mgD A a n) (fun _ => true) (mgD A a n).length ((mgD A a n).headD 0) (mgZ A a n)) m := fun m hm => if_neg hm
  have c54 : aV (aMg A a n) 54 = (mkR (aV A 54).1 a n (gn (aS A 34) + 1), (aV A 54).2) := rfl
  have cH : aH (aMg A a n) = aH (aNw A (mgD A a n) (fun _ => true) (mgD A a n).length ((mgD A a n).headD 0) (mgZ A a n)) := rfl
  have cM : aM (aMg A a n) = aM A ++ [(gn (aS A 34) + 1, wr A, mgS A a, mgZ A a n)] := rfl
  have cT : aT (aMg A a n) = aT (aNw A (mgD A a n) (fun _ => true) (mgD A a n).length ((mgD A a n).headD 0) (mgZ A a n)) := rfl
  generalize aNw A (mgD A a n) (fun _ => true) (mgD A a n).length ((mgD A a n).headD 0) (mgZ A a n) = B at hB ew ed eb j1 jt jt' j3 w1 w2 w3 j5 hn cS cV cH cT
  obtain ⟨bS, b11, bH, bV, bM, bT⟩ := hB
  generalize aMg A a n = C at cS c34 c30 cV c54 cH cM cT ⊢
  obtain ⟨c1, c2, c3⟩ := hc
  have dC : dc C = dc B := congrArg gn (cS 5 (by decide) (by decide))
  have bC : bf C = bf B := congrArg gn (cS 23 (by decide) (by decide))
  have wC : wr C = wr B := congrArg gn (cS 11 (by decide) (by decide))
  have e18 : aS B 18 = aS A 18 := bS 18 (by decide) (by decide) (by decide)
  have o18 : ¬ aS C 18 = 0 := by rw [cS 18 (by decide) (by decide), e18]; exact ho
  have h14 : aS A 14 = 0 := by
    by_cases c : aS A 14 = 0
    · exact c
    · exact absurd (h6.2.1 c) ho
  have hnw : ∀ y, y ∈ (aV A 54).1 → y.1 ≠ wr A := fun y hy => by have := (a1.1 y hy).2.1; omega
  have hfl : ∀ D, fl D (mkR (aV A 54).1 a n (gn (aS A 34) + 1)) = fl D (aV A 54).1 := fun D => by rw [← fl_unm, mkR_unm, fl_unm]
  have hv54 : hvV true (aT C) (aV C 54) := by
    rw [cT, c54]
    intro y hy
    obtain ⟨i, x, i1, i2, i3⟩ := mkR_mem hy
    have g := j5.1.2.2.1 (by rw [e18]; exact ho) x (by rw [bV]; exact vs_mem i1)
    rw [i3, mkR_o.1, mkR_o.2]
    exact g
  have J3' : J3 C := fun m hm hm' => by
    rw [dC, wC, cH, cV m hm']
    exact j3 m hm hm'
  have hTB : TB (aT C) := by rw [cT]; exact jt
  have hnd : ∀ f, f ∈ aT C → ndd C f.1 = true := by
    intro f hf
    rw [cT, bT] at hf
    rcases List.mem_append.mp hf with r | r
    · refine ndd_new (hn f r) (by rw [e18]; exact ho) (cS 18 (by decide) (by decide)) (cS 19 (by decide) (by decide)) (cS 20 (by decide) (by decide)) cV (fun q => ?_) (fun q => ?_)
      · refine nd3_t o18 ?_
        rw [c54]
        show inV true (mkR (aV A 54).1 a n (gn (aS A 34) + 1)) f.1 = true
        rw [← inV_unm, mkR_unm, inV_unm]
        rw [bV] at q
        exact q
      · rw [cM]
        rw [bM] at q
        unfold nd4 at q ⊢
        rw [List.any_append, q]
        rfl
    · rw [List.mem_singleton.mp r]
      exact nd4_t (m := (gn (aS A 34) + 1, wr A, mgS A a, mgZ A a n)) (by rw [cM]; simp)
  have hVI : VI (aH C) (dc C - bf C) (wr C) (aV C 54) := by
    rw [cH, dC, bC, wC, c54]
    have g := w1.1
    rw [bV] at g
    refine ⟨fun y hy => ?_, ?_⟩
    · obtain ⟨i, x, i1, i2, i3⟩ := mkR_mem hy
      obtain ⟨g1, g2, g3, g4⟩ := g.1 x (vs_mem i1)
      have o1 := (mkR_o (x := x) (p := a ≤ i ∧ i < a + n) (v := gn (aS A 34) + 1))
      rw [← i3] at o1
      rw [o1.1, o1.2]
      refine ⟨g1, g2, ?_, g4⟩
      rw [i3]
      by_cases c : a ≤ i ∧ i < a + n
      · rw [if_pos c]; show gn (aS A 34) + 1 < 1000000; omega
      · rw [if_neg c]; exact g3
    · rw [List.pairwise_iff_getElem]
      intro i j hi hj hij
      obtain ⟨x, x1, x2⟩ := mkR_some (List.getElem?_eq_getElem hi)
      obtain ⟨y, y1, y2⟩ := mkR_some (List.getElem?_eq_getElem hj)
      rw [x2, y2, mkR_o.1, mkR_o.1]
      exact pw_at (R := fun x y : zS => gEn (aH B) x.1 ≤ gSt (aH B) y.1) g.2 x1 y1 hij
  have hnew := hU_w (H := aH A) (w := wr A) (D := mgD A a n) (L := fun _ => true) (tl := (mgD A a n).length) (st := (mgD A a n).headD 0) (en := mgZ A a n)
  have hDx : ∀ x, x ∈ (aV A 54).1 → (aH C).1 x.1 = aD A x.1 ∧ gSt (aH C) x.1 = gSt (aH A) x.1 ∧ gEn (aH C) x.1 = gEn (aH A) x.1 := fun x hx => by
    rw [cH, bH]
    obtain ⟨t1, t2, t3, t4, t5⟩ := hU_o (H := aH A) (w := wr A) (D := mgD A a n) (L := fun _ => true) (tl := (mgD A a n).length) (st := (mgD A a n).headD 0) (en := mgZ A a n) (hnw x hx)
    exact ⟨t1, t4, t5⟩
  have hmark : ∀ i x, (aV A 54).1[i]? = some x → ∀ m, m ∈ aM A → ((if a ≤ i ∧ i < a + n then (x.1, x.2.1, gn (aS A 34) + 1) else x : zS).2.2 = m.1 ↔ x.2.2 = m.1) := fun i x hx m hm => by
    have hm1 := (a3 m hm).1
    by_cases c : a ≤ i ∧ i < a + n
    · rw [if_pos c, c3 i x c.1 c.2 hx]
      show gn (aS A 34) + 1 = m.1 ↔ 0 = m.1
      omega
    · rw [if_neg c]
  refine ⟨o18, ⟨⟨?_, ?_, ?_⟩, ⟨?_, ?_, ?_, ?_⟩, ⟨?_, ?_⟩, ?_⟩, ⟨hTB, fun f hf => ?_, ?_⟩, J3', ⟨⟨hVI, ?_⟩, ?_, ⟨fun m hm => ?_, ?_, ?_⟩, ?_⟩, ?_, ⟨fun q => absurd q o18, fun q => ?_, fun _ => (fun f hf => Or.inl (hnd f hf)), fun i hi => ?_⟩⟩
  · rw [dC, cS 5 (by decide) (by decide)]; exact j1.1.1
  · rw [bC, dC, cS 23 (by decide) (by decide)]; exact j1.1.2.1
  · rw [wC, cS 11 (by decide) (by decide)]; exact j1.1.2.2
  · rw [cS 25 (by decide) (by decide)]; exact j1.2.1.1
  · rw [cS 20 (by decide) (by decide)]; exact j1.2.1.2.1
  · rw [c34, gn_nI (by omega)]; exact ⟨rfl, h34⟩
  · rw [cS 32 (by decide) (by decide)]; exact j1.2.1.2.2.2
  · rw [c30, cM, List.length_append]; rfl
  · rw [cM, List.length_append]; show (aM A).length + 1 ≤ 4; omega
  · rw [cS 18 (by decide) (by decide), cS 19 (by decide) (by decide), cS 14 (by decide) (by decide)]; exact j1.2.2.2
  · rw [wC]
    rw [cT] at hf
    exact jt' f hf
  · have hlen : ∀ n, gVer n = true → n ≠ 54 → (aV C n).1.length ≤ 4096 := fun n hn hn' => (VB_of (J3' n hn hn').1 (by rw [dC, ed]; exact h1.1.1.2)).1.1
    exact ⟨need_len hTB (hlen 62 rfl (by decide)) (hlen 70 rfl (by decide)) (fun _ => (VB_of hVI (by rw [dC, bC, ed]; have := h1.1.1.2; omega)).1.1) (fun i hi => hlen _ (gVer_r hi) (by omega)) (by rw [cM, List.length_append]; show (aM A).length + 1 ≤ 4; omega) hnd, Nat.zero_le _⟩
  · intro e he
    rw [c54] at he ⊢
    rw [dC, bC]
    show e ∈ fl (aH C).1 (mkR (aV A 54).1 a n (gn (aS A 34) + 1)) ∨ _
    rw [hfl, cH]
    have g := w1.2 e (by rw [bV]; exact he)
    rw [bV] at g
    exact g
  · intro y hy
    rw [c54] at hy ⊢
    obtain ⟨i, x, i1, i2, i3⟩ := mkR_mem hy
    have g := w2 x (by rw [bV]; exact vs_mem i1)
    rw [bV] at g
    unfold kp at g ⊢
    by_cases c : a ≤ i ∧ i < a + n
    · rw [i3, if_pos c]
      simp
    · rw [i3, if_neg c]
      show (!decide (x.2.2 = 0) || !decide (((aH C).1 x.1).countP (aV A 54).2.1 = 0)) = true
      rw [cH]
      exact g
  · rw [cM] at hm
    rcases List.mem_append.mp hm with r | r
    · obtain ⟨m1, ⟨m2, m3, m4⟩, m5, m6, ⟨z, m7, m7'⟩, m8, m9⟩ := w3.1 m (by rw [bM]; exact r)
      rw [bV] at m5 m6 m7 m8 m9
      have hD : aD C m.2.1 = aD B m.2.1 := by show (aH C).1 m.2.1 = (aH B).1 m.2.1; rw [cH]
      refine ⟨⟨m1.1, ?_⟩, ⟨by rw [cH, dC, bC]; exact m2, by rw [wC]; exact m3, by rw [cH]; exact m4⟩, fun y hy => ?_, fun y hy hy2 => ?_, ?_, fun e he => ?_, fun e x1 x2 x3 => ?_⟩
      · rw [c34, gn_nI (by omega)]
        have := (a3 m r).1.2
        omega
      · rw [c54] at hy
        obtain ⟨i, x, i1, i2, i3⟩ := mkR_mem hy
        rw [i3, hmark i x i1 m r, mkR_o.1, cH]
        exact m5 x (vs_mem i1)
      · rw [c54] at hy
        obtain ⟨i, x, i1, i2, i3⟩ := mkR_mem hy
        rw [i3, hmark i x i1 m r] at hy2
        rw [i3, mkR_o.1, cH]
        exact m6 x (vs_mem i1) hy2
      · obtain ⟨i, hi⟩ := List.getElem?_of_mem m7
        refine ⟨if a ≤ i ∧ i < a + n then (z.1, z.2.1, gn (aS A 34) + 1) else z, ?_, (hmark i z hi m r).mpr m7'.1, by rw [mkR_o.1, cH]; exact m7'.2⟩
        rw [c54]
        exact List.mem_of_getElem? (i := i) (by show (mkR _ _ _ _)[i]? = _; rw [mkR_at, hi]; rfl)
      · rw [hD] at he
        obtain ⟨z', y1, y2, y3⟩ := m8 e he
        obtain ⟨i, hi⟩ := List.getElem?_of_mem y1
        refine ⟨if a ≤ i ∧ i < a + n then (z'.1, z'.2.1, gn (aS A 34) + 1) else z', ?_, (hmark i z' hi m r).mpr y2, ?_⟩
        · rw [c54]
          exact List.mem_of_getElem? (i := i) (by show (mkR _ _ _ _)[i]? = _; rw [mkR_at, hi]; rfl)
        · rw [mkR_o.1]
          show e ∈ (aH C).1 z'.1
          rw [cH]
          exact y3
      · rw [hD]
        rw [c54] at x3
        exact m9 e x1 x2 x3
    · rw [List.mem_singleton.mp r]
      show (0 < gn (aS A 34) + 1 ∧ gn (aS A 34) + 1 ≤ gn (aS C 34)) ∧ (FI (aH C) (dc C - bf C) (wr A) ∧ wr A < wr C ∧ gEn (aH C) (wr A) = mgZ A a n) ∧ (∀ x, x ∈ (aV C 54).1 → ((mgS A a ≤ gSt (aH C) x.1 ∧ gSt (aH C) x.1 < mgZ A a n) ↔ x.2.2 = gn (aS A 34) + 1)) ∧ (∀ x, x ∈ (aV C 54).1 → x.2.2 = gn (aS A 34) + 1 → gEn (aH C) x.1 ≤ mgZ A a n) ∧ (∃ x, x ∈ (aV C 54).1 ∧ x.2.2 = gn (aS A 34) + 1 ∧ gSt (aH C) x.1 = mgS A a) ∧ (∀ e, e ∈ aD C (wr A) → ∃ x, x ∈ (aV C 54).1 ∧ x.2.2 = gn (aS A 34) + 1 ∧ e ∈ aD C x.1) ∧ ∀ e, mgS A a ≤ e → e < mgZ A a n → (aV C 54).2.1 e = true → e ∈ aD C (wr A)
      have hmk : ∀ i x, (aV A 54).1[i]? = some x → ((if a ≤ i ∧ i < a + n then (x.1, x.2.1, gn (aS A 34) + 1) else x : zS).2.2 = gn (aS A 34) + 1 ↔ (a ≤ i ∧ i < a + n)) := fun i x hx => by
        by_cases c : a ≤ i ∧ i < a + n
        · rw [if_pos c]
          exact ⟨fun _ => c, fun _ => rfl⟩
        · rw [if_neg c]
          refine ⟨fun q => absurd q ?_, fun q => absurd q c⟩
          intro q
          obtain ⟨m', q1, q2⟩ := a3'' x (vs_mem hx) (by omega)
          have := (a3 m' q1).1.2
          omega
      have hDw : aD C (wr A) = mgD A a n := by show (aH C).1 (wr A) = _; rw [cH, bH]; exact hnew.1
      refine ⟨⟨by omega, by rw [c34, gn_nI (by omega)]; omega⟩, ⟨⟨?_, fun e he => ?_, ?_, ?_, ?_⟩, by omega, by rw [cH, bH]; exact hnew.2.2.2.2⟩, fun y hy => ?_, fun y hy hy2 => ?_, ?_, fun e he => ?_, fun e x1 x2 x3 => ?_⟩
      · rw [show (aH C).1 (wr A) = mgD A a n from hDw]; exact d1
      · rw [show (aH C).1 (wr A) = mgD A a n from hDw] at he
        rw [cH, bH, hnew.2.2.2.1, hnew.2.2.2.2]
        exact ⟨d6 e he, (d2 e he).2⟩
      · rw [show (aH C).1 (wr A) = mgD A a n from hDw, cH, bH, hnew.2.2.2.1]; exact d5
      · rw [cH, bH, hnew.2.2.2.2, dC, bC, ed, eb]; exact d3
      · rw [show (aH C).1 (wr A) = mgD A a n from hDw, cH, bH, hnew.2.2.1]
      · rw [c54] at hy
        obtain ⟨i, x, i1, i2, i3⟩ := mkR_mem hy
        rw [i3, hmk i x i1, mkR_o.1, (hDx x (vs_mem i1)).2.1, eS', eZ']
        exact mg_ord a1 hxa hxl c1 i1
      · rw [c54] at hy
        obtain ⟨i, x, i1, i2, i3⟩ := mkR_mem hy
        rw [i3, hmk i x i1] at hy2
        rw [i3, mkR_o.1, (hDx x (vs_mem i1)).2.2, eZ']
        by_cases ci : i = a + n - 1
        · subst ci
          have : x = xl := Option.some.inj (i1.symm.trans hxl)
          subst this
          exact Nat.le_refl _
        · have q := pw_at a1.2 i1 hxl (by omega)
          have := ((a1.1 xl (vs_mem hxl)).1.2.1 _ (a1.1 xl (vs_mem hxl)).1.2.2.1).2
          omega
      · refine ⟨(xa.1, xa.2.1, gn (aS A 34) + 1), ?_, rfl, ?_⟩
        rotate_left
        · rw [eS']; exact (hDx xa (vs_mem hxa)).2.1
        rw [c54]
        exact List.mem_of_getElem? (i := a) (by show (mkR _ _ _ _)[a]? = _; rw [mkR_at, hxa, Option.map_some, if_pos (by omega)])
      · rw [hDw] at he
        obtain ⟨⟨i, x, i1, i2, i3, i4⟩, _⟩ := mgD_mem.mp he
        refine ⟨(x.1, x.2.1, gn (aS A 34) + 1), ?_, rfl, ?_⟩
        · rw [c54]
          exact List.mem_of_getElem? (i := i) (by show (mkR _ _ _ _)[i]? = _; rw [mkR_at, i3, Option.map_some, if_pos ⟨i1, i2⟩])
        · show e ∈ (aH C).1 x.1
          rw [(hDx x (vs_mem i3)).1]
          exact i4
      · rw [hDw]
        rw [c54] at x3
        exact d4 e x1 x2 x3
  · rw [cM, List.pairwise_append]
    refine ⟨a3', by simp, fun m hm m' hm' => ?_⟩
    rw [List.mem_singleton.mp hm']
    have := (a3 m hm).1.2
    show m.1 < gn (aS A 34) + 1
    omega
  · intro y hy hy2
    rw [c54] at hy
    obtain ⟨i, x, i1, i2, i3⟩ := mkR_mem hy
    rw [cM]
    by_cases c : a ≤ i ∧ i < a + n
    · rw [if_pos c] at i3
      refine ⟨_, List.mem_append_right _ (List.mem_singleton.mpr rfl), ?_⟩
      rw [i3]
    · rw [if_neg c] at i3
      rw [i3] at hy2
      obtain ⟨m, m1, m2⟩ := a3'' x (vs_mem i1) hy2
      exact ⟨m, List.mem_append_left _ m1, by rw [m2, i3]⟩
  · intro j y hj hy l hl'
    rw [c54] at hy
    obtain ⟨x, i1, i3⟩ := mkR_some hy
    rw [i3, mkR_o.2] at hl'
    rw [cS 19 (by decide) (by decide), cS 20 (by decide) (by decide), bS 19 (by decide) (by decide) (by decide), bS 20 (by decide) (by decide) (by decide), cV 70 (by decide), cV 62 (by decide), bV]
    exact a4 j x hj i1 l hl'
  · obtain ⟨⟨g1, g2, g3, g4, g5⟩, f1, f2⟩ := j5
    refine ⟨⟨fun q => ?_, fun q => ?_, fun _ => hv54, fun m hm => ?_, fun i hi q => ?_⟩, fun q => ?_, fun q => ?_⟩
    · rw [cS 20 (by decide) (by decide)] at q
      rw [cT, cV 62 (by decide)]
      exact g1 q
    · rw [cS 19 (by decide) (by decide)] at q
      rw [cT, cV 70 (by decide)]
      exact g2 q
    · rw [cM] at hm
      rw [cT]
      rcases List.mem_append.mp hm with r | r
      · exact g4 m (by rw [bM]; exact r)
      · rw [List.mem_singleton.mp r, bT]
        exact ⟨(wr A, false, false), by simp, rfl⟩
    · rw [cV (84 + 8 * i) (by omega)] at q ⊢
      rw [cT]
      exact g5 i hi q
    · rw [cS 20 (by decide) (by decide)] at q
      rw [cT, cV 62 (by decide)]
      exact f1 q
    · rw [cS 19 (by decide) (by decide)] at q
      rw [cT, cV 70 (by decide)]
      exact f2 q
  · rw [cS 14 (by decide) (by decide), bS 14 (by decide) (by decide) (by decide)] at q
    exact absurd h14 q
  · rw [cV (84 + 8 * i) (by omega), bV]
    exact h6.2.2.2 i hi
