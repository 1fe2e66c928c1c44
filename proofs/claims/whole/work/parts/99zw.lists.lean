/-! THE PURE SIDE: lists are written -/
def pr2 (x : zS) : Nat × Nat := (x.1, x.2.2)
theorem fl_fst {D : Nat → List Nat} {l : List zS} : fl D l = (l.map Prod.fst).flatMap D := by
  unfold fl
  rw [List.flatMap_map]
theorem set_pr {l : List zS} {i : Nat} {x y : zS} (hx : l[i]? = some x) (h : pr2 y = pr2 x) : (l.set i y).map pr2 = l.map pr2 := by
  rw [List.map_set, h]
  obtain ⟨h1, h2⟩ := List.getElem?_eq_some_iff.mp hx
  have : pr2 x = (l.map pr2)[i]'(by rw [List.length_map]; exact h1) := by rw [List.getElem_map, h2]
  rw [this]
  exact List.set_getElem_self _
theorem pr_fst {l m : List zS} (h : l.map pr2 = m.map pr2) : l.map Prod.fst = m.map Prod.fst := by
  have e : ∀ l : List zS, l.map Prod.fst = (l.map pr2).map Prod.fst := fun l => by rw [List.map_map]; rfl
  rw [e l, e m, h]
theorem pr_mem {l m : List zS} (h : l.map pr2 = m.map pr2) {x : zS} (hx : x ∈ l) : ∃ y, y ∈ m ∧ y.1 = x.1 ∧ y.2.2 = x.2.2 := by
  have : pr2 x ∈ m.map pr2 := by rw [← h]; exact List.mem_map.mpr ⟨x, hx, rfl⟩
  obtain ⟨y, y1, y2⟩ := List.mem_map.mp this
  have y3 := Prod.mk.inj y2
  exact ⟨y, y1, y3.1, y3.2⟩
def wlH (A : zA) (x : zS) : zH := hU (aH A) (wr A) [] (aV A 54).2.1 ((aD A x.1).countP (aV A 54).2.1) 0 0
def aWl (A : zA) (i : Nat) (x : zS) : zA := sV1 (aNew (aActd A) (wlH A x)) 54 ((aV A 54).1.set i (x.1, some (wr A), x.2.2), (aV A 54).2)
theorem Mid_wl {E : List Nat} {A : zA} {k i : Nat} {x : zS} (h : MidE E A k i) (hx : (aV A 54).1[i]? = some x) (hw : wr A + 1 ≤ 10000 * k) (hk : k ≤ 600) : MidE E (aWl A i x) k (i + 1) ∧ wr (aWl A i x) = wr A + 1 := by
  obtain ⟨ho, h1, ⟨h2, h2', h2''⟩, h3, ⟨⟨a1, a1'⟩, a2, ⟨a3, a3', a3''⟩, a4⟩, h5, h6⟩ := h
  obtain ⟨⟨⟨p1, p1'⟩, ⟨p2, p2'⟩, ⟨p3, p3'⟩⟩, ⟨q1, q2, q3, q4⟩, r1, s1⟩ := h1
  have eS : ∀ j, j ≠ 11 → j ≠ 12 → j ≠ 13 → aS (aWl A i x) j = aS A j := fun j j1 j2 j3 => by
    show upd (aS (aActd A)) 11 (aS (aActd A) 11 + 1) j = _
    rw [upd_at, if_neg j1]
    exact aActd_S j2 j3
  have e11 : aS (aWl A i x) 11 = nI (wr A + 1) := by
    show upd (aS (aActd A)) 11 (aS (aActd A) 11 + 1) 11 = _
    rw [upd_at, if_pos rfl, aActd_S (by decide) (by decide), p3, nI_1]
  have ew : wr (aWl A i x) = wr A + 1 := by
    show gn (aS (aWl A i x) 11) = _
    rw [e11, gn_nI (by omega)]
  have ed : dc (aWl A i x) = dc A := congrArg gn (eS 5 (by decide) (by decide) (by decide))
  have eb : bf (aWl A i x) = bf A := congrArg gn (eS 23 (by decide) (by decide) (by decide))
  have eH : aH (aWl A i x) = hU (aH A) (wr A) [] (aV A 54).2.1 ((aD A x.1).countP (aV A 54).2.1) 0 0 := rfl
  have eV : ∀ n, n ≠ 54 → aV (aWl A i x) n = aV A n := fun n hn => if_neg hn
  have e54 : aV (aWl A i x) 54 = ((aV A 54).1.set i (x.1, some (wr A), x.2.2), (aV A 54).2) := rfl
  have eT : aT (aWl A i x) = aT A ++ [(wr A, false, false)] := by
    show aT A ++ [(gn (aS (aActd A) 11), false, false)] = _
    rw [aActd_S (by decide) (by decide)]
  obtain ⟨u1, u2, u3, u4, u5⟩ := hU_w (H := aH A) (w := wr A) (D := []) (L := (aV A 54).2.1) (tl := (aD A x.1).countP (aV A 54).2.1) (st := 0) (en := 0)
  have hU' := VI_U (D := []) (L := (aV A 54).2.1) (tl := (aD A x.1).countP (aV A 54).2.1) (st := 0) (en := 0) a1
  have hxm := vs_mem hx
  have hnw : ∀ y, y ∈ (aV A 54).1 → y.1 ≠ wr A := fun y hy => by have := (a1.1 y hy).2.1; omega
  have hpr : ((aV A 54).1.set i (x.1, some (wr A), x.2.2)).map pr2 = (aV A 54).1.map pr2 := set_pr hx rfl
  have hfst := pr_fst hpr
  have hfl : fl (aH (aWl A i x)).1 ((aV A 54).1.set i (x.1, some (wr A), x.2.2)) = fl (aD A) (aV A 54).1 := by
    rw [fl_fst, hfst, ← fl_fst, eH, fl_U hnw]
  have hmem : ∀ y, y ∈ (aV A 54).1.set i (x.1, some (wr A), x.2.2) → y = (x.1, some (wr A), x.2.2) ∨ y ∈ (aV A 54).1 := fun y hy => (List.mem_or_eq_of_mem_set hy).symm
  have hV : VI (aH (aWl A i x)) (dc (aWl A i x) - bf (aWl A i x)) (wr (aWl A i x)) (aV (aWl A i x) 54) := by
    rw [ed, eb, ew, e54, eH]
    refine ⟨fun y hy => ?_, ?_⟩
    · rcases hmem y hy with q | q
      · obtain ⟨b1, b2, b3, b4⟩ := hU'.1 x hxm
        rw [q]
        refine ⟨b1, b2, b3, fun j hj => ?_⟩
        have hj' : j = wr A := (Option.some.inj hj).symm
        subst hj'
        refine ⟨by omega, ?_, fun e he1 he2 => by rw [u2]; exact he2⟩
        show gTl _ (wr A) = ((hU (aH A) (wr A) [] (aV A 54).2.1 ((aD A x.1).countP (aV A 54).2.1) 0 0).1 x.1).countP _
        rw [u3, u2, (hU_o (hnw x hxm)).1]
      · exact hU'.1 y q
    · have q := hU'.2
      have q' : ((aV A 54).1.map Prod.fst).Pairwise (fun a b => gEn (hU (aH A) (wr A) [] (aV A 54).2.1 ((aD A x.1).countP (aV A 54).2.1) 0 0) a ≤ gSt (hU (aH A) (wr A) [] (aV A 54).2.1 ((aD A x.1).countP (aV A 54).2.1) 0 0) b) := by rw [List.pairwise_map]; exact q
      rw [← hfst, List.pairwise_map] at q'
      exact q'
  have hvn : hvV true (aT (aWl A i x)) (aV (aWl A i x) 54) := by
    intro y hy
    rw [eT]
    rw [e54] at hy
    rcases hmem y hy with q | q
    · rw [q]
      refine ⟨hav_app (h5.1.2.2.1 ho x hxm).1, fun _ j hj => ?_⟩
      have hj' : j = wr A := (Option.some.inj hj).symm
      subst hj'
      exact ⟨(wr A, false, false), by simp, rfl⟩
    · obtain ⟨b1, b2⟩ := h5.1.2.2.1 ho y q
      exact ⟨hav_app b1, fun q1 j hj => hav_app (b2 q1 j hj)⟩
  have e18 := eS 18 (by decide) (by decide) (by decide)
  have e19 := eS 19 (by decide) (by decide) (by decide)
  have e20 := eS 20 (by decide) (by decide) (by decide)
  have e14 := eS 14 (by decide) (by decide) (by decide)
  have ho' : ¬ aS (aWl A i x) 18 = 0 := by rw [e18]; exact ho
  have h14 : aS A 14 = 0 := by
    by_cases c : aS A 14 = 0
    · exact c
    · exact absurd (h6.2.1 c) ho
  have hin : ∀ y t, (aV A 54).1[t]? = some y → t ≠ i → y ∈ (aV A 54).1.set i (x.1, some (wr A), x.2.2) := fun y t ht hti => List.mem_of_getElem? (i := t) (by rw [List.getElem?_set, if_neg (fun e => hti e.symm)]; exact ht)
  have hself : (x.1, some (wr A), x.2.2) ∈ (aV A 54).1.set i (x.1, some (wr A), x.2.2) := List.mem_of_getElem? (i := i) (by rw [List.getElem?_set, if_pos rfl, if_pos (vs_lt hx)])
  have hnd : ∀ f, f ∈ aT (aWl A i x) → ndd (aWl A i x) f.1 = true ∨ f.1 ∈ E := by
    intro f hf
    rw [eT] at hf
    rcases List.mem_append.mp hf with q' | q'
    · rcases h6.2.2.1 h14 f q' with hq | hq
      case inr => exact Or.inr hq
      refine Or.inl (ndd_new hq ho e18 e19 e20 eV (fun q2 => ?_) (fun q2 => q2))
      unfold inV at q2
      obtain ⟨y, y1, y2⟩ := List.any_eq_true.mp q2
      obtain ⟨t, ht⟩ := List.getElem?_of_mem y1
      simp only [Bool.or_eq_true, Bool.and_eq_true, decide_eq_true_eq, true_and] at y2
      by_cases ct : t = i
      · subst ct
        have : y = x := Option.some.inj (ht.symm.trans hx)
        subst this
        rcases y2 with y2 | y2
        · refine nd3_t ho' ?_
          rw [e54, y2]
          exact inV_seg (x := (y.1, some (wr A), y.2.2)) hself
        · rcases a4 t y (Nat.le_refl _) hx f.1 y2 with ⟨c1, z, z1, z2⟩ | ⟨c0, c1, z, z1, z2⟩
          · exact nd2_t (by rw [e19]; exact c1) (by rw [eV 70 (by decide), inV_lst z1 z2]; rfl)
          · exact nd1_t (by rw [e20]; exact c1) (by rw [eV 62 (by decide), inV_lst z1 z2]; rfl)
      · have ym := hin y t ht ct
        refine nd3_t ho' ?_
        rw [e54]
        rcases y2 with y2 | y2
        · rw [y2]; exact inV_seg ym
        · exact inV_lst ym y2
    · refine Or.inl (nd3_t ho' ?_)
      rw [List.mem_singleton.mp q', e54]
      exact inV_lst hself rfl
  have hTB : TB (aT (aWl A i x)) := by rw [eT]; exact TB_app h2 h2' (by omega) (by omega)
  have J3' : J3 (aWl A i x) := J3_new h3 ed ew eH eV
  have hlen : ∀ n, gVer n = true → n ≠ 54 → (aV (aWl A i x) n).1.length ≤ 4096 := fun n hn hn' => (VB_of (J3' n hn hn').1 (by rw [ed]; exact p1')).1.1
  refine ⟨⟨ho', ⟨⟨⟨?_, ?_⟩, ⟨?_, ?_⟩, ⟨?_, ?_⟩⟩, ⟨?_, ?_, ?_, ?_⟩, ?_, ?_⟩, ⟨hTB, fun f hf => ?_, ?_⟩, J3', ⟨⟨hV, fun e he => ?_⟩, fun y hy => ?_, ⟨fun m hm => ?_, a3', fun y hy hy2 => ?_⟩, ?_⟩, ?_, ?_⟩, ew⟩
  · rw [ed, eS 5 (by decide) (by decide) (by decide)]; exact p1
  · rw [ed]; exact p1'
  · rw [eb, eS 23 (by decide) (by decide) (by decide)]; exact p2
  · rw [eb, ed]; exact p2'
  · rw [ew]; exact e11
  · rw [ew]; exact hw
  · rw [eS 25 (by decide) (by decide) (by decide)]; exact q1
  · rw [e20]; exact q2
  · rw [eS 34 (by decide) (by decide) (by decide)]; exact q3
  · rw [eS 32 (by decide) (by decide) (by decide)]; exact q4
  · rw [eS 30 (by decide) (by decide) (by decide)]; exact r1
  · rw [e18, e19, e14]; exact s1
  · rw [ew]
    rw [eT] at hf
    rcases List.mem_append.mp hf with q | q
    · have := h2' f q; omega
    · rw [List.mem_singleton.mp q]; show wr A < wr A + 1; omega
  · exact ⟨need_lenE hTB (hlen 62 rfl (by decide)) (hlen 70 rfl (by decide)) (fun _ => (VB_of hV (by rw [ed, eb]; omega)).1.1) (fun i hi => hlen _ (gVer_r hi) (by omega)) r1.2 hnd, h2''.2⟩
  · rw [ed, eb]
    rcases a1' e he with q | q
    · left
      show e ∈ fl (aH (aWl A i x)).1 (aV (aWl A i x) 54).1
      rw [e54, hfl]
      exact q
    · exact Or.inr q
  · rw [e54] at hy ⊢
    obtain ⟨z, z1, z2, z3⟩ := pr_mem hpr hy
    have := a2 z z1
    unfold kp at this ⊢
    show (!decide (y.2.2 = 0) || !decide (((aH (aWl A i x)).1 y.1).countP (aV A 54).2.1 = 0)) = true
    rw [← z3, ← z2, eH, (hU_o (hnw z z1)).1]
    exact this
  · obtain ⟨m1, ⟨m2, m3, m4⟩, m5, m6, ⟨y, m7, m7'⟩, m8, m9⟩ := a3 m hm
    have hmw : m.2.1 ≠ wr A := by omega
    obtain ⟨t1, t2, t3, t4, t5⟩ := hU_o (H := aH A) (w := wr A) (D := []) (L := (aV A 54).2.1) (tl := (aD A x.1).countP (aV A 54).2.1) (st := 0) (en := 0) hmw
    have hD : aD (aWl A i x) m.2.1 = aD A m.2.1 := by show (aH (aWl A i x)).1 m.2.1 = _; rw [eH]; exact t1
    refine ⟨by rw [eS 34 (by decide) (by decide) (by decide)]; exact m1, ⟨by rw [ed, eb, eH]; exact FI_U m2 hmw, by rw [ew]; omega, by rw [eH, t5]; exact m4⟩, fun z hz => ?_, fun z hz hz2 => ?_, ?_, fun e he => ?_, fun e x1 x2 x3 => ?_⟩
    · rw [e54] at hz
      obtain ⟨z', z1, z2, z3⟩ := pr_mem hpr hz
      rw [← z2, ← z3, eH, (hU_o (hnw z' z1)).2.2.2.1]
      exact m5 z' z1
    · rw [e54] at hz
      obtain ⟨z', z1, z2, z3⟩ := pr_mem hpr hz
      rw [← z2, eH, (hU_o (hnw z' z1)).2.2.2.2]
      exact m6 z' z1 (by rw [z3]; exact hz2)
    · obtain ⟨z', z1, z2, z3⟩ := pr_mem hpr.symm m7
      exact ⟨z', by rw [e54]; exact z1, by rw [z3]; exact m7'.1, by rw [z2, eH, (hU_o (hnw y m7)).2.2.2.1]; exact m7'.2⟩
    · rw [hD] at he
      obtain ⟨z, y1, y2, y3⟩ := m8 e he
      obtain ⟨z', z1, z2, z3⟩ := pr_mem hpr.symm y1
      refine ⟨z', by rw [e54]; exact z1, by rw [z3]; exact y2, ?_⟩
      show e ∈ (aH (aWl A i x)).1 z'.1
      rw [z2, eH, (hU_o (hnw z y1)).1]
      exact y3
    · rw [hD]
      exact m9 e x1 x2 x3
  · rw [e54] at hy
    obtain ⟨z, z1, z2, z3⟩ := pr_mem hpr hy
    obtain ⟨m, m1, m2⟩ := a3'' z z1 (by rw [z3]; exact hy2)
    exact ⟨m, m1, by rw [← z3]; exact m2⟩
  · intro j y hj hy j' hj'
    rw [e54] at hy
    rw [e19, e20, eV 70 (by decide), eV 62 (by decide)]
    have hy' : ((aV A 54).1.set i (x.1, some (wr A), x.2.2))[j]? = some y := hy
    rw [List.getElem?_set, if_neg (by omega)] at hy'
    exact a4 j y (by omega) hy' j' hj'
  · exact J5_new h5 e18 e19 e20 eT eV (fun _ => hvn) (fun m hm => by rw [eT]; exact hav_app (h5.1.2.2.2.1 m hm))
  · refine ⟨fun q => absurd q ho', fun q => ?_, fun _ => hnd, fun i' hi' => ?_⟩
    · rw [e14] at q
      exact absurd h14 q
    · rw [eV (84 + 8 * i') (by omega)]
      exact h6.2.2.2 i' hi'
/-- all lists -/
def wlF : Nat → Nat → zA → Bool × zA
  | 0, _, A => (true, A)
  | n + 1, i, A => match (aV A 54).1[i]? with
    | none => (true, A)
    | some x => if lRt (aH A) (aV A 54) x = true then wlF n (i + 1) A else if aS A 13 = 0 then (false, aLose A) else wlF n (i + 1) (aWl A i x)
theorem wlF_s {n i : Nat} {A : zA} {x : zS} (hx : (aV A 54).1[i]? = some x) : wlF (n + 1) i A = if lRt (aH A) (aV A 54) x = true then wlF n (i + 1) A else if aS A 13 = 0 then (false, aLose A) else wlF n (i + 1) (aWl A i x) := by
  show (match (aV A 54).1[i]? with | none => (true, A) | some x => if lRt (aH A) (aV A 54) x = true then wlF n (i + 1) A else if aS A 13 = 0 then (false, aLose A) else wlF n (i + 1) (aWl A i x)) = _
  rw [hx]
theorem wlF_n {n i : Nat} {A : zA} (hx : (aV A 54).1[i]? = none) : wlF (n + 1) i A = (true, A) := by
  show (match (aV A 54).1[i]? with | none => (true, A) | some x => if lRt (aH A) (aV A 54) x = true then wlF n (i + 1) A else if aS A 13 = 0 then (false, aLose A) else wlF n (i + 1) (aWl A i x)) = _
  rw [hx]
theorem wl_len {A : zA} {i : Nat} {x : zS} : (aV (aWl A i x) 54).1.length = (aV A 54).1.length := by
  show ((aV A 54).1.set i (x.1, some (wr A), x.2.2)).length = _
  rw [List.length_set]
theorem Mid_i {E : List Nat} {A : zA} {k i j : Nat} (h : MidE E A k i) (hij : i ≤ j) : MidE E A k j := ⟨h.1, h.2.1, h.2.2.1, h.2.2.2.1, ⟨h.2.2.2.2.1.1, h.2.2.2.2.1.2.1, h.2.2.2.2.1.2.2.1, fun t x ht hx => h.2.2.2.2.1.2.2.2 t x (by omega) hx⟩, h.2.2.2.2.2.1, h.2.2.2.2.2.2⟩
theorem wlF_ok {k : Nat} (hk : k ≤ 600) : ∀ (n i : Nat) (A : zA), Mid A k i → wr A + n ≤ 10000 * k → ((wlF n i A).1 = true → Mid (wlF n i A).2 k (i + n) ∧ wr (wlF n i A).2 ≤ wr A + n ∧ bf (wlF n i A).2 = bf A ∧ aS (wlF n i A).2 19 = aS A 19) ∧ ((wlF n i A).1 = false → Inv (wlF n i A).2 k)
  | 0, i, A, h, _ => ⟨fun _ => ⟨h, Nat.le_refl _, rfl, rfl⟩, fun q => absurd q (by simp [wlF])⟩
  | n + 1, i, A, h, h1 => by
    cases hx : (aV A 54).1[i]? with
    | none =>
      rw [wlF_n hx]
      exact ⟨fun _ => ⟨Mid_i h (by omega), by show wr A ≤ _; omega, rfl, rfl⟩, fun q => absurd q (by simp)⟩
    | some x =>
      rw [wlF_s hx]
      by_cases c : lRt (aH A) (aV A 54) x = true
      · rw [if_pos c]
        have q := wlF_ok hk n (i + 1) A (Mid_i h (by omega)) (by omega)
        refine ⟨fun b => ?_, q.2⟩
        obtain ⟨q1, q2, q3, q4⟩ := q.1 b
        exact ⟨by rw [show i + (n + 1) = i + 1 + n by omega]; exact q1, by omega, q3, q4⟩
      · rw [if_neg c]
        by_cases c0 : aS A 13 = 0
        · rw [if_pos c0]
          exact ⟨fun q => absurd q (by simp), fun _ => Mid_lose h⟩
        · rw [if_neg c0]
          obtain ⟨m1, m2⟩ := Mid_wl h hx (by omega) hk
          have q := wlF_ok hk n (i + 1) (aWl A i x) m1 (by omega)
          refine ⟨fun b => ?_, q.2⟩
          obtain ⟨q1, q2, q3, q4⟩ := q.1 b
          have e : ∀ j, j ≠ 11 → j ≠ 12 → j ≠ 13 → aS (aWl A i x) j = aS A j := fun j j1 j2 j3 => by
            show upd (aS (aActd A)) 11 (aS (aActd A) 11 + 1) j = _
            rw [upd_at, if_neg j1]
            exact aActd_S j2 j3
          refine ⟨by rw [show i + (n + 1) = i + 1 + n by omega]; exact q1, by omega, ?_, ?_⟩
          · rw [q3]
            exact congrArg gn (e 23 (by decide) (by decide) (by decide))
          · rw [q4]
            exact e 19 (by decide) (by decide) (by decide)
theorem wlF_okE {E : List Nat} {k : Nat} (hk : k ≤ 600) : ∀ (n i : Nat) (A : zA), MidE E A k i → wr A + n ≤ 10000 * k → ((wlF n i A).1 = true → MidE E (wlF n i A).2 k (i + n) ∧ wr (wlF n i A).2 ≤ wr A + n ∧ bf (wlF n i A).2 = bf A ∧ aS (wlF n i A).2 19 = aS A 19)
  | 0, i, A, h, _ => fun _ => ⟨h, Nat.le_refl _, rfl, rfl⟩
  | n + 1, i, A, h, h1 => by
    cases hx : (aV A 54).1[i]? with
    | none =>
      rw [wlF_n hx]
      exact fun _ => ⟨Mid_i h (by omega), by show wr A ≤ _; omega, rfl, rfl⟩
    | some x =>
      rw [wlF_s hx]
      by_cases c : lRt (aH A) (aV A 54) x = true
      · rw [if_pos c]
        have q := wlF_okE hk n (i + 1) A (Mid_i h (by omega)) (by omega)
        refine fun b => ?_
        obtain ⟨q1, q2, q3, q4⟩ := q b
        exact ⟨by rw [show i + (n + 1) = i + 1 + n by omega]; exact q1, by omega, q3, q4⟩
      · rw [if_neg c]
        by_cases c0 : aS A 13 = 0
        · rw [if_pos c0]
          exact fun q => absurd q (by simp)
        · rw [if_neg c0]
          obtain ⟨m1, m2⟩ := Mid_wl h hx (by omega) hk
          have q := wlF_okE hk n (i + 1) (aWl A i x) m1 (by omega)
          refine fun b => ?_
          obtain ⟨q1, q2, q3, q4⟩ := q b
          have e : ∀ j, j ≠ 11 → j ≠ 12 → j ≠ 13 → aS (aWl A i x) j = aS A j := fun j j1 j2 j3 => by
            show upd (aS (aActd A)) 11 (aS (aActd A) 11 + 1) j = _
            rw [upd_at, if_neg j1]
            exact aActd_S j2 j3
          refine ⟨by rw [show i + (n + 1) = i + 1 + n by omega]; exact q1, by omega, ?_, ?_⟩
          · rw [q3]
            exact congrArg gn (e 23 (by decide) (by decide) (by decide))
          · rw [q4]
            exact e 19 (by decide) (by decide) (by decide)
theorem C_wlLoop {X : gX} {A : zA} {nm : Nat → Nat} {k k' : Nat} (h : RC X A nm k') (hk : k ≤ 600) (hk' : k' ≤ 600) (hm : Mid A k 0) (hw : wr A + (aV A 54).1.length ≤ 10000 * k) : ((wlF (aV A 54).1.length 0 A).1 = true ∧ ∃ Y nm', f_Le_writeLists X = some (gR.v, Y) ∧ RC Y (wlF (aV A 54).1.length 0 A).2 nm' k' ∧ frC X Y) ∨ ((wlF (aV A 54).1.length 0 A).1 = false ∧ ∃ Y nm', f_Le_writeLists X = some (gR.t "java/lang/ArithmeticException", Y) ∧ RC Y (wlF (aV A 54).1.length 0 A).2 nm' k' ∧ frC X Y) := by
  unfold f_Le_writeLists
  have key9 := gI_wf (body := fun s : gX × Int32 => f_Le_writeLists_2 s.1 s.2) (fun s => ∃ Z B nm1 i, s = (Z, nI i) ∧ i ≤ (aV A 54).1.length ∧ (aV B 54).1.length = (aV A 54).1.length ∧ wlF ((aV A 54).1.length - i) i B = wlF (aV A 54).1.length 0 A ∧ RC Z B nm1 k' ∧ frC X Z ∧ Mid B k i ∧ wr B + ((aV A 54).1.length - i) ≤ 10000 * k) (fun r => ((wlF (aV A 54).1.length 0 A).1 = true ∧ ∃ Y nm', r = (gR.v, Y) ∧ RC Y (wlF (aV A 54).1.length 0 A).2 nm' k' ∧ frC X Y) ∨ ((wlF (aV A 54).1.length 0 A).1 = false ∧ ∃ Y nm', r = (gR.t "java/lang/ArithmeticException", Y) ∧ RC Y (wlF (aV A 54).1.length 0 A).2 nm' k' ∧ frC X Y)) (fun s => (aV A 54).1.length - gn s.2) (s0 := (X, 0)) (by
      have := VL_of (Mid_inv hm) 54 rfl (fun _ => hm.1)
      show (aV A 54).1.length - gn 0 ≤ 100000; omega) ⟨X, A, nm, 0, rfl, by omega, rfl, by rw [Nat.sub_zero], h, frC.rf, hm, by omega⟩ (fun s hI => by
    obtain ⟨Z, B, nm1, i, rfl, i1, il, i2, i3, i4, i5, i7⟩ := hI
    show (∃ s', f_Le_writeLists_2 Z (nI i) = _ ∧ _) ∨ (∃ r, f_Le_writeLists_2 Z (nI i) = _ ∧ _)
    have hCV := (RC_W i3).1.1 i5.1
    have hvB := VB_of i5.2.2.2.2.1.1.1 (show dc B - bf B ≤ 4096 by have := i5.2.1.1.1.2; omega)
    have hlen : (aV B 54).1.length ≤ 4096 := hvB.1.1
    unfold f_Le_writeLists_2 f_Le_writeLists_60
    rw [hCV.1]
    by_cases c : (aV A 54).1.length ≤ i
    · right
      have e : (aV A 54).1.length - i = 0 := by omega
      rw [e] at i2
      have i2' : (true, B) = wlF (aV A 54).1.length 0 A := i2
      rw [if_pos (nI_le (by omega) (by omega)), gLf_s]
      refine ⟨_, rfl, Or.inl ⟨by rw [← i2'], Z, nm1, rfl, ?_, i4⟩⟩
      rw [← i2']; exact i3
    · obtain ⟨m, hmm⟩ : ∃ m, (aV A 54).1.length - i = m + 1 := ⟨(aV A 54).1.length - i - 1, by omega⟩
      rw [hmm] at i2
      obtain ⟨x, hx⟩ := vs_at (l := (aV B 54).1) (s := i) (by omega)
      have hxm := vs_mem hx
      have i2' : (if lRt (aH B) (aV B 54) x = true then wlF m (i + 1) B else if aS B 13 = 0 then (false, aLose B) else wlF m (i + 1) (aWl B i x)) = wlF (aV A 54).1.length 0 A := by
        rw [← i2, wlF_s hx]
      have hWC : WC (aH B) (dc B - bf B) (aV B 54) := fun e he => (i5.2.2.2.2.1.1.2 e he).imp id (fun q => q.1)
      have hv54 := i5.2.2.2.2.2.1.1.2.2.1 i5.1
      have hTB := i5.2.2.1.1
      have hlr := C_listRight hCV (RC_T i3) hTB i5.2.2.2.2.1.1.1 (show dc B - bf B ≤ 4096 by have := i5.2.1.1.1.2; omega) hWC hv54 hx
      have hmeas : (aV A 54).1.length - gn (nI (i + 1)) < (aV A 54).1.length - gn (nI i) := by
        rw [gn_nI (by omega), gn_nI (by omega)]
        omega
      rw [if_neg (nI_ge (by omega) (by omega)), hlr, gCi_i]
      by_cases c1 : lRt (aH B) (aV B 54) x = true
      · left
        rw [if_pos c1] at i2'
        rw [c1, if_neg (by decide), nI_1]
        exact ⟨_, rfl, ⟨Z, B, nm1, i + 1, rfl, by omega, il, by rw [show (aV A 54).1.length - (i + 1) = m by omega]; exact i2', i3, i4, Mid_i i5 (by omega), by omega⟩, hmeas⟩
      · rw [if_neg c1] at i2'
        rw [show lRt (aH B) (aV B 54) x = false by simpa using c1, if_pos b2i_f]
        by_cases c0 : aS B 13 = 0
        · right
          rw [if_pos c0] at i2'
          obtain ⟨Y, y1, y2, y3⟩ := C_act0 i3 hTB hk' c0
          rw [y1, gCvt_t, gLf_s]
          refine ⟨_, rfl, Or.inr ⟨by rw [← i2'], Y, nm1, rfl, ?_, i4.tr y3⟩⟩
          rw [← i2']; exact y2
        · left
          rw [if_neg c0] at i2'
          obtain ⟨Y, y1, y2, y3⟩ := C_act1 i3 c0
          have eo : ¬ aS (aActd B) 18 = 0 := by rw [aActd_S (by decide) (by decide)]; exact i5.1
          have hCY := (RC_W y2).1.1 eo
          have j1 : gIn (nI i) 4096 = true := gIn_nI (by omega) (by omega)
          have hx1 : Y.G 9 i = some (nm1 x.1) := (hCY.2.2.1 i x hx).1
          have hlive : f_Vi_liveIn Y 8 (some (nm1 x.1)) = some (gR.i (nI ((aD B x.1).countP (aV B 54).2.1)), Y) := C_liveIn hCY (RC_T (A := aActd B) y2) hTB (hv54 x hxm).1 (i5.2.2.2.2.1.1.1.1 x hxm).1 (show dc B - bf B ≤ 4096 by have := i5.2.1.1.1.2; omega) (VI_cov i5.2.2.2.2.1.1.1 hWC hxm)
          have ew : wr (aActd B) = wr B := congrArg gn (aActd_S (by decide) (by decide))
          obtain ⟨W, q, w1, w2, w3, w4, w5, w6, w7⟩ := C_new (tl := (aD B x.1).countP (aV B 54).2.1) [] (aV B 54).2.1 y2 (NW_act (NW_mid i5)) (fun f hf => by rw [ew]; exact i5.2.2.1.2.1 f hf) (by rw [ew, aActd_S (by decide) (by decide)]; exact i5.2.1.1.2.2.1) (by have := i5.2.2.1.2.2; show (aT B).length < 59000; omega) hk'
          rw [ew] at w3
          have hCW := (RC_W w3).1.1 eo
          obtain ⟨m1, m2⟩ := Mid_wl i5 hx (by omega) hk
          have hCV2 : CV (W.g 10 i (some q)) 8 (nmu nm1 (wr B) q) ((aV B 54).1.set i (x.1, some (wr B), x.2.2), (aV B 54).2) := by
            refine ⟨?_, hCW.2.1, fun t y hy => ?_, hCW.2.2.2⟩
            · show _ = nI ((aV B 54).1.set i (x.1, some (wr B), x.2.2)).length
              rw [List.length_set]; exact hCW.1
            · have hy' : ((aV B 54).1.set i (x.1, some (wr B), x.2.2))[t]? = some y := hy
              rw [List.getElem?_set] at hy'
              by_cases ct : i = t
              · subst ct
                rw [if_pos rfl, if_pos (by omega)] at hy'
                have := Option.some.inj hy'
                subst this
                refine ⟨?_, ?_⟩
                · rw [gX.g_ne (by decide)]
                  exact (hCW.2.2.1 i x hx).1
                · rw [show 8 + 2 = 10 from rfl, g_same rfl]
                  show some q = some (nmu nm1 (wr B) q (wr B))
                  rw [nmu_w]
              · rw [if_neg ct] at hy'
                obtain ⟨b1, b2⟩ := hCW.2.2.1 t y hy'
                exact ⟨by rw [gX.g_ne (by decide)]; exact b1, by rw [show 8 + 2 = 10 from rfl, g_oth (Or.inr (fun e => ct e.symm))]; exact b2⟩
          have hRW : RC (W.g 10 i (some q)) (aWl B i x) (nmu nm1 (wr B) q) k' := RC_V54 w3 (frV.rf.g (Or.inr rfl)) (fun _ => hCV2)
          rw [y1, gCvt_v, if_pos j1, gn_nI (by omega), hx1, hlive, gCi_i, w1, gCa_a, if_pos j1, if_pos (show gOf W.N (some q) = true from w2), gB_b, nI_1]
          exact ⟨_, rfl, ⟨_, aWl B i x, _, i + 1, rfl, by omega, by rw [wl_len]; exact il, by rw [show (aV A 54).1.length - (i + 1) = m by omega]; exact i2', hRW, ((i4.tr y3.C).tr w4).g (by decide), m1, by omega⟩, by rw [gn_nI (k := i) (by omega)] at hmeas; exact hmeas⟩)
  obtain ⟨r, k1, k2⟩ := key9
  rcases k2 with ⟨b, Y, nm', rfl, q⟩ | ⟨b, Y, nm', rfl, q⟩
  · exact Or.inl ⟨b, Y, nm', k1, q⟩
  · exact Or.inr ⟨b, Y, nm', k1, q⟩
