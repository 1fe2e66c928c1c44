/-! THE PURE SIDE: loops that may end early; corrupt and sync of the reference -/
theorem gI_ex {σ ρ : Type} {body : σ → Option (σ ⊕ ρ)} (st : Nat → σ) (p : Nat → Bool) (r : Nat → ρ) (r0 : ρ) (N : Nat) (hN : N ≤ 100000) (h1 : ∀ k, k < N → p k = false → body (st k) = some (Sum.inl (st (k + 1)))) (h2 : ∀ k, k < N → p k = true → body (st k) = some (Sum.inr (r k))) (h3 : body (st N) = some (Sum.inr r0)) {s0 : σ} (h0 : s0 = st 0) : (∃ k, k < N ∧ p k = true ∧ (∀ j, j < k → p j = false) ∧ gI body gK s0 = some (r k)) ∨ ((∀ k, k < N → p k = false) ∧ gI body gK s0 = some r0) := by
  have key := gI_wf (body := body) (fun s => ∃ k, k ≤ N ∧ s = st k ∧ ∀ j, j < k → p j = false) (fun q => (∃ k, k < N ∧ p k = true ∧ (∀ j, j < k → p j = false) ∧ q = r k) ∨ ((∀ k, k < N → p k = false) ∧ q = r0)) 
  have key2 : ∀ (m k : Nat), k + m = N → (∀ j, j < k → p j = false) → ∀ f, (∃ k, k < N ∧ p k = true ∧ (∀ j, j < k → p j = false) ∧ gI body (m + 1 + f) (st (N - m)) = some (r k)) ∨ ((∀ k, k < N → p k = false) ∧ gI body (m + 1 + f) (st (N - m)) = some r0) := by
    intro m
    induction m with
    | zero =>
      intro k hk hj f
      right
      refine ⟨fun i hi => hj i (by omega), ?_⟩
      rw [show 0 + 1 + f = f + 1 by omega, Nat.sub_zero]
      exact gI_r h3
    | succ m ih =>
      intro k hk hj f
      have e1 : N - (m + 1) = k := by omega
      rw [e1, show m + 1 + 1 + f = (m + 1 + f) + 1 by omega]
      cases c : p k with
      | true =>
        left
        exact ⟨k, by omega, c, hj, gI_r (h2 k (by omega) c)⟩
      | false =>
        rw [gI_l (h1 k (by omega) c), show k + 1 = N - m by omega]
        exact ih (k + 1) (by omega) (fun j hj' => by
          by_cases c2 : j = k
          · rw [c2]; exact c
          · exact hj j (by omega)) f
  have h4 := gK_lt hN
  have h5 := key2 N 0 (by omega) (fun j hj => absurd hj (by omega)) (gK - (N + 1))
  rw [show N + 1 + (gK - (N + 1)) = gK by omega, Nat.sub_self] at h5
  rw [h0]
  exact h5
def hrm (t : List zF) (k : Nat) : Bool := t.any (fun f => decide (f.1 = k) && f.2.2)
def syn (t : List zF) (k : Nat) : Bool := t.any (fun f => decide (f.1 = k) && f.2.1)
def hrO (t : List zF) : Option Nat → Bool
  | none => false
  | some k => hrm t k
theorem any_at {t : List zF} {i : Nat} {f : zF} (p : zF → Bool) (hb : TB t) (e : t[i]? = some f) : t.any (fun g => decide (g.1 = f.1) && p g) = p f := by
  cases c : p f with
  | true =>
    rw [List.any_eq_true]
    exact ⟨f, vs_mem e, by simp [c]⟩
  | false =>
    rw [List.any_eq_false]
    intro g hg h
    simp only [Bool.and_eq_true, decide_eq_true_eq] at h
    obtain ⟨j, hj⟩ := List.getElem?_of_mem hg
    have e1 := TB_in hb hj e h.1
    subst e1
    have : g = f := Option.some.inj (hj.symm.trans e)
    rw [this, c] at h
    exact absurd h.2 (by simp)
theorem hrm_at {t : List zF} {i : Nat} {f : zF} (hb : TB t) (e : t[i]? = some f) : hrm t f.1 = f.2.2 := any_at (fun g => g.2.2) hb e
theorem syn_at {t : List zF} {i : Nat} {f : zF} (hb : TB t) (e : t[i]? = some f) : syn t f.1 = f.2.1 := any_at (fun g => g.2.1) hb e
/-- the place of a file, and what is said there -/
theorem z_find {X : gX} {t : List zF} {k : Nat} (h : mT X t) (hb : TB t) (hk : hav t k) : ∃ i, f_Mo_place X (nI k) = some (gR.i (nI i), X) ∧ i < 60000 ∧ (∃ f, t[i]? = some f ∧ f.1 = k) ∧ X.I 51 i = b2i (syn t k) ∧ X.I 52 i = b2i (hrm t k) := by
  obtain ⟨i, f, h1, rfl⟩ := hav_at hk
  have hi := vs_lt h1
  have hb1 := hb.1
  refine ⟨i, z_place h hb h1, by omega, ⟨f, h1, rfl⟩, ?_, ?_⟩
  · rw [syn_at hb h1]
    exact hl_m (g := fun f => b2i f.2.1) h.2.2.1 h1
  · rw [hrm_at hb h1]
    exact hl_m (g := fun f => b2i f.2.2) h.2.2.2 h1
/-- the commit is corrupt -/
def corS (t : List zF) (x : zS) : Bool := hrm t x.1 || hrO t x.2.1
def cor (A : zA) : Bool := hrm (aT A) (aV A 62).2.2.1 || (aV A 62).1.any (corS (aT A))
theorem z_corrupt {X : gX} {A : zA} (h : RM X A) (hb : TB (aT A)) (hV : VL A) (hh : hvV true (aT A) (aV A 62)) (ho : hav (aT A) (aV A 62).2.2.1) : f_Mo_corrupt X = some (gR.i (b2i (cor A)), X) := by
  have hv := h.2.2.2.1 62 rfl
  have hVL := hV 62 rfl (fun e => absurd e (by decide))
  have hT := h.2.2.1
  unfold f_Mo_corrupt
  obtain ⟨i, p1, p2, -, -, p3⟩ := z_find hT hb ho
  rw [hv.1.2.2.1, p1, gCi_i, if_pos (gIn_nI p2 (by omega)), gn_nI (by omega), p3]
  unfold cor
  cases c : hrm (aT A) (aV A 62).2.2.1 with
  | true =>
    rw [if_neg (by decide), Bool.true_or]
    rfl
  | false =>
    rw [if_pos b2i_f, Bool.false_or]
    have key := gI_ex (body := fun s : gX × Int32 => f_Mo_corrupt_23 s.1 s.2) (fun k => (X, nI k)) (fun k => match (aV A 62).1[k]? with | none => false | some x => corS (aT A) x) (fun _ => (gR.i 1, X)) (gR.i 0, X) (aV A 62).1.length (by omega) (fun k hk hp => ?_) (fun k hk hp => ?_) ?_ (s0 := (X, 0)) rfl
    · rcases key with ⟨k, hk, hp, -, e⟩ | ⟨hp, e⟩
      · rw [e]
        obtain ⟨x, hx⟩ := vs_at hk
        have : (aV A 62).1.any (corS (aT A)) = true := by
          rw [List.any_eq_true]
          refine ⟨x, vs_mem hx, ?_⟩
          simpa [hx] using hp
        rw [this]
        rfl
      · rw [e]
        have : (aV A 62).1.any (corS (aT A)) = false := by
          rw [List.any_eq_false]
          intro x hx
          obtain ⟨k, hk⟩ := List.getElem?_of_mem hx
          have := hp k (vs_lt hk)
          simp only [hk] at this
          simp [this]
        rw [this]
        rfl
    · obtain ⟨x, hx⟩ := vs_at hk
      simp only [hx] at hp
      unfold corS at hp
      obtain ⟨hp1, hp2⟩ := Bool.or_eq_false_iff.mp hp
      obtain ⟨q1, q2⟩ := hh x (vs_mem hx)
      obtain ⟨i1, s1, s2, -, -, s3⟩ := z_find hT hb q1
      have r1 := hl_m hv.2.1.1 hx
      have r2 := hl_m hv.2.1.2.1 hx
      show f_Mo_corrupt_23 X (nI k) = _
      unfold f_Mo_corrupt_23
      have j1 : gIn (nI k) 4097 = true := gIn_nI (by omega) (by omega)
      rw [hv.1.1, if_neg (nI_ge (by omega) (by omega))]
      simp only [j1, if_true]
      rw [gn_nI (by omega), r1, s1, gCi_i, if_pos (gIn_nI s2 (by omega)), gn_nI (by omega), s3, hp1, if_pos b2i_f, r2]
      cases hl2 : x.2.1 with
      | none =>
        rw [if_pos (by decide)]
        unfold f_Mo_corrupt_90
        rw [nI_1]
      | some l =>
        have q3 := q2 rfl l hl2
        have q4 := hav_lt hb q3
        obtain ⟨i2, t1, t2, -, -, t3⟩ := z_find hT hb q3
        rw [hl2] at hp2
        have hp3 : hrm (aT A) l = false := hp2
        rw [show li (some l) = nI l from rfl, if_neg (nI_pos (by omega)), t1, gCi_i, if_pos (gIn_nI t2 (by omega)), gn_nI (by omega), t3, hp3, if_pos b2i_f]
        unfold f_Mo_corrupt_90
        rw [nI_1]
    · obtain ⟨x, hx⟩ := vs_at hk
      simp only [hx] at hp
      unfold corS at hp
      obtain ⟨q1, q2⟩ := hh x (vs_mem hx)
      obtain ⟨i1, s1, s2, -, -, s3⟩ := z_find hT hb q1
      have r1 := hl_m hv.2.1.1 hx
      have r2 := hl_m hv.2.1.2.1 hx
      show f_Mo_corrupt_23 X (nI k) = _
      unfold f_Mo_corrupt_23
      have j1 : gIn (nI k) 4097 = true := gIn_nI (by omega) (by omega)
      rw [hv.1.1, if_neg (nI_ge (by omega) (by omega))]
      simp only [j1, if_true]
      rw [gn_nI (by omega), r1, s1, gCi_i, if_pos (gIn_nI s2 (by omega)), gn_nI (by omega), s3]
      cases c1 : hrm (aT A) x.1 with
      | true =>
        rw [if_neg (by decide)]
        rfl
      | false =>
        rw [c1, Bool.false_or] at hp
        rw [if_pos b2i_f, r2]
        cases hl2 : x.2.1 with
        | none =>
          rw [hl2] at hp
          exact absurd hp (by simp [hrO])
        | some l =>
          have q3 := q2 rfl l hl2
          have q4 := hav_lt hb q3
          obtain ⟨i2, t1, t2, -, -, t3⟩ := z_find hT hb q3
          rw [hl2] at hp
          have hp3 : hrm (aT A) l = true := hp
          rw [show li (some l) = nI l from rfl, if_neg (nI_pos (by omega)), t1, gCi_i, if_pos (gIn_nI t2 (by omega)), gn_nI (by omega), t3, hp3, if_neg (by decide)]
          rfl
    · show f_Mo_corrupt_23 X (nI (aV A 62).1.length) = _
      unfold f_Mo_corrupt_23
      rw [hv.1.1, if_pos (nI_le (Nat.le_refl _) (by omega))]
      rfl
/-- a file is synced -/
def tSyn (t : List zF) (k : Nat) : List zF := t.map (fun f => if f.1 = k then (f.1, true, f.2.2) else f)
def aSyn (A : zA) (k : Nat) : zA := sT A (tSyn (aT A) k)
theorem TB_syn {t : List zF} {k : Nat} (h : TB t) : TB (tSyn t k) := by
  have e : ∀ f : zF, (if f.1 = k then (f.1, true, f.2.2) else f).1 = f.1 := fun f => by
    by_cases c : f.1 = k
    · rw [if_pos c]
    · rw [if_neg c]
  refine ⟨by unfold tSyn; rw [List.length_map]; exact h.1, ?_, fun f hf => ?_⟩
  · unfold tSyn
    rw [List.pairwise_map]
    exact h.2.1.imp (fun {a b} hab => by rw [e a, e b]; exact hab)
  · unfold tSyn at hf
    obtain ⟨g, h1, h2⟩ := List.mem_map.mp hf
    rw [← h2, e g]
    exact h.2.2 g h1
theorem z_sync1 {X : gX} {A : zA} {k : Nat} (h : RM X A) (hb : TB (aT A)) (hk : hav (aT A) k) (hs : syn (aT A) k = true) : f_Mo_sync X (nI k) = some (gR.i 1, X) := by
  obtain ⟨i, p1, p2, -, p4, -⟩ := z_find h.2.2.1 hb hk
  unfold f_Mo_sync
  rw [p1, gCi_i, if_pos (gIn_nI p2 (by omega)), gn_nI (by omega), p4, hs, if_neg (by decide)]
theorem z_sync0 {X : gX} {A : zA} {k : Nat} (h : RM X A) (hb : TB (aT A)) (hk : hav (aT A) k) (hs : syn (aT A) k = false) (h0 : aS A 13 = 0) : ∃ Y, f_Mo_sync X (nI k) = some (gR.i 0, Y) ∧ RM Y (aLose A) ∧ frM X Y ∧ Y.I 46 0 = 6 := by
  obtain ⟨i, p1, p2, -, p4, -⟩ := z_find h.2.2.1 hb hk
  obtain ⟨Y, y1, y2⟩ := z_act0 h hb h0
  unfold f_Mo_sync
  rw [p1, gCi_i, if_pos (gIn_nI p2 (by omega)), gn_nI (by omega), p4, hs, if_pos b2i_f, y1, gCi_i]
  exact ⟨Y, rfl, y2⟩
theorem z_sync2 {X : gX} {A : zA} {k : Nat} (h : RM X A) (hb : TB (aT A)) (hk : hav (aT A) k) (hs : syn (aT A) k = false) (h0 : ¬ aS A 13 = 0) : ∃ Y, f_Mo_sync X (nI k) = some (gR.i 1, Y) ∧ RM Y (aSyn (aActd A) k) ∧ frM X Y ∧ Y.I 46 0 = X.I 46 0 := by
  obtain ⟨i, p1, p2, -, p4, -⟩ := z_find h.2.2.1 hb hk
  obtain ⟨Y, y1, y2, y3, y4⟩ := z_act1 h h0
  obtain ⟨i', p5, p6, ⟨f, p7, p8⟩, -, -⟩ := z_find (t := aT A) y2.2.2.1 hb hk
  unfold f_Mo_sync
  rw [p1, gCi_i, if_pos (gIn_nI p2 (by omega)), gn_nI (by omega), p4, hs, if_pos b2i_f, y1, gCi_i, if_neg (by decide), p5, gCi_i, if_pos (gIn_nI p6 (by omega)), gn_nI (by omega), gB_b]
  refine ⟨_, rfl, ?_, y3.w (by omega), (w_oth (Or.inl (by decide))).trans y4⟩
  have hT := y2.2.2.1
  have hat : ∀ j g, (tSyn (aT A) k)[j]? = some g → ∃ f', (aT A)[j]? = some f' ∧ g = if f'.1 = k then (f'.1, true, f'.2.2) else f' := fun j g hg => by
    unfold tSyn at hg
    rw [List.getElem?_map] at hg
    obtain ⟨f', h1, h2⟩ := Option.map_eq_some_iff.mp hg
    exact ⟨f', h1, h2.symm⟩
  refine RM_sT (A := aActd A) (s := aS (aActd A)) (t := tSyn (aT A) k) y2 (fun a ha => gX.w_ne (by omega)) rfl (fun j j1 j2 j3 => (w_oth (Or.inl (by decide))).trans (y2.1 j j1 j2 j3)) ⟨?_, hl_mk (fun j g hg => ?_), hl_mk (fun j g hg => ?_), hl_mk (fun j g hg => ?_)⟩ rfl rfl
  · rw [w_oth (Or.inl (by decide)), hT.1]
    unfold tSyn
    rw [List.length_map]
    rfl
  · obtain ⟨f', e1, e2⟩ := hat j g hg
    have q := hl_m hT.2.1 e1
    rw [w_oth (Or.inl (by decide)), q, e2]
    by_cases c : f'.1 = k
    · rw [if_pos c]
    · rw [if_neg c]
  · obtain ⟨f', e1, e2⟩ := hat j g hg
    have q := hl_m hT.2.2.1 e1
    by_cases c : j = i'
    · subst c
      have : f' = f := Option.some.inj (e1.symm.trans p7)
      rw [w_same rfl, e2, this, if_pos p8]
      rfl
    · rw [w_oth (Or.inr c), q, e2, if_neg (fun e => c (TB_in hb e1 p7 (e.trans p8.symm)))]
  · obtain ⟨f', e1, e2⟩ := hat j g hg
    have q := hl_m hT.2.2.2 e1
    rw [w_oth (Or.inl (by decide)), q, e2]
    by_cases c : f'.1 = k
    · rw [if_pos c]
    · rw [if_neg c]
