/-! THE PURE SIDE: the reference chooses what to merge -/
theorem RM_33 {X : gX} {A : zA} {v : Int32} (h : RM X A) : RM (X.w 46 33 v) A := by
  have q := (RM_Sw (j := 33) (v := v) h (by decide) (by decide) (by decide) (by decide)).1
  refine ⟨fun j j1 j2 j3 => (q.1 j j1 j2 j3).trans ?_, q.2⟩
  show upd (aS A) 33 v j = _
  rw [upd_at, if_neg j3]
theorem PolF_u {A : zA} {l s s' : Nat} (h : PolF A l s) (h' : PolF A l s') : s = s' := by
  rcases Nat.lt_trichotomy s s' with c | c | c
  · exact absurd h.1 (h'.2 s c)
  · exact c
  · exact absurd h'.1 (h.2 s' c)
theorem z_row {X : gX} {A : zA} {l s : Nat} (h : RM X A) (hB : VB (aD A) (aV A 54)) (hg : aS A 25 = nI (gn (aS A 25)) ∧ 2 ≤ gn (aS A 25) ∧ gn (aS A 25) ≤ 64) (hl : l < 13) (hs : s ≤ 4096) (hm6 : ∀ x, x ∈ (aV A 54).1 → x.2.2 < 1000000) : (rowP (fit A l) (aV A 54).1.length (gn (aS A 25)) s ∧ f_Mo_row X (nI s) (nI (gn (aS A 25))) (nI l) = some (gR.i 1, X)) ∨ (¬ rowP (fit A l) (aV A 54).1.length (gn (aS A 25)) s ∧ f_Mo_row X (nI s) (nI (gn (aS A 25))) (nI l) = some (gR.i 0, X)) := by
  have hV := RM_V h 54 rfl
  have hlen := hB.1
  obtain ⟨g0, g1, g2⟩ := hg
  unfold f_Mo_row
  rw [nI_add, hV.1.1]
  by_cases c : s + gn (aS A 25) ≤ (aV A 54).1.length
  · rw [if_pos (nI_le c (by omega))]
    have key := gI_ex (body := fun t : gX × Int32 => f_Mo_row_18 t.1 (nI s) (nI (gn (aS A 25))) (nI l) t.2) (fun i => (X, nI (s + i))) (fun i => !fit A l (s + i)) (fun _ => (gR.i 0, X)) (gR.i 1, X) (gn (aS A 25)) (by omega) (fun i hi hp => ?_) (fun i hi hp => ?_) ?_ (s0 := (X, nI s)) rfl
    · rcases key with ⟨i, hi, hp, -, e⟩ | ⟨hp, e⟩
      · refine Or.inr ⟨fun q => ?_, e⟩
        have := q.2 i hi
        rw [this] at hp
        cases hp
      · refine Or.inl ⟨⟨c, fun j hj => ?_⟩, e⟩
        have := hp j hj
        cases r : fit A l (s + j) with
        | true => rfl
        | false => rw [r] at this; cases this
    · obtain ⟨x, hx⟩ := vs_at (l := (aV A 54).1) (s := s + i) (by omega)
      have hf : fit A l (s + i) = true := by
        cases r : fit A l (s + i) with
        | true => rfl
        | false => rw [r] at hp; cases hp
      unfold fit at hf
      rw [hx] at hf
      simp only [Bool.and_eq_true, decide_eq_true_eq] at hf
      have q58 : X.I 58 (s + i) = nI x.2.2 := hl_m (g := fun x : zS => nI x.2.2) hV.2.1.2.2 hx
      have hlv := z_level h hB hx ⟨g0, g1, g2⟩
      show f_Mo_row_18 X (nI s) (nI (gn (aS A 25))) (nI l) (nI (s + i)) = _
      unfold f_Mo_row_18
      rw [nI_add, if_neg (nI_ge (by omega) (by omega)), if_pos (gIn_nI (by omega) (by omega)), gn_nI (by omega), q58, if_pos (by rw [hf.1]; rfl), hlv, gCi_i, if_pos (nI_le hf.2 (by omega)), nI_1]
      rfl
    · obtain ⟨x, hx⟩ := vs_at (l := (aV A 54).1) (s := s + i) (by omega)
      have hf : fit A l (s + i) = false := by
        cases r : fit A l (s + i) with
        | false => rfl
        | true => rw [r] at hp; cases hp
      unfold fit at hf
      rw [hx] at hf
      have hf : (decide (x.2.2 = 0) && decide (lev (gn (aS A 25)) ((aD A x.1).countP (aV A 54).2.1) ≤ l)) = false := hf
      have q58 : X.I 58 (s + i) = nI x.2.2 := hl_m (g := fun x : zS => nI x.2.2) hV.2.1.2.2 hx
      have hlv := z_level h hB hx ⟨g0, g1, g2⟩
      have hcl : (aD A x.1).countP (aV A 54).2.1 ≤ 4096 := by
        have q1 := List.countP_le_length (p := (aV A 54).2.1) (l := aD A x.1)
        have q2 := off_s (D := aD A) hx
        have q3 := off_all (D := aD A) (l := (aV A 54).1) (s := s + i + 1)
        have q4 : (fl (aD A) (aV A 54).1).length ≤ 4096 := hB.2.1
        omega
      have hL12 := (LV_lev (n := (aD A x.1).countP (aV A 54).2.1) g1 hcl).1
      show f_Mo_row_18 X (nI s) (nI (gn (aS A 25))) (nI l) (nI (s + i)) = _
      unfold f_Mo_row_18 f_Mo_row_49
      rw [nI_add, if_neg (nI_ge (by omega) (by omega)), if_pos (gIn_nI (by omega) (by omega)), gn_nI (by omega), q58]
      by_cases c2 : x.2.2 = 0
      · have c3 : ¬ lev (gn (aS A 25)) ((aD A x.1).countP (aV A 54).2.1) ≤ l := fun q => by
          rw [decide_eq_true c2, decide_eq_true q] at hf
          cases hf
        rw [if_pos (by rw [c2]; rfl), hlv, gCi_i, if_neg (nI_ge (by omega) (by omega)), gLf_s]
      · rw [if_neg (nI_ne0 (by omega) (by have := hm6 x (vs_mem hx); omega)), gLf_s]
    · show f_Mo_row_18 X (nI s) (nI (gn (aS A 25))) (nI l) (nI (s + gn (aS A 25))) = _
      unfold f_Mo_row_18
      rw [nI_add, if_pos (nI_le (Nat.le_refl _) (by omega)), gLf_s]
  · rw [if_neg (nI_ge (by omega) (by omega))]
    exact Or.inr ⟨fun q => c q.1, rfl⟩
noncomputable def rwB (A : zA) (l s : Nat) : Bool := @decide (rowP (fit A l) (aV A 54).1.length (gn (aS A 25)) s) (Classical.propDecidable _)
theorem rwB_t {A : zA} {l s : Nat} (h : rwB A l s = true) : rowP (fit A l) (aV A 54).1.length (gn (aS A 25)) s := @of_decide_eq_true _ (Classical.propDecidable _) h
theorem rwB_f {A : zA} {l s : Nat} (h : rwB A l s = false) : ¬ rowP (fit A l) (aV A 54).1.length (gn (aS A 25)) s := @of_decide_eq_false _ (Classical.propDecidable _) h
theorem z_polIn {X : gX} {A : zA} {l : Nat} (h : RM X A) (hB : VB (aD A) (aV A 54)) (hg : aS A 25 = nI (gn (aS A 25)) ∧ 2 ≤ gn (aS A 25) ∧ gn (aS A 25) ≤ 64) (hl : l < 13) (hm6 : ∀ x, x ∈ (aV A 54).1 → x.2.2 < 1000000) : (∃ s, PolF A l s ∧ gI (fun t : gX × Int32 => f_Mo_chosen_113 t.1 (nI l) t.2) gK (X, 0) = some (Sum.inr (gR.i (nI s), X))) ∨ (PolN A l ∧ gI (fun t : gX × Int32 => f_Mo_chosen_113 t.1 (nI l) t.2) gK (X, 0) = some (Sum.inl (X, nI (l + 1)))) := by
  have hV := RM_V h 54 rfl
  have hlen := hB.1
  have e25 := RM_S h 25 (by decide) (by decide) (by decide)
  have key := gI_ex (body := fun t : gX × Int32 => f_Mo_chosen_113 t.1 (nI l) t.2) (fun i => (X, nI i)) (fun i => rwB A l i) (fun s => Sum.inr (gR.i (nI s), X)) (Sum.inl (X, nI (l + 1))) (aV A 54).1.length (by omega) (fun i hi hp => ?_) (fun i hi hp => ?_) ?_ (s0 := (X, 0)) rfl
  · rcases key with ⟨s, hs, hp, hp', e⟩ | ⟨hp, e⟩
    · exact Or.inl ⟨s, ⟨rwB_t hp, fun s' hs' => rwB_f (hp' s' hs')⟩, e⟩
    · refine Or.inr ⟨fun s q => ?_, e⟩
      have q1 := q.1
      exact rwB_f (hp s (by have := hg.2.1; omega)) q
  · show f_Mo_chosen_113 X (nI l) (nI i) = _
    unfold f_Mo_chosen_113
    rw [hV.1.1, if_neg (nI_ge hi (by omega)), e25, hg.1]
    rcases z_row (s := i) h hB hg hl (by omega) hm6 with ⟨q, e⟩ | ⟨q, e⟩
    · exact absurd q (rwB_f hp)
    · rw [e, gCi_i, if_pos rfl, nI_1]
  · show f_Mo_chosen_113 X (nI l) (nI i) = _
    unfold f_Mo_chosen_113
    rw [hV.1.1, if_neg (nI_ge hi (by omega)), e25, hg.1]
    rcases z_row (s := i) h hB hg hl (by omega) hm6 with ⟨q, e⟩ | ⟨q, e⟩
    · rw [e, gCi_i, if_neg (show ¬ (1 : Int32) = 0 by decide), gLf_s, gLf_s]
    · exact absurd (rwB_t hp) q
  · show f_Mo_chosen_113 X (nI l) (nI (aV A 54).1.length) = _
    unfold f_Mo_chosen_113
    rw [hV.1.1, if_pos (nI_le (Nat.le_refl _) (by omega)), gLf_s, nI_1]
noncomputable def plB (A : zA) (l : Nat) : Bool := @decide (∃ s, PolF A l s) (Classical.propDecidable _)
theorem z_policy {X : gX} {A : zA} (h : RM X A) (hB : VB (aD A) (aV A 54)) (hg : aS A 25 = nI (gn (aS A 25)) ∧ 2 ≤ gn (aS A 25) ∧ gn (aS A 25) ≤ 64) (hm6 : ∀ x, x ∈ (aV A 54).1 → x.2.2 < 1000000) : (∃ l s, PolS A l s ∧ f_Mo_chosen X 0 = some (gR.i (nI s), X.w 46 33 (nI (gn (aS A 25))))) ∨ ((∀ l, l < 13 → PolN A l) ∧ f_Mo_chosen X 0 = some (gR.i (-1), X.w 46 33 (nI (gn (aS A 25))))) := by
  unfold f_Mo_chosen
  rw [if_neg (show ¬ (0 : Int32) = 1 by decide), gB_b, RM_S h 25 (by decide) (by decide) (by decide)]
  have h' : RM (X.w 46 33 (aS A 25)) A := RM_33 h
  have e25 : X.w 46 33 (aS A 25) = X.w 46 33 (nI (gn (aS A 25))) := by
    conv => lhs; rw [hg.1]
  rw [e25] at h' ⊢
  generalize X.w 46 33 (nI (gn (aS A 25))) = Y at h' ⊢
  have tt : ∀ l, plB A l = true → ∃ s, PolF A l s := fun l q => @of_decide_eq_true _ (Classical.propDecidable _) q
  have ff : ∀ l, plB A l = false → ¬ ∃ s, PolF A l s := fun l q => @of_decide_eq_false _ (Classical.propDecidable _) q
  have nn : ∀ l, l < 13 → (¬ ∃ s, PolF A l s) → PolN A l := fun l hl q => by
    rcases z_polIn (l := l) h' hB hg hl hm6 with ⟨s, r, _⟩ | ⟨r, _⟩
    · exact absurd ⟨s, r⟩ q
    · exact r
  have key := gI_ex (body := fun t : gX × Int32 => f_Mo_chosen_105 t.1 t.2) (fun l => (Y, nI l)) (fun l => plB A l) (fun l => (gR.i (nI (Classical.epsilon (PolF A l))), Y)) (gR.i (-1), Y) 13 (by omega) (fun l hl hp => ?_) (fun l hl hp => ?_) ?_ (s0 := (Y, 0)) rfl
  · rcases key with ⟨l, hl, hp, hp', e⟩ | ⟨hp, e⟩
    · obtain ⟨s, hs⟩ := tt l hp
      have es : s = Classical.epsilon (PolF A l) := PolF_u hs (Classical.epsilon_spec ⟨s, hs⟩)
      rw [← es] at e
      exact Or.inl ⟨l, s, ⟨hl, hs, fun l' hl' => nn l' (by omega) (ff l' (hp' l' hl'))⟩, e⟩
    · exact Or.inr ⟨fun l hl => nn l hl (ff l (hp l hl)), e⟩
  · show f_Mo_chosen_105 Y (nI l) = _
    unfold f_Mo_chosen_105
    rw [if_neg (show ¬ (13 : Int32) ≤ nI l from nI_ge (b := 13) hl (by omega))]
    rcases z_polIn (l := l) h' hB hg hl hm6 with ⟨s, r, _⟩ | ⟨r, e⟩
    · exact absurd ⟨s, r⟩ (ff l hp)
    · exact e
  · show f_Mo_chosen_105 Y (nI l) = _
    unfold f_Mo_chosen_105
    rw [if_neg (show ¬ (13 : Int32) ≤ nI l from nI_ge (b := 13) hl (by omega))]
    rcases z_polIn (l := l) h' hB hg hl hm6 with ⟨s, r, e⟩ | ⟨r, _⟩
    · have es : s = Classical.epsilon (PolF A l) := PolF_u r (Classical.epsilon_spec ⟨s, r⟩)
      rw [← es]
      exact e
    · obtain ⟨s, hs⟩ := tt l hp
      exact absurd hs.1 (r s)
  · show f_Mo_chosen_105 Y (nI 13) = _
    unfold f_Mo_chosen_105
    rw [if_pos (show (13 : Int32) ≤ nI 13 by decide), gLf_s]
theorem z_allm {X : gX} {A : zA} {k p : Nat} (h : RM X A) (hm : Mid A k p) (hk : k ≤ 600) : f_Mo_chosen X 1 = some (gR.i (if amg A = true then 0 else -1), X.w 46 33 (nI (aV A 54).1.length)) := by
  have hB := (VB_of hm.2.2.2.2.1.1.1 (show dc A - bf A ≤ 4096 by have := hm.2.1.1.1.2; omega)).1
  have hlen := hB.1
  have h' : RM (X.w 46 33 (nI (aV A 54).1.length)) A := RM_33 h
  unfold f_Mo_chosen
  rw [if_pos rfl, gB_b, (RM_V h 54 rfl).1.1]
  generalize X.w 46 33 (nI (aV A 54).1.length) = Y at h' ⊢
  have hV := RM_V h' 54 rfl
  obtain ⟨a3, a3', a3''⟩ := hm.2.2.2.2.1.2.2.1
  have key := gI_ex (body := fun t : Int32 => f_Mo_chosen_18 Y t) (fun i => nI i) (fun i => match (aV A 54).1[i]? with | none => false | some x => !decide (x.2.2 = 0)) (fun _ => (gR.i (-1), Y)) (gR.i (if (decide (1 < (aV A 54).1.length) || match (aV A 54).1[0]? with | none => false | some x => decide ((aD A x.1).countP (aV A 54).2.1 < (aD A x.1).length)) = true then 0 else -1), Y) (aV A 54).1.length (by omega) (fun i hi hp => ?_) (fun i hi hp => ?_) ?_ (s0 := 0) rfl
  · rcases key with ⟨i, hi, hp, -, e⟩ | ⟨hp, e⟩
    · rw [e]
      obtain ⟨x, hx⟩ := vs_at (l := (aV A 54).1) (s := i) hi
      rw [hx] at hp
      have hx0 : ¬ x.2.2 = 0 := by simpa using hp
      obtain ⟨m, m1, m2⟩ := a3'' x (vs_mem hx) hx0
      have : amg A = false := by
        unfold amg
        have : ¬ (aM A).length = 0 := fun q => by
          rw [List.eq_nil_of_length_eq_zero q] at m1
          cases m1
        simp [this]
      rw [this]
      rfl
    · rw [e]
      have : (aM A).length = 0 := by
        cases hM : aM A with
        | nil => rfl
        | cons m t =>
          have hmm : m ∈ aM A := by rw [hM]; simp
          obtain ⟨r1, -, -, -, ⟨x, x1, x2, -⟩, -⟩ := a3 m hmm
          obtain ⟨i, hi⟩ := List.getElem?_of_mem x1
          have := hp i (vs_lt hi)
          rw [hi] at this
          have hx0 : x.2.2 = 0 := by simpa using this
          omega
      unfold amg
      rw [this]
      rfl
  · obtain ⟨x, hx⟩ := vs_at (l := (aV A 54).1) (s := i) hi
    rw [hx] at hp
    have hx0 : x.2.2 = 0 := by simpa using hp
    have q58 : Y.I 58 i = nI x.2.2 := hl_m (g := fun x : zS => nI x.2.2) hV.2.1.2.2 hx
    show f_Mo_chosen_18 Y (nI i) = _
    unfold f_Mo_chosen_18
    rw [hV.1.1, if_neg (nI_ge hi (by omega)), if_pos (gIn_nI (by omega) (by omega)), gn_nI (by omega), q58, if_pos (by rw [hx0]; rfl), nI_1]
  · obtain ⟨x, hx⟩ := vs_at (l := (aV A 54).1) (s := i) hi
    rw [hx] at hp
    have hx0 : ¬ x.2.2 = 0 := by simpa using hp
    have q58 : Y.I 58 i = nI x.2.2 := hl_m (g := fun x : zS => nI x.2.2) hV.2.1.2.2 hx
    show f_Mo_chosen_18 Y (nI i) = _
    unfold f_Mo_chosen_18
    rw [hV.1.1, if_neg (nI_ge hi (by omega)), if_pos (gIn_nI (by omega) (by omega)), gn_nI (by omega), q58, if_neg (nI_ne0 (by omega) (by have := hB.2.2 x (vs_mem hx); omega)), gLf_s]
  · show f_Mo_chosen_18 Y (nI (aV A 54).1.length) = _
    unfold f_Mo_chosen_18 f_Mo_chosen_89 f_Mo_chosen_93
    rw [hV.1.1, if_pos (nI_le (Nat.le_refl _) (by omega))]
    by_cases c1 : 1 < (aV A 54).1.length
    · rw [if_pos (show (1 : Int32) < nI (aV A 54).1.length from nI_lt (a := 1) c1 (by omega)), gLf_s, decide_eq_true c1]
      rfl
    · rw [if_neg (show ¬ (1 : Int32) < nI (aV A 54).1.length from nI_nlt (a := 1) (by omega) (by omega)), decide_eq_false c1]
      by_cases c2 : (aV A 54).1.length = 1
      · obtain ⟨x, hx⟩ := vs_at (l := (aV A 54).1) (s := 0) (by omega)
        have ed : (fl (aD A) (aV A 54).1).length = (aD A x.1).length := by
          rw [← off_end, c2, off_s hx, off_0]; omega
        have hf4 : (fl (aD A) (aV A 54).1).length ≤ 4096 := hB.2.1
        have hli : f_Ve_liveIn Y 54 0 = some (gR.i (nI ((aD A x.1).countP (aV A 54).2.1)), Y) := z_liveIn hV hB hx
        have hcl := List.countP_le_length (p := (aV A 54).2.1) (l := aD A x.1)
        rw [if_pos (by rw [c2]; rfl), hli, gCi_i, z_docs hV hB, gCi_i, ed, hx]
        by_cases c3 : (aD A x.1).countP (aV A 54).2.1 < (aD A x.1).length
        · rw [if_neg (nI_ge c3 (by omega)), gLf_s]
          simp [c3]
        · rw [if_pos (nI_le (by omega) (by omega)), gLf_s]
          simp [c3]
      · have hl0 : (aV A 54).1 = [] := List.eq_nil_of_length_eq_zero (by omega)
        rw [if_neg (show ¬ nI (aV A 54).1.length = (1 : Int32) from fun q => c2 ((nI_eq (b := 1) (by omega) (by omega)).mp q)), gLf_s, hl0]
        rfl
