/-! THE PURE SIDE: the class's policy; new files in the whole state; a flush -/
noncomputable def fit (A : zA) (l i : Nat) : Bool := match (aV A 54).1[i]? with
  | none => false
  | some x => decide (x.2.2 = 0) && decide (lev (gn (aS A 25)) ((aD A x.1).countP (aV A 54).2.1) ≤ l)
def rowP (F : Nat → Bool) (n g s : Nat) : Prop := s + g ≤ n ∧ ∀ j, j < g → F (s + j) = true
def PolF (A : zA) (l s : Nat) : Prop := rowP (fit A l) (aV A 54).1.length (gn (aS A 25)) s ∧ ∀ s', s' < s → ¬ rowP (fit A l) (aV A 54).1.length (gn (aS A 25)) s'
def PolN (A : zA) (l : Nat) : Prop := ∀ s, ¬ rowP (fit A l) (aV A 54).1.length (gn (aS A 25)) s
theorem C_polIn {X : gX} {A : zA} {nm : Nat → Nat} {k l : Nat} (h : RC X A nm k) (hw : Wr A) (ho : ¬ aS A 18 = 0) (hg : aS A 25 = nI (gn (aS A 25)) ∧ 2 ≤ gn (aS A 25) ∧ gn (aS A 25) ≤ 64) (hl : l < 13) : (∃ s, PolF A l s ∧ gI (fun s : gX × Int32 × Int32 => f_Le_firstByPolicy_12 s.1 (nI l) s.2.1 s.2.2) gK (X, 0, 0) = some (Sum.inr (gR.i (nI s), X))) ∨ (PolN A l ∧ gI (fun s : gX × Int32 × Int32 => f_Le_firstByPolicy_12 s.1 (nI l) s.2.1 s.2.2) gK (X, 0, 0) = some (Sum.inl (X, nI (l + 1)))) := by
  have hw' := hw
  obtain ⟨w1, w2, ⟨w3, w4⟩, w5, w8, w9, w10⟩ := hw
  have hB := (VB_of w3 (by omega)).1
  have hlen := hB.1
  have hCV := (RC_W h).1.1 ho
  have hWC : WC (aH A) (dc A - bf A) (aV A 54) := fun e he => (w4 e he).imp id (fun q => q.1)
  obtain ⟨g0, g1, g2⟩ := hg
  have e11 : X.I 0 11 = nI (gn (aS A 25)) := (cS_25 h.1).trans g0
  have key := gI_wf (body := fun s : gX × Int32 × Int32 => f_Le_firstByPolicy_12 s.1 (nI l) s.2.1 s.2.2) (fun s => ∃ i c, s = (X, nI c, nI i) ∧ i ≤ (aV A 54).1.length ∧ c < gn (aS A 25) ∧ c ≤ i ∧ (∀ j, j < c → fit A l (i - 1 - j) = true) ∧ (c < i → fit A l (i - 1 - c) = false) ∧ ∀ s, s + gn (aS A 25) ≤ i → ¬ rowP (fit A l) (aV A 54).1.length (gn (aS A 25)) s) (fun r => (∃ s, PolF A l s ∧ r = Sum.inr (gR.i (nI s), X)) ∨ (PolN A l ∧ r = Sum.inl (X, nI (l + 1)))) (fun s => (aV A 54).1.length - gn s.2.2) (s0 := (X, 0, 0)) (by show (aV A 54).1.length - gn 0 ≤ 100000; omega) ⟨0, 0, rfl, by omega, by omega, by omega, fun j hj => absurd hj (by omega), fun q => absurd q (by omega), fun s hs => absurd hs (by omega)⟩ (fun s hI => by
    obtain ⟨i, c, rfl, i1, i2, i3, i4, i5, i6⟩ := hI
    show (∃ s', f_Le_firstByPolicy_12 X (nI l) (nI c) (nI i) = _ ∧ _) ∨ (∃ r, f_Le_firstByPolicy_12 X (nI l) (nI c) (nI i) = _ ∧ _)
    unfold f_Le_firstByPolicy_12
    rw [hCV.1]
    by_cases ci : (aV A 54).1.length ≤ i
    · right
      rw [if_pos (nI_le ci (by omega)), nI_1, gLf_s]
      exact ⟨_, rfl, Or.inr ⟨fun s hs => i6 s (by have := hs.1; omega) hs, rfl⟩⟩
    · obtain ⟨x, hx⟩ := vs_at (l := (aV A 54).1) (s := i) (by omega)
      have hxm := vs_mem hx
      obtain ⟨x1, x2⟩ := hCV.2.2.1 i x hx
      have hmer := C_mergeOf (RC_T h) (RC_M h) (cS_30 h.1) hw' hxm
      have hlive : f_Vi_liveIn X 8 (some (nm x.1)) = some (gR.i (nI ((aD A x.1).countP (aV A 54).2.1)), X) := C_liveIn hCV (RC_T h) w2 (w8 x hxm).1 (w3.1 x hxm).1 (by omega) (VI_cov w3 hWC hxm)
      have hcl : (aD A x.1).countP (aV A 54).2.1 ≤ 4096 := by
        have q1 := List.countP_le_length (p := (aV A 54).2.1) (l := aD A x.1)
        have q2 := off_s (D := aD A) hx
        have q3 := off_all (D := aD A) (l := (aV A 54).1) (s := i + 1)
        have q4 : (fl (aD A) (aV A 54).1).length ≤ 4096 := hB.2.1
        omega
      have hlev := C_levelOf hlive e11 g1 g2 hcl
      have hL12 := (LV_lev (n := (aD A x.1).countP (aV A 54).2.1) g1 hcl).1
      have hm6 := hB.2.2 x hxm
      have hfit : fit A l i = (decide (x.2.2 = 0) && decide (lev (gn (aS A 25)) ((aD A x.1).countP (aV A 54).2.1) ≤ l)) := by
        unfold fit
        rw [hx]
      have e9i : X.G 9 (gn (nI i)) = some (nm x.1) := by rw [gn_nI (by omega)]; exact x1
      rw [if_neg (nI_ge (by omega) (by omega)), if_pos (gIn_nI (by omega) (by omega)), e9i, hmer, gCi_i]
      have bad : fit A l i = false → (∃ s', f_Le_firstByPolicy_57 X (nI l) (nI c) (nI i) = some (Sum.inl s') ∧ (∃ i c, s' = (X, nI c, nI i) ∧ i ≤ (aV A 54).1.length ∧ c < gn (aS A 25) ∧ c ≤ i ∧ (∀ j, j < c → fit A l (i - 1 - j) = true) ∧ (c < i → fit A l (i - 1 - c) = false) ∧ ∀ s, s + gn (aS A 25) ≤ i → ¬ rowP (fit A l) (aV A 54).1.length (gn (aS A 25)) s) ∧ (aV A 54).1.length - gn s'.2.2 < (aV A 54).1.length - gn (X, nI c, nI i).2.2) := by
        intro hf
        unfold f_Le_firstByPolicy_57 f_Le_firstByPolicy_58 f_Le_firstByPolicy_72
        rw [if_pos rfl, e11, if_neg (fun q => nI_ne0 (by omega) (by omega) q.symm), nI_1]
        refine ⟨_, rfl, ⟨i + 1, 0, rfl, by omega, by omega, by omega, fun j hj => absurd hj (by omega), fun _ => ?_, fun s hs q => ?_⟩, ?_⟩
        · rw [show i + 1 - 1 - 0 = i by omega]; exact hf
        · by_cases cs : s + gn (aS A 25) ≤ i
          · exact i6 s cs q
          · have := q.2 (i - s) (by omega)
            rw [show s + (i - s) = i by omega, hf] at this
            cases this
        · show (aV A 54).1.length - gn (nI (i + 1)) < (aV A 54).1.length - gn (nI i)
          rw [gn_nI (by omega), gn_nI (by omega)]
          omega
      by_cases c2 : x.2.2 = 0
      · rw [if_pos (by rw [c2]; rfl), hlev, gCi_i]
        by_cases c3 : lev (gn (aS A 25)) ((aD A x.1).countP (aV A 54).2.1) ≤ l
        · have hf : fit A l i = true := by rw [hfit]; simp [c2, c3]
          rw [if_neg (nI_nlt (by omega) (by omega))]
          unfold f_Le_firstByPolicy_58 f_Le_firstByPolicy_72
          rw [if_neg (by decide), nI_1, e11]
          by_cases c4 : c + 1 = gn (aS A 25)
          · right
            rw [if_pos (by rw [c4])]
            have e9 : nI i - nI (gn (aS A 25)) + 1 = nI (i + 1 - gn (aS A 25)) := by
              rw [Int32.sub_eq_add_neg, Int32.add_assoc, Int32.add_comm (-nI (gn (aS A 25))) 1, ← Int32.add_assoc, nI_1, ← Int32.sub_eq_add_neg, pk_sub (by omega)]
            rw [e9, gLf_s, gLf_s]
            refine ⟨_, rfl, Or.inl ⟨i + 1 - gn (aS A 25), ⟨⟨by omega, fun j hj => ?_⟩, fun s' hs' q => i6 s' (by omega) q⟩, rfl⟩⟩
            by_cases c5 : j = c
            · rw [show i + 1 - gn (aS A 25) + j = i by omega]; exact hf
            · have := i4 (c - 1 - j) (by omega)
              rw [show i - 1 - (c - 1 - j) = i + 1 - gn (aS A 25) + j by omega] at this
              exact this
          · left
            rw [if_neg (fun q => c4 ((nI_eq (by omega) (by omega)).mp q)), nI_1]
            refine ⟨_, rfl, ⟨i + 1, c + 1, rfl, by omega, by omega, by omega, fun j hj => ?_, fun q => ?_, fun s hs q => ?_⟩, ?_⟩
            · by_cases c5 : j = 0
              · rw [c5, show i + 1 - 1 - 0 = i by omega]; exact hf
              · have := i4 (j - 1) (by omega)
                rw [show i - 1 - (j - 1) = i + 1 - 1 - j by omega] at this
                exact this
            · have := i5 (by omega)
              rw [show i - 1 - c = i + 1 - 1 - (c + 1) by omega] at this
              exact this
            · by_cases cs : s + gn (aS A 25) ≤ i
              · exact i6 s cs q
              · by_cases c6 : c < i
                · have a1 := i5 c6
                  have a2 := q.2 (i - 1 - c - s) (by omega)
                  rw [show s + (i - 1 - c - s) = i - 1 - c by omega, a1] at a2
                  cases a2
                · omega
            · show (aV A 54).1.length - gn (nI (i + 1)) < (aV A 54).1.length - gn (nI i)
              rw [gn_nI (by omega), gn_nI (by omega)]
              omega
        · rw [if_pos (nI_lt (by omega) (by omega))]
          exact Or.inl (bad (by rw [hfit]; simp [c3]))
      · rw [if_neg (nI_ne0 (by omega) (by omega))]
        exact Or.inl (bad (by rw [hfit]; simp [c2])))
  obtain ⟨r, k1, k2⟩ := key
  rcases k2 with ⟨s, s1, s2⟩ | ⟨s1, s2⟩
  · exact Or.inl ⟨s, s1, by rw [k1, s2]⟩
  · exact Or.inr ⟨s1, by rw [k1, s2]⟩
def PolS (A : zA) (l s : Nat) : Prop := l < 13 ∧ PolF A l s ∧ ∀ l', l' < l → PolN A l'
theorem PolS_u {A : zA} {l s l' s' : Nat} (h : PolS A l s) (h' : PolS A l' s') : s = s' := by
  have e : l = l' := by
    rcases Nat.lt_trichotomy l l' with c | c | c
    · exact absurd h.2.1.1 (h'.2.2 l c s)
    · exact c
    · exact absurd h'.2.1.1 (h.2.2 l' c s')
  subst e
  rcases Nat.lt_trichotomy s s' with c | c | c
  · exact absurd h.2.1.1 (h'.2.1.2 s c)
  · exact c
  · exact absurd h'.2.1.1 (h.2.1.2 s' c)
theorem C_policy {X : gX} {A : zA} {nm : Nat → Nat} {k : Nat} (h : RC X A nm k) (hw : Wr A) (ho : ¬ aS A 18 = 0) (hg : aS A 25 = nI (gn (aS A 25)) ∧ 2 ≤ gn (aS A 25) ∧ gn (aS A 25) ≤ 64) : (∃ l s, PolS A l s ∧ f_Le_firstByPolicy X = some (gR.i (nI s), X)) ∨ ((∀ l, l < 13 → PolN A l) ∧ f_Le_firstByPolicy X = some (gR.i (-1), X)) := by
  unfold f_Le_firstByPolicy
  have key := gI_wf (body := fun s : gX × Int32 => f_Le_firstByPolicy_2 s.1 s.2) (fun s => ∃ l, s = (X, nI l) ∧ l ≤ 13 ∧ ∀ l', l' < l → PolN A l') (fun r => (∃ l s, PolS A l s ∧ r = (gR.i (nI s), X)) ∨ ((∀ l, l < 13 → PolN A l) ∧ r = (gR.i (-1), X))) (fun s => 13 - gn s.2) (s0 := (X, 0)) (by show 13 - gn 0 ≤ 100000; omega) ⟨0, rfl, by omega, fun l' q => absurd q (by omega)⟩ (fun s hI => by
    obtain ⟨l, rfl, l1, l2⟩ := hI
    show (∃ s', f_Le_firstByPolicy_2 X (nI l) = _ ∧ _) ∨ (∃ r, f_Le_firstByPolicy_2 X (nI l) = _ ∧ _)
    unfold f_Le_firstByPolicy_2
    by_cases c : l < 13
    · rw [if_neg (show ¬ (12 : Int32) < nI l from nI_nlt (a := 12) (by omega) (by omega))]
      rcases C_polIn h hw ho hg c with ⟨s, s1, s2⟩ | ⟨s1, s2⟩
      · right
        rw [s2]
        exact ⟨_, rfl, Or.inl ⟨l, s, ⟨c, s1, l2⟩, rfl⟩⟩
      · left
        rw [s2]
        refine ⟨_, rfl, ⟨l + 1, rfl, by omega, fun l' hl' => ?_⟩, ?_⟩
        · by_cases c2 : l' = l
          · rw [c2]; exact s1
          · exact l2 l' (by omega)
        · show 13 - gn (nI (l + 1)) < 13 - gn (nI l)
          rw [gn_nI (by omega), gn_nI (by omega)]
          omega
    · right
      rw [if_pos (show (12 : Int32) < nI l from nI_lt (a := 12) (by omega) (by omega)), gLf_s]
      exact ⟨_, rfl, Or.inr ⟨fun l' hl' => l2 l' (by omega), rfl⟩⟩)
  obtain ⟨r, k1, k2⟩ := key
  rcases k2 with ⟨l, s, s1, s2⟩ | ⟨s1, s2⟩
  · exact Or.inl ⟨l, s, s1, by rw [k1, s2]⟩
  · exact Or.inr ⟨s1, by rw [k1, s2]⟩
/-- all segments can be merged -/
def amg (A : zA) : Bool := decide ((aM A).length = 0) && (decide (1 < (aV A 54).1.length) || match (aV A 54).1[0]? with | none => false | some x => decide ((aD A x.1).countP (aV A 54).2.1 < (aD A x.1).length))
theorem C_allMerge {X : gX} {A : zA} {nm : Nat → Nat} {k : Nat} (h : RC X A nm k) (hw : Wr A) (ho : ¬ aS A 18 = 0) : f_Le_allCanBeMerged X = some (gR.i (b2i (amg A)), X) := by
  have hw' := hw
  obtain ⟨w1, w2, ⟨w3, w4⟩, w5, w8, w9, w10⟩ := hw
  have hB := (VB_of w3 (by omega)).1
  have hlen := hB.1
  have hCV := (RC_W h).1.1 ho
  have hWC : WC (aH A) (dc A - bf A) (aV A 54) := fun e he => (w4 e he).imp id (fun q => q.1)
  unfold f_Le_allCanBeMerged f_Le_allCanBeMerged_17 f_Le_allCanBeMerged_55 amg
  rw [cS_30 h.1, w9]
  by_cases c1 : (aM A).length = 0
  · rw [if_neg (show ¬ (0 : Int32) < nI (aM A).length by rw [c1]; decide), hCV.1]
    by_cases c2 : (aV A 54).1.length = 0
    · rw [if_pos (by rw [c2]; rfl)]
      have : (aV A 54).1[0]? = none := by rw [List.getElem?_eq_none_iff]; omega
      rw [this]
      simp [c1, c2, b2i]
    · obtain ⟨x, hx⟩ := vs_at (l := (aV A 54).1) (s := 0) (by omega)
      have hxm := vs_mem hx
      rw [if_neg (nI_ne0 (by omega) (by omega)), if_pos (by decide)]
      by_cases c3 : 1 < (aV A 54).1.length
      · rw [if_pos (show (1 : Int32) < nI (aV A 54).1.length from nI_lt (a := 1) c3 (by omega))]
        simp [c1, c3, b2i]
      · rw [if_neg (show ¬ (1 : Int32) < nI (aV A 54).1.length from nI_nlt (b := (aV A 54).1.length) (a := 1) (by omega) (by omega))]
        obtain ⟨x1, x2⟩ := hCV.2.2.1 0 x hx
        have hlive : f_Vi_liveIn X 8 (some (nm x.1)) = some (gR.i (nI ((aD A x.1).countP (aV A 54).2.1)), X) := C_liveIn hCV (RC_T h) w2 (w8 x hxm).1 (w3.1 x hxm).1 (by omega) (VI_cov w3 hWC hxm)
        obtain ⟨t1, -, -, -, t4, -, -⟩ := cT_at (RC_T h) w2 (w8 x hxm).1
        have hl2 : (aD A x.1).length ≤ 4096 := by
          have q2 := off_s (D := aD A) hx
          have q3 := off_all (D := aD A) (l := (aV A 54).1) (s := 0 + 1)
          have q4 : (fl (aD A) (aV A 54).1).length ≤ 4096 := hB.2.1
          omega
        have q1 := List.countP_le_length (p := (aV A 54).2.1) (l := aD A x.1)
        rw [show gn 0 = 0 from rfl, x1, hlive, gCi_i, gM_s, if_pos t1, t4, show gTl (aH A) x.1 = (aD A x.1).length from (w3.1 x hxm).1.2.2.2.2, hx]
        by_cases c4 : (aD A x.1).countP (aV A 54).2.1 < (aD A x.1).length
        · rw [if_neg (nI_ge c4 (by omega))]
          simp [c1, c4, b2i]
        · rw [if_pos (nI_le (by omega) (by omega))]
          simp [c1, c3, c4, b2i]
  · rw [if_pos (z0_lt (by omega) (by omega))]
    simp [c1, b2i]
