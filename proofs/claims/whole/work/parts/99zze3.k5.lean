/-! THE PURE SIDE: power lost inside a call closes the writer -/
theorem flR_0 {A : zA} (h : (flR A).1 = false) : aS (flR A).2 18 = 0 := by
  unfold flR at h ⊢
  by_cases c : flS A = true
  · rw [if_pos c] at h ⊢
    by_cases c2 : aS A 13 = 0
    · rw [if_pos c2]; rfl
    · rw [if_neg c2] at h
      cases h
  · rw [if_neg c] at h
    cases h
theorem wlF_0 : ∀ (n i : Nat) (A : zA), (wlF n i A).1 = false → aS (wlF n i A).2 18 = 0
  | 0, _, _, h => by cases h
  | n + 1, i, A, h => by
    cases hx : (aV A 54).1[i]? with
    | none => rw [wlF_n hx] at h; cases h
    | some x =>
      rw [wlF_s hx] at h ⊢
      by_cases c1 : lRt (aH A) (aV A 54) x = true
      · rw [if_pos c1] at h ⊢
        exact wlF_0 n (i + 1) A h
      · rw [if_neg c1] at h ⊢
        by_cases c2 : aS A 13 = 0
        · rw [if_pos c2]; rfl
        · rw [if_neg c2] at h ⊢
          exact wlF_0 n (i + 1) _ h
theorem sy1_0 {A : zA} {j : Nat} (h : (sy1 j A).1 = false) : aS (sy1 j A).2 18 = 0 := by
  unfold sy1 at h ⊢
  by_cases c : syn (aT A) j = true
  · rw [if_pos c] at h
    cases h
  · rw [if_neg c] at h ⊢
    by_cases c2 : aS A 13 = 0
    · rw [if_pos c2]; rfl
    · rw [if_neg c2] at h
      cases h
theorem syX_0 {A : zA} {x : zS} (h : (syX x A).1 = false) : aS (syX x A).2 18 = 0 := by
  unfold syX at h ⊢
  by_cases c : (sy1 x.1 A).1 = true
  · rw [if_pos c] at h ⊢
    cases hl' : x.2.1 with
    | none => rw [hl'] at h; cases h
    | some l =>
      rw [hl'] at h
      exact sy1_0 (A := (sy1 x.1 A).2) (j := l) h
  · rw [if_neg c] at h ⊢
    exact sy1_0 h
theorem syF_0 : ∀ (n i : Nat) (A : zA), (syF n i A).1 = false → aS (syF n i A).2 18 = 0
  | 0, _, _, h => by cases h
  | n + 1, i, A, h => by
    cases hx : (aV A 54).1[i]? with
    | none =>
      have e : syF (n + 1) i A = (true, A) := by
        unfold syF
        rw [hx]
      rw [e] at h
      cases h
    | some x =>
      rw [syF_s hx] at h ⊢
      by_cases c : (syX x A).1 = true
      · rw [if_pos c] at h ⊢
        exact syF_0 n (i + 1) _ h
      · rw [if_neg c] at h ⊢
        exact syX_0 h
theorem prO_0 {A : zA} (h : (prO A).1 = false) : aS (prO A).2 18 = 0 := by
  unfold prO at h ⊢
  by_cases c : aS A 13 = 0
  · rw [if_pos c]; rfl
  · rw [if_neg c] at h ⊢
    by_cases c2 : (sy1 (wr A) (aOwn A)).1 = true
    · rw [if_pos c2] at h
      cases h
    · rw [if_neg c2] at h ⊢
      exact sy1_0 h
theorem prR_0 {A : zA} (h : (prR A).1 = 0) : aS (prR A).2 18 = 0 := by
  unfold prR at h ⊢
  by_cases c : (flR A).1 = true
  · rw [if_pos c] at h ⊢
    by_cases c2 : nnw (flR A).2 = true
    · rw [if_pos c2] at h
      exact absurd h (by show ¬ (1 : Nat) = 0; omega)
    · rw [if_neg c2] at h ⊢
      unfold prT at h ⊢
      generalize (flR A).2 = F at h ⊢
      by_cases c3 : (wlF (aV F 54).1.length 0 F).1 = true
      · rw [if_pos c3] at h ⊢
        generalize (wlF (aV F 54).1.length 0 F).2 = W at h ⊢
        by_cases c4 : (syF (aV W 54).1.length 0 W).1 = true
        · rw [if_pos c4] at h ⊢
          generalize (syF (aV W 54).1.length 0 W).2 = S at h ⊢
          by_cases c5 : (prO S).1 = true
          · have h' : (if (prO S).1 = true then 2 else 0) = 0 := h
            rw [if_pos c5] at h'
            omega
          · exact prO_0 (by simpa using c5)
        · rw [if_neg c4]
          exact syF_0 _ _ _ (by simpa using c4)
      · rw [if_neg c3]
        exact wlF_0 _ _ _ (by simpa using c3)
  · rw [if_neg c]
    exact flR_0 (by simpa using c)
theorem KK_pr {A : zA} {k : Nat} (hm : Mid A k 0) (hw : wr A + 4098 ≤ 10000 * k) (hk : k ≤ 600) (h : KK A) : KK (prR A).2 := KK_prR hm hw hk h prR_0
theorem KK_co {A : zA} {k : Nat} (hI : Inv A k) (o : ¬ aS A 18 = 0) (hw : wr A + 4098 ≤ 10000 * k) (hk : k ≤ 600) (h : KK A) : KK (coR A).2 := by
  unfold coR
  by_cases c : aS A 19 = 0
  · rw [if_pos c]
    have hm := Mid_of hI o
    obtain ⟨p1, p2⟩ := prR_ok hm hw hk c
    have hK := KK_pr hm hw hk h
    by_cases c2 : (prR A).1 = 2
    · rw [if_pos c2]
      rcases p2 with q | ⟨q, _⟩ | ⟨_, q2, q3, _⟩
      · omega
      · omega
      · exact KK_coS p1 hk q2 (by rw [q3]; decide) hK
    · rw [if_neg c2]
      exact hK
  · rw [if_neg c]
    exact KK_coS hI hk o c h
