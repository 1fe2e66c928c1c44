/-! THE PURE SIDE: what of the open writer is synced: prepare, whole; commit -/
theorem KM_syX {A : zA} {x : zS} (h : KM A) (hx : x ∈ (aV A 54).1) (b : (syX x A).1 = true) : KM (syX x A).2 ∧ aM (syX x A).2 = aM A ∧ aV (syX x A).2 = aV A := by
  unfold syX at b ⊢
  by_cases c : (sy1 x.1 A).1 = true
  · obtain ⟨q1, q2, q3⟩ := KM_sy1 h (fun m hm => ((h.1 m hm).2 x hx).1) c
    rw [if_pos c] at b ⊢
    cases hl' : x.2.1 with
    | none => exact ⟨q1, q2, q3⟩
    | some l =>
      rw [hl'] at b
      have b' : (sy1 l (sy1 x.1 A).2).1 = true := b
      obtain ⟨r1, r2, r3⟩ := KM_sy1 q1 (fun m hm => by
        rw [q2] at hm
        intro e
        exact ((h.1 m hm).2 x hx).2 (by rw [hl', e])) b'
      exact ⟨r1, r2.trans q2, r3.trans q3⟩
  · rw [if_neg c] at b
    exact absurd b c
theorem KM_syF : ∀ (n i : Nat) (A : zA), KM A → (syF n i A).1 = true → KM (syF n i A).2
  | 0, _, _, h, _ => h
  | n + 1, i, A, h, b => by
    cases hx : (aV A 54).1[i]? with
    | none =>
      have e : syF (n + 1) i A = (true, A) := by
        unfold syF
        rw [hx]
      rw [e]
      exact h
    | some x =>
      rw [syF_s hx] at b ⊢
      by_cases c : (syX x A).1 = true
      · rw [if_pos c] at b ⊢
        exact KM_syF n (i + 1) _ (KM_syX h (vs_mem hx) c).1 b
      · rw [if_neg c] at b
        exact absurd b c
theorem KK_prO {S : zA} {k p : Nat} (hm : Mid S k p) (h : KM S) (b : (prO S).1 = true) : KK (prO S).2 := by
  unfold prO at b ⊢
  by_cases c : aS S 13 = 0
  · rw [if_pos c] at b
    cases b
  rw [if_neg c] at b ⊢
  have hB : nwB S (aOwn S) [] (fun _ => false) 0 0 0 := nwB_of hm.2.1.1.2.2.1
  obtain ⟨bS, b11, bH, bV, bM, bT⟩ := hB
  have hK : KM (aOwn S) := by
    refine ⟨fun m hm' => ?_, by rw [bM]; exact h.2⟩
    rw [bM] at hm'
    rw [bT, bV]
    refine ⟨syn_nf (fun q => ?_), (h.1 m hm').2⟩
    have := syn_apb q
    rw [(h.1 m hm').1] at this
    cases this
  by_cases c2 : (sy1 (wr S) (aOwn S)).1 = true
  · rw [if_pos c2]
    obtain ⟨q1, q2, q3⟩ := KM_sy1 hK (fun m hm' => by rw [bM] at hm'; have := (NW_mid hm).2.2.2 m hm'; omega) c2
    generalize (sy1 (wr S) (aOwn S)).2 = B at q1 q2 q3 ⊢
    have eV : ∀ n, n ≠ 70 → aV (aPrp B (wr S)) n = aV B n := fun n hn => if_neg hn
    have e70 : (aV (aPrp B (wr S)) 70).1 = (aV B 54).1 := rfl
    intro _
    refine ⟨fun x hx _ => Or.inl ⟨by show ¬ (1 : Int32) = 0; decide, ?_⟩, fun m hm' => ?_, q1.2⟩
    · rw [eV 54 (by decide)] at hx
      rw [e70]
      exact inV_seg hx
    · rw [eV 54 (by decide)]
      exact q1.1 m hm'
  · rw [if_neg c2] at b
    exact absurd b c2
theorem KK_prR {A : zA} {k : Nat} (hm : Mid A k 0) (hw : wr A + 4098 ≤ 10000 * k) (hk : k ≤ 600) (h : KK A) (hc : (prR A).1 = 0 → aS (prR A).2 18 = 0) : KK (prR A).2 := by
  obtain ⟨f1, -⟩ := Mid_flR hm hk (by omega)
  have hKF := KK_flR hm h
  unfold prR at hc ⊢
  generalize flR A = F at f1 hKF hc ⊢
  by_cases c : F.1 = true
  · obtain ⟨m1, m2, m3⟩ := f1 c
    rw [if_pos c] at hc ⊢
    by_cases c2 : nnw F.2 = true
    · rw [if_pos c2]; exact hKF
    · rw [if_neg c2] at hc ⊢
      have hKM := KM_of hKF m1.1
      have hlen : (aV F.2 54).1.length ≤ 4096 := (VB_of m1.2.2.2.2.1.1.1 (show dc F.2 - bf F.2 ≤ 4096 by have := m1.2.1.1.1.2; omega)).1.1
      obtain ⟨w1, -⟩ := wlF_ok hk (aV F.2 54).1.length 0 F.2 m1 (by omega)
      have hKW := KM_wlF hk (aV F.2 54).1.length 0 F.2 m1 (by omega) hKM
      unfold prT at hc ⊢
      generalize wlF (aV F.2 54).1.length 0 F.2 = W at w1 hKW hc ⊢
      by_cases c3 : W.1 = true
      · obtain ⟨n1, -, -, -⟩ := w1 c3
        rw [if_pos c3] at hc ⊢
        obtain ⟨s1, -⟩ := syF_ok (aV W.2 54).1.length 0 W.2 n1 (by omega)
        have hKS := KM_syF (aV W.2 54).1.length 0 W.2 (hKW c3)
        generalize syF (aV W.2 54).1.length 0 W.2 = S at s1 hKS hc ⊢
        by_cases c4 : S.1 = true
        · obtain ⟨t1, -, -⟩ := s1 c4
          rw [if_pos c4] at hc ⊢
          by_cases c5 : (prO S.2).1 = true
          · exact KK_prO t1 (hKS c4) c5
          · exact KK_cl (hc (if_neg c5))
        · rw [if_neg c4] at hc ⊢
          exact KK_cl (hc rfl)
      · rw [if_neg c3] at hc ⊢
        exact KK_cl (hc rfl)
  · rw [if_neg c] at hc ⊢
    exact hKF
theorem KK_coS {A : zA} {k : Nat} (hI : Inv A k) (hk : k ≤ 600) (o : ¬ aS A 18 = 0) (o19 : ¬ aS A 19 = 0) (h : KK A) : KK (coS A).2 := by
  unfold coS cmR
  by_cases c : aS A 13 = 0
  · rw [if_pos c]; exact KK_cl rfl
  · rw [if_neg c]
    exact KK_ren (Inv_act hI o) hk (by rw [aActd_S (by decide) (by decide)]; exact o19) (KK_act h)
