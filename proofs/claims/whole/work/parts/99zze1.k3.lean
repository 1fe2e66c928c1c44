/-! THE PURE SIDE: what of the open writer is synced: prepare and commit -/
def KM (A : zA) : Prop := (∀ m, m ∈ aM A → syn (aT A) m.2.1 = false ∧ ∀ x, x ∈ (aV A 54).1 → x.1 ≠ m.2.1 ∧ x.2.1 ≠ some m.2.1) ∧ (aM A).Pairwise (fun m m' => m.2.1 ≠ m'.2.1)
theorem KM_of {A : zA} (h : KK A) (o : ¬ aS A 18 = 0) : KM A := ⟨(h o).2.1, (h o).2.2⟩
theorem KM_wl {A : zA} {k i : Nat} {x : zS} (hm : Mid A k i) (h : KM A) (hx : (aV A 54).1[i]? = some x) : KM (aWl A i x) := by
  have eT : aT (aWl A i x) = aT A ++ [(wr A, false, false)] := by
    show aT A ++ [(gn (aS (aActd A) 11), false, false)] = _
    rw [aActd_S (by decide) (by decide)]
  have eM : aM (aWl A i x) = aM A := rfl
  have e54 : (aV (aWl A i x) 54).1 = (aV A 54).1.set i (x.1, some (wr A), x.2.2) := rfl
  refine ⟨fun m hm' => ?_, by rw [eM]; exact h.2⟩
  rw [eM] at hm'
  obtain ⟨h1, h2⟩ := h.1 m hm'
  rw [eT, e54]
  refine ⟨syn_nf (fun q => ?_), fun y hy => ?_⟩
  · have := syn_apb q
    rw [h1] at this
    cases this
  · rcases List.mem_or_eq_of_mem_set hy with q | q
    · exact h2 y q
    · rw [q]
      refine ⟨(h2 x (vs_mem hx)).1, fun e => ?_⟩
      have e' : wr A = m.2.1 := Option.some.inj e
      have := (NW_mid hm).2.2.2 m hm'
      omega
theorem KM_wlF {k : Nat} (hk : k ≤ 600) : ∀ (n i : Nat) (A : zA), Mid A k i → wr A + n ≤ 10000 * k → KM A → (wlF n i A).1 = true → KM (wlF n i A).2
  | 0, _, _, _, _, h, _ => h
  | n + 1, i, A, hm, hw, h, b => by
    cases hx : (aV A 54).1[i]? with
    | none => rw [wlF_n hx]; exact h
    | some x =>
      rw [wlF_s hx] at b ⊢
      by_cases c1 : lRt (aH A) (aV A 54) x = true
      · rw [if_pos c1] at b ⊢
        exact KM_wlF hk n (i + 1) A (Mid_i hm (by omega)) (by omega) h b
      · rw [if_neg c1] at b ⊢
        by_cases c2 : aS A 13 = 0
        · rw [if_pos c2] at b
          cases b
        · rw [if_neg c2] at b ⊢
          obtain ⟨q1, q2⟩ := Mid_wl hm hx (by omega) hk
          exact KM_wlF hk n (i + 1) _ q1 (by omega) (KM_wl hm h hx) b
theorem syn_syG {t : List zF} {j i : Nat} (h : syn (t.map (syG j)) i = true) : syn t i = true ∨ i = j := by
  unfold syn at h ⊢
  rw [List.any_map] at h
  obtain ⟨f, f1, f2⟩ := List.any_eq_true.mp h
  have f2' : (decide ((syG j f).1 = i) && (syG j f).2.1) = true := f2
  rw [Bool.and_eq_true, decide_eq_true_eq, (syG_fl j f).1] at f2'
  by_cases c : f.1 = j
  · right
    omega
  · left
    have e : syG j f = f := by unfold syG; rw [if_neg c]
    rw [e] at f2'
    exact List.any_eq_true.mpr ⟨f, f1, by rw [Bool.and_eq_true, decide_eq_true_eq]; exact f2'⟩
theorem KM_sy1 {A : zA} {j : Nat} (h : KM A) (hj : ∀ m, m ∈ aM A → j ≠ m.2.1) (b : (sy1 j A).1 = true) : KM (sy1 j A).2 ∧ aM (sy1 j A).2 = aM A ∧ aV (sy1 j A).2 = aV A := by
  unfold sy1 at b ⊢
  by_cases c : syn (aT A) j = true
  · rw [if_pos c]
    exact ⟨h, rfl, rfl⟩
  · rw [if_neg c] at b ⊢
    by_cases c2 : aS A 13 = 0
    · rw [if_pos c2] at b
      cases b
    · rw [if_neg c2]
      refine ⟨⟨fun m hm => ⟨syn_nf (fun q => ?_), (h.1 m hm).2⟩, h.2⟩, rfl, rfl⟩
      have q' : syn ((aT A).map (syG j)) m.2.1 = true := q
      rcases syn_syG q' with r | r
      · rw [(h.1 m hm).1] at r
        cases r
      · exact hj m hm r.symm
theorem KK_ren {A : zA} {k : Nat} (hI : Inv A k) (hk : k ≤ 600) (o19 : ¬ aS A 19 = 0) (h : KK A) : KK (aRen A) := by
  intro o
  have e18 : aS (aRen A) 18 = aS A 18 := rfl
  obtain ⟨h1, h2, h3⟩ := h (by rw [← e18]; exact o)
  have eV : ∀ n, n ≠ 62 → aV (aRen A) n = aV A n := fun n hn => if_neg hn
  have g := hI.1.2.1.2.1
  refine ⟨fun x hx hx2 => Or.inr ⟨rfl, ?_, ?_⟩, fun m hm => ?_, h3⟩
  · have : aS (aRen A) 20 = aS A 20 + 1 := rfl
    rw [this, g.1, nI_1]
    exact nI_nle (by omega) (by omega)
  · rw [eV 54 (by decide)] at hx
    rcases h1 x hx hx2 with q | q
    · exact q.2
    · exact absurd q.1 o19
  · rw [eV 54 (by decide)]
    exact h2 m hm
