/-! THE PURE SIDE: what of the open writer is synced -/
def KW (A : zA) (j : Nat) : Prop := (¬ aS A 19 = 0 ∧ inV true (aV A 70).1 j = true) ∨ (aS A 19 = 0 ∧ ¬ aS A 20 ≤ 0 ∧ inV true (aV A 62).1 j = true)
def KK (A : zA) : Prop := ¬ aS A 18 = 0 → (∀ x, x ∈ (aV A 54).1 → syn (aT A) x.1 = true → KW A x.1) ∧ (∀ m, m ∈ aM A → syn (aT A) m.2.1 = false ∧ ∀ x, x ∈ (aV A 54).1 → x.1 ≠ m.2.1 ∧ x.2.1 ≠ some m.2.1) ∧ (aM A).Pairwise (fun m m' => m.2.1 ≠ m'.2.1)
theorem KK_cl {A : zA} (h : aS A 18 = 0) : KK A := fun q => absurd h q
theorem syn_nf {t : List zF} {j : Nat} (h : ¬ syn t j = true) : syn t j = false := by
  cases q : syn t j with
  | false => rfl
  | true => exact absurd q h
theorem syn_nw {t : List zF} {w : Nat} (h : ∀ f, f ∈ t → f.1 < w) : syn (t ++ [(w, false, false)]) w = false := by
  refine syn_nf (fun q => ?_)
  unfold syn at q
  obtain ⟨f, f1, f2⟩ := List.any_eq_true.mp q
  simp only [Bool.and_eq_true, decide_eq_true_eq] at f2
  rcases List.mem_append.mp f1 with r | r
  · have := h f r
    omega
  · rw [List.mem_singleton.mp r] at f2
    cases f2.2
theorem syn_apb {t : List zF} {w j : Nat} (h : syn (t ++ [(w, false, false)]) j = true) : syn t j = true := by
  unfold syn at h ⊢
  obtain ⟨f, f1, f2⟩ := List.any_eq_true.mp h
  refine List.any_eq_true.mpr ⟨f, ?_, f2⟩
  rcases List.mem_append.mp f1 with r | r
  · exact r
  · rw [List.mem_singleton.mp r] at f2
    simp at f2
theorem syn_flb {t : List zF} {p : zF → Bool} {j : Nat} (h : syn (t.filter p) j = true) : syn t j = true := by
  unfold syn at h ⊢
  obtain ⟨f, f1, f2⟩ := List.any_eq_true.mp h
  exact List.any_eq_true.mpr ⟨f, (List.mem_filter.mp f1).1, f2⟩
theorem KK_gen {A B : zA} (h : KK A) (o : ¬ aS B 18 = 0 → ¬ aS A 18 = 0) (e19 : aS B 19 = aS A 19) (e20 : aS B 20 = aS A 20) (e70 : (aV B 70).1 = (aV A 70).1) (e62 : (aV B 62).1 = (aV A 62).1) (hs : ∀ j, syn (aT B) j = true → syn (aT A) j = true) (hV : ¬ aS B 18 = 0 → ∀ x, x ∈ (aV B 54).1 → ((∃ y, y ∈ (aV A 54).1 ∧ y.1 = x.1) ∨ syn (aT B) x.1 = false) ∧ ∀ m, m ∈ aM A → x.1 ≠ m.2.1 ∧ x.2.1 ≠ some m.2.1) (hM : aM B = aM A) : KK B := by
  intro ob
  obtain ⟨h1, h2, h3⟩ := h (o ob)
  refine ⟨fun x hx hx2 => ?_, fun m hm => ?_, by rw [hM]; exact h3⟩
  · unfold KW
    rw [e19, e20, e70, e62]
    rcases (hV ob x hx).1 with ⟨y, y1, y2⟩ | q
    · rw [← y2]
      rw [← y2] at hx2
      exact h1 y y1 (hs _ hx2)
    · rw [q] at hx2
      cases hx2
  · rw [hM] at hm
    refine ⟨syn_nf (fun q => ?_), fun x hx => (hV ob x hx).2 m hm⟩
    have := hs _ q
    rw [(h2 m hm).1] at this
    cases this
theorem KK_sub {A B : zA} (h : KK A) (o : ¬ aS B 18 = 0 → ¬ aS A 18 = 0) (e19 : aS B 19 = aS A 19) (e20 : aS B 20 = aS A 20) (e70 : (aV B 70).1 = (aV A 70).1) (e62 : (aV B 62).1 = (aV A 62).1) (hs : ∀ j, syn (aT B) j = true → syn (aT A) j = true) (hV : ∀ x, x ∈ (aV B 54).1 → ∃ y, y ∈ (aV A 54).1 ∧ y.1 = x.1 ∧ y.2.1 = x.2.1) (hM : aM B = aM A) : KK B :=
  KK_gen h o e19 e20 e70 e62 hs (fun ob x hx => by
    obtain ⟨y, y1, y2, y3⟩ := hV x hx
    refine ⟨Or.inl ⟨y, y1, y2⟩, fun m hm => ?_⟩
    have := ((h (o ob)).2.1 m hm).2 y y1
    rw [← y2, ← y3]
    exact this) hM
theorem KK_S {A : zA} {S' : Nat → Int32} (h : KK A) (e18 : S' 18 = aS A 18) (e19 : S' 19 = aS A 19) (e20 : S' 20 = aS A 20) : KK (sS A S') := KK_sub (B := sS A S') h (fun q => by rw [← e18]; exact q) e19 e20 rfl rfl (fun _ q => q) (fun x hx => ⟨x, hx, rfl, rfl⟩) rfl
theorem KK_act {A : zA} (h : KK A) : KK (aActd A) := KK_S h (aActd_S (A := A) (j := 18) (by decide) (by decide)) (aActd_S (A := A) (j := 19) (by decide) (by decide)) (aActd_S (A := A) (j := 20) (by decide) (by decide))
theorem KK_fl {A : zA} {k i : Nat} (hm : Mid A k i) (h : KK A) : KK (aFl A) := by
  have eT : aT (aFl A) = aT A ++ [(wr A, false, false)] := by
    show aT A ++ [(gn (aS (aActd A) 11), false, false)] = _
    rw [aActd_S (by decide) (by decide)]
  have eS : ∀ j, j ≠ 11 → j ≠ 12 → j ≠ 13 → j ≠ 23 → aS (aFl A) j = aS A j := fun j j1 j2 j3 j4 => by
    show upd (upd (aS (aActd A)) 11 (aS (aActd A) 11 + 1)) 23 0 j = _
    rw [upd_at, if_neg j4, upd_at, if_neg j1]
    exact aActd_S j2 j3
  refine KK_gen (B := aFl A) h (fun q => by rw [← eS 18 (by decide) (by decide) (by decide) (by decide)]; exact q) (eS 19 (by decide) (by decide) (by decide) (by decide)) (eS 20 (by decide) (by decide) (by decide) (by decide)) rfl rfl (fun j q => by rw [eT] at q; exact syn_apb q) (fun _ x hx => ?_) rfl
  have hx' : x ∈ (aV A 54).1 ++ [(wr A, none, 0)] := hx
  rcases List.mem_append.mp hx' with q | q
  · exact ⟨Or.inl ⟨x, q, rfl⟩, fun m hm' => ((h hm.1).2.1 m hm').2 x q⟩
  · rw [List.mem_singleton.mp q]
    refine ⟨Or.inr (by rw [eT]; exact syn_nw hm.2.2.1.2.1), fun m hm' => ⟨?_, by show ¬ (none : Option Nat) = some _; simp⟩⟩
    have := (NW_mid hm).2.2.2 m hm'
    show wr A ≠ m.2.1
    omega
