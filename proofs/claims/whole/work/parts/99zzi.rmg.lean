/-! THE PURE SIDE: the reference begins a merge -/
theorem act33 {X : gX} (h0 : ¬ X.I 46 13 = 0) : ∃ Z, f_Mo_act X = some (gR.i 1, Z) ∧ Z.I 46 33 = X.I 46 33 := by
  unfold f_Mo_act f_Mo_act_36
  rw [if_neg h0]
  by_cases c : X.I 46 13 ≤ 0
  · rw [if_pos c, gB_b]
    exact ⟨_, rfl, w_oth (Or.inr (by decide))⟩
  · rw [if_neg c, gB_b, gB_b]
    exact ⟨_, rfl, by rw [w_oth (Or.inr (by decide)), w_oth (Or.inr (by decide))]⟩
theorem write33 {X Y : gX} {v : Int32} (h0 : ¬ X.I 46 13 = 0) (h : f_Mo_write X = some (gR.i v, Y)) : Y.I 46 33 = X.I 46 33 := by
  obtain ⟨Z, z1, z2⟩ := act33 h0
  unfold f_Mo_write at h
  rw [z1, gCi_i, if_neg (by decide)] at h
  simp only [gB] at h
  split at h
  · split at h
    · split at h
      · have := (Prod.mk.inj (Option.some.inj h)).2
        rw [← this, w_oth (Or.inr (by decide)), w_oth (Or.inr (by decide)), w_oth (Or.inl (by decide)), w_oth (Or.inl (by decide)), w_oth (Or.inl (by decide)), z2]
      · cases h
    · cases h
  · cases h
theorem fl_take {D : Nat → List Nat} {l : List zS} {s : Nat} : (fl D l).take (off D l s) = fl D (l.take s) := by
  conv => lhs; rw [← List.take_append_drop s l]
  rw [fl_app]
  have : off D (l.take s ++ l.drop s) s = (fl D (l.take s)).length := by rw [List.take_append_drop]; rfl
  rw [this, List.take_left]
theorem mgD_eq {A : zA} {a n : Nat} : (((fl (aD A) (aV A 54).1).take (off (aD A) (aV A 54).1 (a + n))).drop (off (aD A) (aV A 54).1 a)).filter (aV A 54).2.1 = mgD A a n := by
  unfold mgD
  rw [fl_take, List.take_add, fl_app]
  have : off (aD A) (aV A 54).1 a = (fl (aD A) ((aV A 54).1.take a)).length := rfl
  rw [this, List.drop_left]
theorem RM_mg {X Z : gX} {A B : zA} {r a n : Nat} (h : RM X (sS B (upd (aS B) 34 (nI (gn (aS A 34) + 1))))) (eB : B = aNw A (mgD A a n) (fun _ => true) (mgD A a n).length ((mgD A a n).headD 0) (mgZ A a n)) (h34 : aS A 34 = nI (gn (aS A 34))) (h30 : aS A 30 = nI (aM A).length) (h4 : (aM A).length < 4) (hr : X.G 121 (aM A).length = some r) (hrr : gRow r = true) (hw : ∀ m, m ∈ aM A → m.2.1 < wr A)
  (fI : ∀ b, b ≠ r → b ≠ 58 → b ≠ 46 → b ≠ 80 → b ≠ 81 → b ≠ 82 → Z.I b = X.I b) (fG : Z.G = X.G) (f46 : ∀ j, Z.I 46 j = if j = 30 then nI ((aM A).length + 1) else X.I 46 j) (f58 : ∀ j, Z.I 58 j = if a ≤ j ∧ j < a + n then nI (gn (aS A 34) + 1) else X.I 58 j) (f80 : ∀ j, Z.I 80 j = if j = (aM A).length then nI (mgD A a n).length else X.I 80 j) (f81 : ∀ j, Z.I 81 j = if j = (aM A).length then nI (gn (aS A 34) + 1) else X.I 81 j) (f82 : ∀ j, Z.I 82 j = if j = (aM A).length then nI (wr A) else X.I 82 j) (fr : hl (Z.I r) ((mgD A a n).map nI)) : RM Z (aMg A a n) := by
  have hr2 : 122 ≤ r ∧ r ≤ 125 := by
    unfold gRow at hrr
    simp only [decide_eq_true_eq, List.mem_cons, List.mem_nil_iff, or_false] at hrr
    omega
  have e34 : aS A 34 + 1 = nI (gn (aS A 34) + 1) := by
    conv => lhs; rw [h34]
    rw [nI_1]
  have e30 : aS A 30 + 1 = nI ((aM A).length + 1) := by rw [h30, nI_1]
  have cSS : aS (aMg A a n) = upd (upd (aS B) 34 (nI (gn (aS A 34) + 1))) 30 (nI ((aM A).length + 1)) := by
    rw [eB, ← e34, ← e30]
    rfl
  have c54 : aV (aMg A a n) 54 = (mkR (aV A 54).1 a n (gn (aS A 34) + 1), (aV A 54).2) := rfl
  have cV : ∀ m, m ≠ 54 → aV (aMg A a n) m = aV B m := fun m hm => by rw [eB]; exact if_neg hm
  have b54 : aV B 54 = aV A 54 := by rw [eB]; rfl
  have cH : aH (aMg A a n) = aH B := by rw [eB]; rfl
  have cM : aM (aMg A a n) = aM A ++ [(gn (aS A 34) + 1, wr A, mgS A a, mgZ A a n)] := rfl
  have bM : aM B = aM A := by rw [eB]; rfl
  have cT : aT (aMg A a n) = aT B := by rw [eB]; rfl
  have cE : aE (aMg A a n) = aE B := by rw [eB]; rfl
  have bD : (aH B).1 (wr A) = mgD A a n := by rw [eB]; exact hU_w.1
  generalize aMg A a n = C at cSS c54 cV cH cM cT cE ⊢
  obtain ⟨h1, h2, h3, h4', h5, h6⟩ := h
  refine ⟨fun j j1 j2 j3 => ?_, ?_, ?_, fun m hm => ?_, ?_, ?_⟩
  · rw [cSS, f46, upd_at]
    by_cases c : j = 30
    · rw [if_pos c, if_pos c]
    · rw [if_neg c, if_neg c]
      exact h1 j j1 j2 j3
  · unfold mE at h2 ⊢
    rw [cE, fI 47 (by omega) (by omega) (by omega) (by omega) (by omega) (by omega), fI 48 (by omega) (by omega) (by omega) (by omega) (by omega) (by omega), fI 49 (by omega) (by omega) (by omega) (by omega) (by omega) (by omega)]
    exact h2
  · rw [cT]
    exact mT_fr h3 (by rw [f46, if_neg (by decide)]) (fI 50 (by omega) (by omega) (by omega) (by omega) (by omega) (by omega)) (fI 51 (by omega) (by omega) (by omega) (by omega) (by omega) (by omega)) (fI 52 (by omega) (by omega) (by omega) (by omega) (by omega) (by omega))
  · show VR Z.I m (aH C).1 (aH C).2.1 (aV C m)
    rw [cH]
    by_cases c : m = 54
    · subst c
      have q : VR X.I 54 (aH B).1 (aH B).2.1 (aV A 54) := by
        have q := h4' 54 rfl
        have q' : VR X.I 54 (aH B).1 (aH B).2.1 (aV B 54) := q
        rw [b54] at q'
        exact q'
      have g : ∀ b, 54 ≤ b → b ≤ 61 → b ≠ 58 → Z.I b = X.I b := fun b b1 b2 b3 => fI b (by omega) b3 (by omega) (by omega) (by omega) (by omega)
      rw [c54]
      have um := mkR_unm (l := (aV A 54).1) (a := a) (n := n) (v := gn (aS A 34) + 1)
      have mp : ∀ (β : Type) (f : zS → β), (∀ x, f (unm x) = f x) → (mkR (aV A 54).1 a n (gn (aS A 34) + 1)).map f = (aV A 54).1.map f := fun β f hf => by
        have e : ∀ l : List zS, l.map f = (l.map unm).map f := fun l => by
          rw [List.map_map]
          exact List.map_congr_left (fun x _ => (hf x).symm)
        rw [e, um, ← e]
      refine ⟨⟨?_, ?_, ?_, ?_⟩, ⟨?_, ?_, ?_⟩, fun s hs => ?_, ?_, ?_, ?_⟩
      · rw [g 54 (by omega) (by omega) (by omega)]
        show _ = nI (mkR _ _ _ _).length
        rw [mkR_len]
        exact q.1.1
      · rw [g 54 (by omega) (by omega) (by omega)]; exact q.1.2.1
      · rw [g 54 (by omega) (by omega) (by omega)]; exact q.1.2.2.1
      · rw [g 54 (by omega) (by omega) (by omega)]; exact q.1.2.2.2
      · rw [g 55 (by omega) (by omega) (by omega)]
        show hl _ ((mkR _ _ _ _).map _)
        rw [mp _ _ (fun x => rfl)]
        exact q.2.1.1
      · rw [g 56 (by omega) (by omega) (by omega)]
        show hl _ ((mkR _ _ _ _).map _)
        rw [mp _ _ (fun x => rfl)]
        exact q.2.1.2.1
      · refine hl_mk (fun i y hy => ?_)
        obtain ⟨x, x1, x2⟩ := mkR_some hy
        have q58 : X.I 58 i = nI x.2.2 := hl_m (g := fun x : zS => nI x.2.2) q.2.1.2.2 x1
        rw [f58, x2]
        by_cases ci : a ≤ i ∧ i < a + n
        · rw [if_pos ci, if_pos ci]
        · rw [if_neg ci, if_neg ci]; exact q58
      · rw [g 57 (by omega) (by omega) (by omega)]
        show _ = nI (off _ (mkR (aV A 54).1 a n (gn (aS A 34) + 1)) s)
        rw [← off_unm, um, off_unm]
        exact q.2.2.1 s (by
          have hs' : s ≤ (mkR (aV A 54).1 a n (gn (aS A 34) + 1)).length := hs
          rw [mkR_len] at hs'
          exact hs')
      · rw [g 59 (by omega) (by omega) (by omega)]
        show hl _ ((fl _ (mkR (aV A 54).1 a n (gn (aS A 34) + 1))).map _)
        rw [← fl_unm, um, fl_unm]
        exact q.2.2.2.1
      · rw [g 60 (by omega) (by omega) (by omega)]
        show hl _ ((fl _ (mkR (aV A 54).1 a n (gn (aS A 34) + 1))).map _)
        rw [← fl_unm, um, fl_unm]
        exact q.2.2.2.2.1
      · rw [g 61 (by omega) (by omega) (by omega)]
        show hl _ ((lf _ _ (mkR (aV A 54).1 a n (gn (aS A 34) + 1))).map _)
        rw [← lf_unm, um, lf_unm]
        exact q.2.2.2.2.2
    · rw [cV m c]
      have hr3 := gVer_range hm
      have ap := gVer.ap hm (show gVer 54 = true from rfl) c
      exact VR_fr (h4' m hm) (fun b b1 b2 => fI b (by omega) (by omega) (by omega) (by omega) (by omega) (by omega))
  · intro k hk
    have ed : dc C = dc B := by show gn (aS C 5) = gn (aS B 5); rw [cSS]; rfl
    have eb : bf C = bf B := by show gn (aS C 23) = gn (aS B 23); rw [cSS]; rfl
    rw [ed, eb, fI 78 (by omega) (by omega) (by omega) (by omega) (by omega) (by omega), fI 79 (by omega) (by omega) (by omega) (by omega) (by omega) (by omega), c54]
    rw [eb] at hk
    have q := h5 k hk
    have q' : X.I 78 k = nI (dc B - bf B + k) ∧ X.I 79 k = b2i ((aV B 54).2.1 (dc B - bf B + k)) := q
    rw [b54] at q'
    exact q'
  · obtain ⟨⟨m1, m2⟩, m3⟩ := h6
    refine ⟨⟨by rw [fG]; exact m1, by rw [fG]; exact m2⟩, fun i m hm => ?_⟩
    rw [cM, List.getElem?_append] at hm
    show Z.I 81 i = _ ∧ Z.I 82 i = _ ∧ Z.I 80 i = nI ((aH C).1 m.2.1).length ∧ ∃ r', Z.G 121 i = some r' ∧ gRow r' = true ∧ hl (Z.I r') (((aH C).1 m.2.1).map nI)
    rw [f81, f82, f80, fG, cH]
    by_cases c : i < (aM A).length
    · rw [if_pos c] at hm
      rw [if_neg (by omega), if_neg (by omega), if_neg (by omega)]
      obtain ⟨n1, n2, n3, r', n4, n5, n6⟩ := m3 i m (by show (aM B)[i]? = some m; rw [bM]; exact hm)
      have hne : r' ≠ r := fun e => by
        subst e
        have := m2 i (aM A).length (by omega) h4 (by rw [n4, hr])
        omega
      refine ⟨n1, n2, n3, r', n4, n5, ?_⟩
      have hr5 : 122 ≤ r' ∧ r' ≤ 125 := by
        unfold gRow at n5
        simp only [decide_eq_true_eq, List.mem_cons, List.mem_nil_iff, or_false] at n5
        omega
      rw [fI r' hne (by omega) (by omega) (by omega) (by omega) (by omega)]
      exact n6
    · rw [if_neg c] at hm
      have hi0 : i - (aM A).length = 0 := by
        have := vs_lt hm
        simp only [List.length_cons, List.length_nil] at this
        omega
      rw [hi0] at hm
      have e : m = (gn (aS A 34) + 1, wr A, mgS A a, mgZ A a n) := (Option.some.inj hm).symm
      have hil : i = (aM A).length := by omega
      rw [if_pos hil, if_pos hil, if_pos hil, e, hil]
      show nI (gn (aS A 34) + 1) = nI (gn (aS A 34) + 1) ∧ nI (wr A) = nI (wr A) ∧ nI (mgD A a n).length = nI ((aH B).1 (wr A)).length ∧ ∃ r', X.G 121 (aM A).length = some r' ∧ gRow r' = true ∧ hl (Z.I r') (((aH B).1 (wr A)).map nI)
      rw [bD]
      exact ⟨rfl, rfl, rfl, r, hr, hrr, fr⟩
