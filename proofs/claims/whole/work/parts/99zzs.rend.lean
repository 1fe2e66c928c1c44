/-! THE PURE SIDE: the reference ends a merge -/
theorem VR_mk {I J : Nat → Nat → Int32} {D : Nat → List Nat} {Ls : Nat → Nat → Bool} {V : zV} {a n u : Nat} (q : VR I 54 D Ls V) (g : ∀ b, 54 ≤ b → b ≤ 61 → b ≠ 58 → J b = I b) (f58 : ∀ t, J 58 t = if a ≤ t ∧ t < a + n then nI u else I 58 t) : VR J 54 D Ls (mkR V.1 a n u, V.2) := by
  have um := mkR_unm (l := V.1) (a := a) (n := n) (v := u)
  have mp : ∀ (β : Type) (f : zS → β), (∀ x, f (unm x) = f x) → (mkR V.1 a n u).map f = V.1.map f := fun β f hf => by
    have e : ∀ l : List zS, l.map f = (l.map unm).map f := fun l => by
      rw [List.map_map]
      exact List.map_congr_left (fun x _ => (hf x).symm)
    rw [e, um, ← e]
  refine ⟨⟨?_, ?_, ?_, ?_⟩, ⟨?_, ?_, ?_⟩, fun s hs => ?_, ?_, ?_, ?_⟩
  · rw [g 54 (by omega) (by omega) (by omega)]
    show _ = nI (mkR _ _ _ _).length
    rw [mkR_len]
    exact q.1.1
  · rw [g 54 (by omega) (by omega) (by omega)]; exact q.1.2.1
  · rw [g 54 (by omega) (by omega) (by omega)]; exact q.1.2.2.1
  · rw [g 54 (by omega) (by omega) (by omega)]; exact q.1.2.2.2
  · rw [g 55 (by omega) (by omega) (by omega)]
    show hl _ ((mkR _ _ _ _).map _)
    rw [mp _ _ (fun x => rfl)]
    exact q.2.1.1
  · rw [g 56 (by omega) (by omega) (by omega)]
    show hl _ ((mkR _ _ _ _).map _)
    rw [mp _ _ (fun x => rfl)]
    exact q.2.1.2.1
  · refine hl_mk (fun i y hy => ?_)
    obtain ⟨x, x1, x2⟩ := mkR_some hy
    have q58 : I 58 i = nI x.2.2 := hl_m (g := fun x : zS => nI x.2.2) q.2.1.2.2 x1
    rw [f58, x2]
    by_cases ci : a ≤ i ∧ i < a + n
    · rw [if_pos ci, if_pos ci]
    · rw [if_neg ci, if_neg ci]; exact q58
  · rw [g 57 (by omega) (by omega) (by omega)]
    show _ = nI (off _ (mkR V.1 a n u) s)
    rw [← off_unm, um, off_unm]
    exact q.2.2.1 s (by
      have hs' : s ≤ (mkR V.1 a n u).length := hs
      rw [mkR_len] at hs'
      exact hs')
  · rw [g 59 (by omega) (by omega) (by omega)]
    show hl _ ((fl _ (mkR V.1 a n u)).map _)
    rw [← fl_unm, um, fl_unm]
    exact q.2.2.2.1
  · rw [g 60 (by omega) (by omega) (by omega)]
    show hl _ ((fl _ (mkR V.1 a n u)).map _)
    rw [← fl_unm, um, fl_unm]
    exact q.2.2.2.2.1
  · rw [g 61 (by omega) (by omega) (by omega)]
    show hl _ ((lf _ _ (mkR V.1 a n u)).map _)
    rw [← lf_unm, um, lf_unm]
    exact q.2.2.2.2.2
theorem z_end108 {X : gX} {A : zA} {k j : Nat} {V : zV} {m : zM} (h : RM X (sV1 A 54 V)) (hm : Mid0 (aFn A j V) k) (hj : (aM A)[j]? = some m) (h30 : aS A 30 = nI (aM A).length) (h4 : (aM A).length ≤ 4) : ∃ Y, f_Mo_ending_108 X (nI j) = some (gR.v, Y) ∧ RM Y (aTdy (aFn A j V)) ∧ frM X Y ∧ Y.I 46 0 = X.I 46 0 := by
  have hjl := vs_lt hj
  have e30 : X.I 46 30 = nI (aM A).length := (RM_S h 30 (by decide) (by decide) (by decide)).trans h30
  have em1 : nI (aM A).length - 1 = nI ((aM A).length - 1) := nI_m1 (by omega)
  unfold f_Mo_ending_108
  refine (fun key : ∃ r, gI (fun s : gX × Int32 => f_Mo_ending_111 s.1 s.2) gK (X, nI j) = some r ∧ ∃ Y, r = (gR.v, Y) ∧ RM Y (aTdy (aFn A j V)) ∧ frM X Y ∧ Y.I 46 0 = X.I 46 0 => by
    obtain ⟨r, r1, Y, rfl, r2⟩ := key
    exact ⟨Y, r1, r2⟩) ?_
  refine gI_wf (body := fun s : gX × Int32 => f_Mo_ending_111 s.1 s.2) (fun s => ∃ Z i, s = (Z, nI i) ∧ j ≤ i ∧ i ≤ (aM A).length - 1 ∧ (∀ b, b ≠ 80 → b ≠ 81 → b ≠ 82 → Z.I b = X.I b) ∧ (∀ b, b ≠ 121 → Z.G b = X.G b) ∧ (∀ t, Z.G 121 t = if j ≤ t ∧ t < i then X.G 121 (t + 1) else if t = i then X.G 121 j else X.G 121 t) ∧ (∀ b, b = 80 ∨ b = 81 ∨ b = 82 → ∀ t, Z.I b t = if j ≤ t ∧ t < i then X.I b (t + 1) else X.I b t) ∧ gEq X Z) _ (fun s => 4 - gn s.2) (by show 4 - gn (nI j) ≤ 100000; omega) ⟨X, j, rfl, Nat.le_refl _, by omega, fun _ _ _ _ => rfl, fun _ _ => rfl, fun t => by rw [if_neg (by omega)]; by_cases c : t = j <;> simp [c], fun b _ t => by rw [if_neg (by omega)], gEq.rf⟩ (fun s hI => ?_)
  obtain ⟨Z, i, rfl, i1, i2, i3, i4, i5, i6, i7⟩ := hI
  show (∃ s', f_Mo_ending_111 Z (nI i) = _ ∧ _) ∨ (∃ r, f_Mo_ending_111 Z (nI i) = _ ∧ _)
  unfold f_Mo_ending_111
  rw [i3 46 (by decide) (by decide) (by decide), e30, nI_1]
  by_cases ci : (aM A).length ≤ i + 1
  · right
    have hi : i = (aM A).length - 1 := by omega
    rw [if_pos (nI_le ci (by omega)), em1, gB_b]
    have yI : ∀ b, b ≠ 46 → b ≠ 80 → b ≠ 81 → b ≠ 82 → (Z.w 46 30 (nI ((aM A).length - 1))).I b = X.I b := fun b b1 b2 b3 b4 => by rw [gX.w_ne b1]; exact i3 b b2 b3 b4
    have y46 : ∀ t, (Z.w 46 30 (nI ((aM A).length - 1))).I 46 t = if t = 30 then nI ((aM A).length - 1) else X.I 46 t := fun t => by
      rw [gX.w_self]
      show upd _ 30 _ t = _
      rw [upd_at, i3 46 (by decide) (by decide) (by decide)]
    have y8 : ∀ b, b = 80 ∨ b = 81 ∨ b = 82 → ∀ t, (Z.w 46 30 (nI ((aM A).length - 1))).I b t = if j ≤ t ∧ t < i then X.I b (t + 1) else X.I b t := fun b hb t => by rw [gX.w_ne (by omega)]; exact i6 b hb t
    have yG : ∀ t, (Z.w 46 30 (nI ((aM A).length - 1))).G 121 t = if j ≤ t ∧ t < i then X.G 121 (t + 1) else if t = i then X.G 121 j else X.G 121 t := i5
    have yGo : ∀ b, b ≠ 121 → (Z.w 46 30 (nI ((aM A).length - 1))).G b = X.G b := i4
    have yE : gEq X (Z.w 46 30 (nI ((aM A).length - 1))) := i7.w
    generalize Z.w 46 30 (nI ((aM A).length - 1)) = Y at yI y46 y8 yG yGo yE ⊢
    have hRM : RM Y (aFn A j V) := by
      obtain ⟨h1, h2, h3, h4', h5, h6⟩ := h
      have cSS : aS (aFn A j V) = upd (aS A) 30 (nI ((aM A).length - 1)) := by
        show upd (aS A) 30 (aS A 30 - 1) = _
        rw [h30, em1]
      refine ⟨fun t t1 t2 t3 => ?_, mE_fr (A := aFn A j V) h2 (yI 47 (by decide) (by decide) (by decide) (by decide)) (yI 48 (by decide) (by decide) (by decide) (by decide)) (yI 49 (by decide) (by decide) (by decide) (by decide)), mT_fr h3 (by rw [y46, if_neg (by decide)]) (yI 50 (by decide) (by decide) (by decide) (by decide)) (yI 51 (by decide) (by decide) (by decide) (by decide)) (yI 52 (by decide) (by decide) (by decide) (by decide)), fun v hv => ?_, fun t ht => ?_, ?_⟩
      · rw [y46, cSS, upd_at, h1 t t1 t2 t3]
      · have hr := gVer_range hv
        exact VR_fr (h4' v hv) (fun b b1 b2 => yI b (by omega) (by omega) (by omega) (by omega))
      · rw [yI 78 (by decide) (by decide) (by decide) (by decide), yI 79 (by decide) (by decide) (by decide) (by decide)]
        exact h5 t ht
      · obtain ⟨⟨m1, m2⟩, m3⟩ := h6
        have rot : ∀ t, t < 4 → ∃ t', t' < 4 ∧ Y.G 121 t = X.G 121 t' ∧ ((t < j ∧ t' = t) ∨ (j ≤ t ∧ t < i ∧ t' = t + 1) ∨ (t = i ∧ t' = j) ∨ (i < t ∧ t' = t)) := fun t ht => by
          rw [yG]
          by_cases c : j ≤ t ∧ t < i
          · rw [if_pos c]
            exact ⟨t + 1, by omega, rfl, by omega⟩
          · rw [if_neg c]
            by_cases c2 : t = i
            · rw [if_pos c2]
              exact ⟨j, by omega, rfl, by omega⟩
            · rw [if_neg c2]
              exact ⟨t, ht, rfl, by omega⟩
        refine ⟨⟨fun t ht => ?_, fun t t' ht ht' e => ?_⟩, fun t m' hm' => ?_⟩
        · obtain ⟨u, u1, u2, -⟩ := rot t ht
          rw [u2]
          exact m1 u u1
        · obtain ⟨u, u1, u2, u3⟩ := rot t ht
          obtain ⟨u', u1', u2', u3'⟩ := rot t' ht'
          rw [u2, u2'] at e
          have := m2 u u' u1 u1' e
          omega
        · have hm'' : ((aM A).eraseIdx j)[t]? = some m' := hm'
          rw [List.getElem?_eraseIdx] at hm''
          have rI : ∀ r, gRow r = true → Y.I r = X.I r := fun r hr => by
            unfold gRow at hr
            simp only [decide_eq_true_eq, List.mem_cons, List.mem_nil_iff, or_false] at hr
            exact yI r (by omega) (by omega) (by omega) (by omega)
          by_cases c : t < j
          · rw [if_pos c] at hm''
            obtain ⟨n1, n2, n3, r, n4, n5, n6⟩ := m3 t m' hm''
            rw [y8 81 (by omega), y8 82 (by omega), y8 80 (by omega), if_neg (by omega), if_neg (by omega), if_neg (by omega)]
            refine ⟨n1, n2, n3, r, ?_, n5, by rw [rI r n5]; exact n6⟩
            rw [yG, if_neg (by omega), if_neg (by omega)]
            exact n4
          · rw [if_neg c] at hm''
            have hil := vs_lt hm''
            obtain ⟨n1, n2, n3, r, n4, n5, n6⟩ := m3 (t + 1) m' hm''
            rw [y8 81 (by omega), y8 82 (by omega), y8 80 (by omega), if_pos (by omega), if_pos (by omega), if_pos (by omega)]
            refine ⟨n1, n2, n3, r, ?_, n5, by rw [rI r n5]; exact n6⟩
            rw [yG, if_pos (by omega)]
            exact n4
    have hfr : frM X Y := ⟨fun b hb => yI b (by omega) (by omega) (by omega) (by omega), yGo, yE⟩
    obtain ⟨U, t1, t2, t3, t4⟩ := z_tdy hRM (VB_0 hm)
    rw [t1, gCv_v, gLf_s]
    exact ⟨_, rfl, U, rfl, t2, hfr.tr t3, by rw [t4, y46, if_neg (by decide)]⟩
  · left
    have hG := h.2.2.2.2.2.1.1
    obtain ⟨r1, a1, a2⟩ := hG (i + 1) (by omega)
    obtain ⟨r2, b1, b2⟩ := hG j (by omega)
    have g1 : Z.G 121 (i + 1) = some r1 := by rw [i5, if_neg (by omega), if_neg (by omega)]; exact a1
    have g2 : Z.G 121 i = some r2 := by rw [i5, if_neg (by omega), if_pos rfl]; exact b1
    have j1 : gIn (nI i) 4 = true := gIn_nI (by omega) (by omega)
    have j2 : gIn (nI (i + 1)) 4 = true := gIn_nI (by omega) (by omega)
    rw [if_neg (nI_ge (by omega) (by omega)), if_pos j1, if_pos j2, if_pos j1, gn_nI (k := i) (by omega), gn_nI (k := i + 1) (by omega), g1, g2, if_pos (show gOr (some r1) = true from a2), gB_b, if_pos j2, if_pos (show gOr (some r2) = true from b2), gB_b, if_pos j2, if_pos j1, gB_b, if_pos j2, if_pos j1, gB_b, if_pos j2, if_pos j1, gB_b]
    have rd : ∀ b, b = 80 ∨ b = 81 ∨ b = 82 → Z.I b (i + 1) = X.I b (i + 1) := fun b hb => by rw [i6 b hb, if_neg (by omega)]
    refine ⟨_, rfl, ⟨_, i + 1, rfl, by omega, by omega, fun b b1 b2 b3 => ?_, fun b hb => ?_, fun t => ?_, fun b hb t => ?_, i7.g.g.w.w.w⟩, ?_⟩
    · rw [gX.w_ne b3, gX.w_ne b2, gX.w_ne b1]; exact i3 b b1 b2 b3
    · rw [w_G, w_G, w_G, gX.g_ne hb, gX.g_ne hb]; exact i4 b hb
    · rw [w_G, w_G, w_G]
      by_cases c : t = i + 1
      · rw [g_same c, if_neg (by omega), if_pos c, b1]
      · rw [g_oth (Or.inr c)]
        by_cases c2 : t = i
        · rw [g_same c2, if_pos (by omega), c2, a1]
        · rw [g_oth (Or.inr c2), i5]
          by_cases c3 : j ≤ t ∧ t < i
          · rw [if_pos c3, if_pos (by omega)]
          · rw [if_neg c3, if_neg c2, if_neg (by omega), if_neg c]
    · have fin : upd (Z.I b) i (X.I b (i + 1)) t = if j ≤ t ∧ t < i + 1 then X.I b (t + 1) else X.I b t := by
        rw [upd_at, i6 b hb]
        by_cases c2 : t = i
        · rw [if_pos c2, if_pos (by omega), c2]
        · rw [if_neg c2]
          by_cases c3 : j ≤ t ∧ t < i
          · rw [if_pos c3, if_pos (by omega)]
          · rw [if_neg c3, if_neg (by omega)]
      rw [← fin]
      rcases hb with rfl | rfl | rfl
      · rw [gX.w_ne (by decide), gX.w_ne (by decide), gX.w_self]
        show upd (Z.I 80) i (Z.I 80 (i + 1)) t = _
        rw [rd 80 (Or.inl rfl)]
      · rw [gX.w_ne (by decide), gX.w_self, gX.w_ne (by decide)]
        show upd (Z.I 81) i (Z.I 81 (i + 1)) t = _
        rw [rd 81 (Or.inr (Or.inl rfl))]
      · rw [gX.w_self, gX.w_ne (by decide), gX.w_ne (by decide)]
        show upd (Z.I 82) i (Z.I 82 (i + 1)) t = _
        rw [rd 82 (Or.inr (Or.inr rfl))]
    · show 4 - gn (nI (i + 1)) < 4 - _
      rw [gn_nI (by omega)]
      omega
