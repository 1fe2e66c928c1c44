/-! THE PURE SIDE: the reference puts a merged segment in -/
theorem z_rep353 {X : gX} {c d s m : Nat} (hm : X.I 54 7 = nI m) (hm2 : m ≤ 4096) (hc : c ≤ m) (hs : s ≤ c + 1) (hv : ∀ t, c + 1 ≤ t → t ≤ m → ∃ v, X.I 57 t = nI v ∧ d ≤ v ∧ v ≤ 5000) : ∃ Y, gI (fun q : gX × Int32 => f_Mo_replace_353 q.1 (nI d) (nI s) q.2) gK (X, nI (c + 1)) = some (gR.v, Y) ∧ Y.G = X.G ∧ gEq X Y ∧ (∀ b, b ≠ 57 → b ≠ 54 → Y.I b = X.I b) ∧ (∀ t, Y.I 54 t = if t = 7 then nI m - nI s else X.I 54 t) ∧ ∀ t, Y.I 57 t = if c + 1 ≤ t + s ∧ t + s ≤ m then X.I 57 (t + s) - nI d else X.I 57 t := by
  have key : ∃ r, gI (fun q : gX × Int32 => f_Mo_replace_353 q.1 (nI d) (nI s) q.2) gK (X, nI (c + 1)) = some r ∧ ∃ Y, r = (gR.v, Y) ∧ Y.G = X.G ∧ gEq X Y ∧ (∀ b, b ≠ 57 → b ≠ 54 → Y.I b = X.I b) ∧ (∀ t, Y.I 54 t = if t = 7 then nI m - nI s else X.I 54 t) ∧ ∀ t, Y.I 57 t = if c + 1 ≤ t + s ∧ t + s ≤ m then X.I 57 (t + s) - nI d else X.I 57 t := by
    refine gI_wf (body := fun q : gX × Int32 => f_Mo_replace_353 q.1 (nI d) (nI s) q.2) (fun q => ∃ Z i, q = (Z, nI i) ∧ c + 1 ≤ i ∧ i ≤ m + 1 ∧ Z.G = X.G ∧ gEq X Z ∧ (∀ b, b ≠ 57 → Z.I b = X.I b) ∧ ∀ t, Z.I 57 t = if c + 1 ≤ t + s ∧ t + s < i then X.I 57 (t + s) - nI d else X.I 57 t) _ (fun q => m + 1 - gn q.2) (by show m + 1 - gn (nI (c + 1)) ≤ 100000; omega) ⟨X, c + 1, rfl, Nat.le_refl _, by omega, rfl, gEq.rf, fun _ _ => rfl, fun t => by rw [if_neg (by omega)]⟩ (fun q hI => ?_)
    obtain ⟨Z, i, rfl, i1, i2, i3, i4, i5, i6⟩ := hI
    show (∃ s', f_Mo_replace_353 Z (nI d) (nI s) (nI i) = _ ∧ _) ∨ (∃ r, f_Mo_replace_353 Z (nI d) (nI s) (nI i) = _ ∧ _)
    unfold f_Mo_replace_353
    rw [i5 54 (by decide), hm]
    by_cases ci : m < i
    · right
      rw [if_pos (nI_lt ci (by omega)), gB_b, gLf_s]
      refine ⟨_, rfl, _, rfl, i3, i4.w, fun b b1 b2 => ?_, fun t => ?_, fun t => ?_⟩
      · rw [gX.w_ne b2]; exact i5 b b1
      · rw [gX.w_self]
        show upd _ 7 _ t = _
        rw [upd_at, i5 54 (by decide)]
      · rw [gX.w_ne (by decide), i6]
        by_cases c2 : c + 1 ≤ t + s ∧ t + s ≤ m
        · rw [if_pos c2, if_pos (by omega)]
        · rw [if_neg c2, if_neg (by omega)]
    · left
      have e57 : Z.I 57 i = X.I 57 i := by rw [i6]; rw [if_neg (by omega)]
      rw [if_neg (nI_nlt (by omega) (by omega)), if_pos (gIn_nI (by omega) (by omega)), pk_sub (by omega), if_pos (gIn_nI (by omega) (by omega)), gn_nI (k := i - s) (by omega), gn_nI (k := i) (by omega), e57, gB_b, nI_1]
      refine ⟨_, rfl, ⟨_, i + 1, rfl, by omega, by omega, i3, i4.w, fun b hb => ?_, fun t => ?_⟩, ?_⟩
      · rw [gX.w_ne hb]; exact i5 b hb
      · rw [gX.w_self]
        show upd _ (i - s) _ t = _
        rw [upd_at, i6]
        by_cases c2 : t = i - s
        · rw [if_pos c2, if_pos (by omega), c2, show i - s + s = i by omega]
        · rw [if_neg c2]
          by_cases c3 : c + 1 ≤ t + s ∧ t + s < i
          · rw [if_pos c3, if_pos (by omega)]
          · rw [if_neg c3, if_neg (by omega)]
      · show m + 1 - gn (nI (i + 1)) < m + 1 - _
        rw [gn_nI (by omega)]
        omega
  obtain ⟨r, r1, Y, rfl, r2⟩ := key
  exact ⟨Y, r1, r2⟩
theorem z_rep261 {X : gX} {a c d s m o1 dl : Nat} (hm : X.I 54 7 = nI m) (hm2 : m ≤ 4096) (hc : c ≤ m) (ha : a + 1 + s = c) (hv : ∀ t, c + 1 ≤ t → t ≤ m → ∃ v, X.I 57 t = nI v ∧ d ≤ v ∧ v ≤ 5000) : ∃ Y, gI (fun q : gX × Int32 => f_Mo_replace_261 q.1 (nI a) (nI c) (nI o1) (nI dl) (nI d) (nI s) q.2) gK (X, nI c) = some (gR.v, Y) ∧ Y.G = X.G ∧ gEq X Y ∧ (∀ b, b ≠ 54 → b ≠ 55 → b ≠ 56 → b ≠ 57 → b ≠ 58 → Y.I b = X.I b) ∧ (∀ t, Y.I 54 t = if t = 7 then nI m - nI s else X.I 54 t) ∧ (∀ b, b = 55 ∨ b = 56 ∨ b = 58 → ∀ t, Y.I b t = if c ≤ t + s ∧ t + s < m then X.I b (t + s) else X.I b t) ∧ ∀ t, Y.I 57 t = if c + 1 ≤ t + s ∧ t + s ≤ m then X.I 57 (t + s) - nI d else if t = a + 1 then nI o1 + nI dl else X.I 57 t := by
  have key : ∃ r, gI (fun q : gX × Int32 => f_Mo_replace_261 q.1 (nI a) (nI c) (nI o1) (nI dl) (nI d) (nI s) q.2) gK (X, nI c) = some r ∧ ∃ Y, r = (gR.v, Y) ∧ Y.G = X.G ∧ gEq X Y ∧ (∀ b, b ≠ 54 → b ≠ 55 → b ≠ 56 → b ≠ 57 → b ≠ 58 → Y.I b = X.I b) ∧ (∀ t, Y.I 54 t = if t = 7 then nI m - nI s else X.I 54 t) ∧ (∀ b, b = 55 ∨ b = 56 ∨ b = 58 → ∀ t, Y.I b t = if c ≤ t + s ∧ t + s < m then X.I b (t + s) else X.I b t) ∧ ∀ t, Y.I 57 t = if c + 1 ≤ t + s ∧ t + s ≤ m then X.I 57 (t + s) - nI d else if t = a + 1 then nI o1 + nI dl else X.I 57 t := by
    refine gI_wf (body := fun q : gX × Int32 => f_Mo_replace_261 q.1 (nI a) (nI c) (nI o1) (nI dl) (nI d) (nI s) q.2) (fun q => ∃ Z i, q = (Z, nI i) ∧ c ≤ i ∧ i ≤ m ∧ Z.G = X.G ∧ gEq X Z ∧ (∀ b, b ≠ 55 → b ≠ 56 → b ≠ 58 → Z.I b = X.I b) ∧ ∀ b, b = 55 ∨ b = 56 ∨ b = 58 → ∀ t, Z.I b t = if c ≤ t + s ∧ t + s < i then X.I b (t + s) else X.I b t) _ (fun q => m - gn q.2) (by show m - gn (nI c) ≤ 100000; omega) ⟨X, c, rfl, Nat.le_refl _, by omega, rfl, gEq.rf, fun _ _ _ _ => rfl, fun b _ t => by rw [if_neg (by omega)]⟩ (fun q hI => ?_)
    obtain ⟨Z, i, rfl, i1, i2, i3, i4, i5, i6⟩ := hI
    show (∃ s', f_Mo_replace_261 Z (nI a) (nI c) (nI o1) (nI dl) (nI d) (nI s) (nI i) = _ ∧ _) ∨ (∃ r, f_Mo_replace_261 Z (nI a) (nI c) (nI o1) (nI dl) (nI d) (nI s) (nI i) = _ ∧ _)
    unfold f_Mo_replace_261
    rw [i5 54 (by decide) (by decide) (by decide), hm]
    by_cases ci : m ≤ i
    · right
      have hi : i = m := by omega
      subst hi
      have g57 : ∀ t, (Z.w 57 (a + 1) (nI o1 + nI dl)).I 57 t = if t = a + 1 then nI o1 + nI dl else X.I 57 t := fun t => by
        rw [gX.w_self]
        show upd _ (a + 1) _ t = _
        rw [upd_at, i5 57 (by decide) (by decide) (by decide)]
      obtain ⟨Y, y1, y2, y3, y4, y5, y6⟩ := z_rep353 (X := Z.w 57 (a + 1) (nI o1 + nI dl)) (c := c) (d := d) (s := s) (m := i) (by rw [gX.w_ne (by decide), i5 54 (by decide) (by decide) (by decide)]; exact hm) hm2 hc (by omega) (fun t t1 t2 => by rw [g57, if_neg (by omega)]; exact hv t t1 t2)
      rw [if_pos (nI_le ci (by omega)), nI_1, nI_1, if_pos (gIn_nI (by omega) (by omega)), gn_nI (by omega), gB_b, y1, gLf_s]
      refine ⟨_, rfl, Y, rfl, by rw [y2]; exact i3, i4.w.tr y3, fun b b1 b2 b3 b4 b5 => ?_, fun t => ?_, fun b hb t => ?_, fun t => ?_⟩
      · rw [y4 b b4 b1, gX.w_ne b4]; exact i5 b b2 b3 b5
      · rw [y5, gX.w_ne (by decide), i5 54 (by decide) (by decide) (by decide)]
      · rw [y4 b (by omega) (by omega), gX.w_ne (by omega)]; exact i6 b hb t
      · rw [y6, g57, g57]
        by_cases c2 : c + 1 ≤ t + s ∧ t + s ≤ i
        · rw [if_pos c2, if_pos c2, if_neg (by omega)]
        · rw [if_neg c2, if_neg c2]
    · left
      have rd : ∀ b, b = 55 ∨ b = 56 ∨ b = 58 → Z.I b i = X.I b i := fun b hb => by
        rw [i6 b hb]
        by_cases c3 : c ≤ i + s ∧ i + s < i
        · omega
        · rw [if_neg c3]
      have j1 : gIn (nI i) 4097 = true := gIn_nI (by omega) (by omega)
      have j2 : gIn (nI (i - s)) 4097 = true := gIn_nI (by omega) (by omega)
      rw [if_neg (nI_ge (by omega) (by omega)), if_pos j1, pk_sub (by omega), if_pos j2, gn_nI (k := i - s) (by omega), gn_nI (k := i) (by omega), gB_b, if_pos j1, if_pos j2, gB_b, if_pos j1, if_pos j2, gB_b, nI_1]
      refine ⟨_, rfl, ⟨_, i + 1, rfl, by omega, by omega, i3, i4.w.w.w, fun b b1 b2 b3 => ?_, fun b hb t => ?_⟩, ?_⟩
      · rw [gX.w_ne b3, gX.w_ne b2, gX.w_ne b1]; exact i5 b b1 b2 b3
      · have fin : upd (Z.I b) (i - s) (X.I b i) t = if c ≤ t + s ∧ t + s < i + 1 then X.I b (t + s) else X.I b t := by
          rw [upd_at, i6 b hb]
          by_cases c2 : t = i - s
          · rw [if_pos c2, if_pos (by omega), c2, show i - s + s = i by omega]
          · rw [if_neg c2]
            by_cases c3 : c ≤ t + s ∧ t + s < i
            · rw [if_pos c3, if_pos (by omega)]
            · rw [if_neg c3, if_neg (by omega)]
        rw [← fin]
        rcases hb with rfl | rfl | rfl
        · rw [gX.w_ne (by decide), gX.w_ne (by decide), gX.w_self, rd 55 (Or.inl rfl)]
        · rw [gX.w_ne (by decide), gX.w_self, gX.w_ne (by decide), rd 56 (Or.inr (Or.inl rfl))]
        · rw [gX.w_self, gX.w_ne (by decide), gX.w_ne (by decide), rd 58 (Or.inr (Or.inr rfl))]
      · show m - gn (nI (i + 1)) < m - _
        rw [gn_nI (by omega)]
        omega
  obtain ⟨r, r1, Y, rfl, r2⟩ := key
  exact ⟨Y, r1, r2⟩
