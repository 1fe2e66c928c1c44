/-! THE PURE SIDE: the reference puts a merged segment in: its docs -/
def rp152 (X Y : gX) (a c o1 dl sh tot m w : Nat) : Prop := Y.G = X.G ∧ gEq X Y ∧ (∀ b, b < 54 ∨ 61 < b → Y.I b = X.I b) ∧ (∀ t, Y.I 54 t = if t = 7 then nI m - nI (c - a - 1) else X.I 54 t) ∧ (∀ b, b = 59 ∨ b = 60 ∨ b = 61 → ∀ t, Y.I b t = if o1 + dl ≤ t ∧ t + sh < tot then X.I b (t + sh) else X.I b t) ∧ (∀ t, Y.I 55 t = if c ≤ t + (c - a - 1) ∧ t + (c - a - 1) < m then X.I 55 (t + (c - a - 1)) else if t = a then nI w else X.I 55 t) ∧ (∀ t, Y.I 56 t = if c ≤ t + (c - a - 1) ∧ t + (c - a - 1) < m then X.I 56 (t + (c - a - 1)) else if t = a then -1 else X.I 56 t) ∧ (∀ t, Y.I 58 t = if c ≤ t + (c - a - 1) ∧ t + (c - a - 1) < m then X.I 58 (t + (c - a - 1)) else if t = a then 0 else X.I 58 t) ∧ ∀ t, Y.I 57 t = if c + 1 ≤ t + (c - a - 1) ∧ t + (c - a - 1) ≤ m then X.I 57 (t + (c - a - 1)) - nI sh else if t = a + 1 then nI o1 + nI dl else X.I 57 t
theorem z_rep152 {X : gX} {a c j o1 dl sh o2 tot m w : Nat} (hm : X.I 54 7 = nI m) (hm2 : m ≤ 4096) (hc : c ≤ m) (hac : a < c) (hj : j < 4) (h82 : X.I 82 j = nI w) (hsh : o1 + dl + sh = o2) (h2t : o2 ≤ tot) (ht : tot ≤ 4096) (hb : ∀ t, t < tot → (X.I 60 t = 0 ∨ X.I 60 t = 1) ∧ (X.I 61 t = 0 ∨ X.I 61 t = 1)) (hv : ∀ t, c + 1 ≤ t → t ≤ m → ∃ v, X.I 57 t = nI v ∧ sh ≤ v ∧ v ≤ 5000) : ∃ Y, gI (fun q : gX × Int32 => f_Mo_replace_152 q.1 (nI a) (nI c) (nI j) (nI o1) (nI dl) (nI tot) (nI sh) q.2) gK (X, nI o2) = some (gR.v, Y) ∧ rp152 X Y a c o1 dl sh tot m w := by
  refine (fun key : ∃ r, gI (fun q : gX × Int32 => f_Mo_replace_152 q.1 (nI a) (nI c) (nI j) (nI o1) (nI dl) (nI tot) (nI sh) q.2) gK (X, nI o2) = some r ∧ ∃ Y, r = (gR.v, Y) ∧ rp152 X Y a c o1 dl sh tot m w => by
    obtain ⟨r, r1, Y, rfl, r2⟩ := key
    exact ⟨Y, r1, r2⟩) ?_
  refine gI_wf (body := fun q : gX × Int32 => f_Mo_replace_152 q.1 (nI a) (nI c) (nI j) (nI o1) (nI dl) (nI tot) (nI sh) q.2) (fun q => ∃ Z i, q = (Z, nI i) ∧ o2 ≤ i ∧ i ≤ tot ∧ Z.G = X.G ∧ gEq X Z ∧ (∀ b, b ≠ 59 → b ≠ 60 → b ≠ 61 → Z.I b = X.I b) ∧ ∀ b, b = 59 ∨ b = 60 ∨ b = 61 → ∀ t, Z.I b t = if o1 + dl ≤ t ∧ t + sh < i then X.I b (t + sh) else X.I b t) (fun r => ∃ Y, r = (gR.v, Y) ∧ rp152 X Y a c o1 dl sh tot m w) (fun q => tot - gn q.2) (by show tot - gn (nI o2) ≤ 100000; omega) ⟨X, o2, rfl, Nat.le_refl _, by omega, rfl, gEq.rf, fun _ _ _ _ => rfl, fun b _ t => by rw [if_neg (by omega)]⟩ (fun q hI => ?_)
  obtain ⟨Z, i, rfl, i1, i2, i3, i4, i5, i6⟩ := hI
  show (∃ s', f_Mo_replace_152 Z (nI a) (nI c) (nI j) (nI o1) (nI dl) (nI tot) (nI sh) (nI i) = _ ∧ _) ∨ (∃ r, f_Mo_replace_152 Z (nI a) (nI c) (nI j) (nI o1) (nI dl) (nI tot) (nI sh) (nI i) = _ ∧ _)
  unfold f_Mo_replace_152
  by_cases ci : tot ≤ i
  · right
    have hi : i = tot := by omega
    subst hi
    have j1 : gIn (nI a) 4097 = true := gIn_nI (by omega) (by omega)
    have e82 : Z.I 82 j = nI w := by rw [i5 82 (by decide) (by decide) (by decide)]; exact h82
    have es : nI c - nI a - 1 = nI (c - a - 1) := by rw [pk_sub (by omega), nI_m1 (by omega)]
    have zI : ∀ b, b ≠ 55 → b ≠ 56 → b ≠ 58 → (((Z.w 55 a (nI w)).w 56 a (-1)).w 58 a 0).I b = Z.I b := fun b b1 b2 b3 => by rw [gX.w_ne b3, gX.w_ne b2, gX.w_ne b1]
    obtain ⟨Y, y1, y2, y3, y4, y5, y6, y7⟩ := z_rep261 (X := ((Z.w 55 a (nI w)).w 56 a (-1)).w 58 a 0) (a := a) (c := c) (d := sh) (s := c - a - 1) (m := m) (o1 := o1) (dl := dl) (by rw [zI 54 (by decide) (by decide) (by decide), i5 54 (by decide) (by decide) (by decide)]; exact hm) hm2 hc (by omega) (fun t t1 t2 => by rw [zI 57 (by decide) (by decide) (by decide), i5 57 (by decide) (by decide) (by decide)]; exact hv t t1 t2)
    rw [if_pos (nI_le ci (by omega)), if_pos (gIn_nI hj (by omega)), if_pos j1, gn_nI (k := j) (by omega), gn_nI (k := a) (by omega), e82, gB_b, if_pos j1, gB_b, if_pos j1, gB_b, es, y1, gLf_s]
    refine ⟨_, rfl, Y, rfl, by rw [y2]; exact i3, i4.w.w.w.tr y3, fun b hb => ?_, fun t => ?_, fun b hb t => ?_, fun t => ?_, fun t => ?_, fun t => ?_, fun t => ?_⟩
    · rw [y4 b (by omega) (by omega) (by omega) (by omega) (by omega), zI b (by omega) (by omega) (by omega)]
      exact i5 b (by omega) (by omega) (by omega)
    · rw [y5, zI 54 (by decide) (by decide) (by decide), i5 54 (by decide) (by decide) (by decide)]
    · rw [y4 b (by omega) (by omega) (by omega) (by omega) (by omega), zI b (by omega) (by omega) (by omega)]
      exact i6 b hb t
    · have e : ∀ u, (((Z.w 55 a (nI w)).w 56 a (-1)).w 58 a 0).I 55 u = if u = a then nI w else X.I 55 u := fun u => by
        rw [gX.w_ne (by decide), gX.w_ne (by decide), gX.w_self]
        show upd _ a _ u = _
        rw [upd_at, i5 55 (by decide) (by decide) (by decide)]
      rw [y6 55 (Or.inl rfl), e, e]
      by_cases c2 : c ≤ t + (c - a - 1) ∧ t + (c - a - 1) < m
      · rw [if_pos c2, if_pos c2, if_neg (by omega)]
      · rw [if_neg c2, if_neg c2]
    · have e : ∀ u, (((Z.w 55 a (nI w)).w 56 a (-1)).w 58 a 0).I 56 u = if u = a then -1 else X.I 56 u := fun u => by
        rw [gX.w_ne (by decide), gX.w_self]
        show upd _ a _ u = _
        rw [upd_at, gX.w_ne (by decide), i5 56 (by decide) (by decide) (by decide)]
      rw [y6 56 (Or.inr (Or.inl rfl)), e, e]
      by_cases c2 : c ≤ t + (c - a - 1) ∧ t + (c - a - 1) < m
      · rw [if_pos c2, if_pos c2, if_neg (by omega)]
      · rw [if_neg c2, if_neg c2]
    · have e : ∀ u, (((Z.w 55 a (nI w)).w 56 a (-1)).w 58 a 0).I 58 u = if u = a then 0 else X.I 58 u := fun u => by
        rw [gX.w_self]
        show upd _ a _ u = _
        rw [upd_at, gX.w_ne (by decide), gX.w_ne (by decide), i5 58 (by decide) (by decide) (by decide)]
      rw [y6 58 (Or.inr (Or.inr rfl)), e, e]
      by_cases c2 : c ≤ t + (c - a - 1) ∧ t + (c - a - 1) < m
      · rw [if_pos c2, if_pos c2, if_neg (by omega)]
      · rw [if_neg c2, if_neg c2]
    · rw [y7, zI 57 (by decide) (by decide) (by decide), i5 57 (by decide) (by decide) (by decide)]
  · left
    have rd : ∀ b, b = 59 ∨ b = 60 ∨ b = 61 → Z.I b i = X.I b i := fun b hb => by
      rw [i6 b hb, if_neg (by omega)]
    have hbi := hb i (by omega)
    have j1 : gIn (nI i) 4096 = true := gIn_nI (by omega) (by omega)
    have j2 : gIn (nI (i - sh)) 4096 = true := gIn_nI (by omega) (by omega)
    have e60 : (Z.w 59 (i - sh) (Z.I 59 i)).I 60 i = X.I 60 i := by rw [gX.w_ne (by decide)]; exact rd 60 (Or.inr (Or.inl rfl))
    have e61 : ((Z.w 59 (i - sh) (Z.I 59 i)).w 60 (i - sh) (X.I 60 i)).I 61 i = X.I 61 i := by rw [gX.w_ne (by decide), gX.w_ne (by decide)]; exact rd 61 (Or.inr (Or.inr rfl))
    rw [if_neg (nI_ge (by omega) (by omega)), if_pos j1, pk_sub (by omega), if_pos j2, gn_nI (k := i - sh) (by omega), gn_nI (k := i) (by omega), gB_b, if_pos j1, if_pos j2, e60, b_nar hbi.1, gB_b, if_pos j1, if_pos j2, e61, b_nar hbi.2, gB_b, nI_1]
    refine ⟨_, rfl, ⟨_, i + 1, rfl, by omega, by omega, i3, i4.w.w.w, fun b b1 b2 b3 => ?_, fun b hb' t => ?_⟩, ?_⟩
    · rw [gX.w_ne b3, gX.w_ne b2, gX.w_ne b1]; exact i5 b b1 b2 b3
    · have fin : upd (Z.I b) (i - sh) (X.I b i) t = if o1 + dl ≤ t ∧ t + sh < i + 1 then X.I b (t + sh) else X.I b t := by
        rw [upd_at, i6 b hb']
        by_cases c2 : t = i - sh
        · rw [if_pos c2, if_pos (by omega), c2, show i - sh + sh = i by omega]
        · rw [if_neg c2]
          by_cases c3 : o1 + dl ≤ t ∧ t + sh < i
          · rw [if_pos c3, if_pos (by omega)]
          · rw [if_neg c3, if_neg (by omega)]
      rw [← fin]
      rcases hb' with rfl | rfl | rfl
      · rw [gX.w_ne (by decide), gX.w_ne (by decide), gX.w_self, rd 59 (Or.inl rfl)]
      · rw [gX.w_ne (by decide), gX.w_self, gX.w_ne (by decide)]
      · rw [gX.w_self, gX.w_ne (by decide), gX.w_ne (by decide)]
    · show tot - gn (nI (i + 1)) < tot - _
      rw [gn_nI (by omega)]
      omega
/-- which docs of the merged file lie before the place i -/
def mat (F D : List Nat) (o1 i6 i : Nat) : Prop := i6 ≤ D.length ∧ ∀ t d, D[t]? = some d → (t < i6 ↔ ∃ p, o1 ≤ p ∧ p < i ∧ F[p]? = some d)
theorem mat_s1 {F D : List Nat} {o1 i6 i d0 : Nat} (h : mat F D o1 i6 i) (hD : D.Pairwise (· < ·)) (ho : o1 ≤ i) (hF : F[i]? = some d0) (hd : D[i6]? = some d0) : mat F D o1 (i6 + 1) (i + 1) := by
  refine ⟨vs_lt hd, fun t d ht => ?_⟩
  have q := h.2 t d ht
  constructor
  · intro r
    by_cases c : t < i6
    · obtain ⟨p, p1, p2, p3⟩ := q.mp c
      exact ⟨p, p1, by omega, p3⟩
    · have : t = i6 := by omega
      subst this
      have : d = d0 := Option.some.inj (ht.symm.trans hd)
      subst this
      exact ⟨i, ho, by omega, hF⟩
  · intro ⟨p, p1, p2, p3⟩
    by_cases c : p < i
    · have := q.mpr ⟨p, p1, c, p3⟩
      omega
    · have : p = i := by omega
      subst this
      have : d = d0 := Option.some.inj (p3.symm.trans hF)
      subst this
      rcases Nat.lt_trichotomy t i6 with c2 | c2 | c2
      · omega
      · omega
      · have := srt_lt hD hd ht c2
        omega
theorem mat_s2 {F D : List Nat} {o1 o2 i6 i d0 d1 : Nat} (h : mat F D o1 i6 i) (hD : D.Pairwise (· < ·)) (hFs : F.Pairwise (· < ·)) (hF : F[i]? = some d0) (hd : D[i6]? = some d1) (hne : d1 ≠ d0) (hsub : ∀ t d : Nat, D[t]? = some d → ∃ p : Nat, o1 ≤ p ∧ p < o2 ∧ F[p]? = some d) : mat F D o1 i6 (i + 1) := by
  refine ⟨h.1, fun t d ht => ?_⟩
  have q := h.2 t d ht
  constructor
  · intro r
    obtain ⟨p, p1, p2, p3⟩ := q.mp r
    exact ⟨p, p1, by omega, p3⟩
  · intro ⟨p, p1, p2, p3⟩
    by_cases c : p < i
    · exact q.mpr ⟨p, p1, c, p3⟩
    · have : p = i := by omega
      subst this
      have : d = d0 := Option.some.inj (p3.symm.trans hF)
      subst this
      rcases Nat.lt_trichotomy t i6 with c2 | c2 | c2
      · exact c2
      · subst c2
        exact absurd (Option.some.inj (hd.symm.trans ht)) hne
      · have l1 := srt_lt hD hd ht c2
        obtain ⟨p', r1, r2, r3⟩ := hsub i6 d1 hd
        have : p' < p := by
          rcases Nat.lt_trichotomy p' p with c3 | c3 | c3
          · exact c3
          · subst c3
            have := Option.some.inj (r3.symm.trans hF)
            omega
          · have := srt_lt hFs hF r3 c3
            omega
        have := (h.2 i6 d1 hd).mpr ⟨p', r1, this, r3⟩
        omega
