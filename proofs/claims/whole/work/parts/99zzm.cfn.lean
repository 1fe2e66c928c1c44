/-! THE PURE SIDE: the class ends a merge -/
def oK (W : List zS) (f : zS) (a n i : Nat) : List zS := if i ≤ a then W.take i else W.take a ++ f :: (W.drop (a + n)).take (i - (a + n))
theorem oK_len {W : List zS} {f : zS} {a n i : Nat} (h1 : i ≤ W.length) (h2 : a + n ≤ W.length) : (oK W f a n i).length = if i ≤ a then i else a + 1 + (i - (a + n)) := by
  unfold oK
  by_cases c : i ≤ a
  · rw [if_pos c, if_pos c, List.length_take]
    omega
  · rw [if_neg c, if_neg c, List.length_append, List.length_cons, List.length_take, List.length_take, List.length_drop]
    omega
theorem oK_1 {W : List zS} {f x : zS} {a n i : Nat} (hx : W[i]? = some x) (h : i < a) : oK W f a n (i + 1) = oK W f a n i ++ [x] := by
  unfold oK
  rw [if_pos (by omega), if_pos (by omega), List.take_add_one, hx]
  rfl
theorem oK_2 {W : List zS} {f : zS} {a n : Nat} (h : 0 < n) : oK W f a n (a + 1) = oK W f a n a ++ [f] := by
  unfold oK
  rw [if_neg (by omega), if_pos (by omega), show a + 1 - (a + n) = 0 by omega]
  rfl
theorem oK_3 {W : List zS} {f : zS} {a n i : Nat} (h1 : a < i) (h2 : i < a + n) : oK W f a n (i + 1) = oK W f a n i := by
  unfold oK
  rw [if_neg (by omega), if_neg (by omega), show i + 1 - (a + n) = 0 by omega, show i - (a + n) = 0 by omega]
theorem oK_4 {W : List zS} {f x : zS} {a n i : Nat} (hx : W[i]? = some x) (hn : 0 < n) (h : a + n ≤ i) : oK W f a n (i + 1) = oK W f a n i ++ [x] := by
  unfold oK
  rw [if_neg (by omega), if_neg (by omega), show i + 1 - (a + n) = (i - (a + n)) + 1 by omega, List.take_add_one, List.getElem?_drop, show a + n + (i - (a + n)) = i by omega, hx]
  simp
theorem oK_end {W : List zS} {f : zS} {a n : Nat} (h : a + n ≤ W.length) (hn : 0 < n) : oK W f a n W.length = W.take a ++ f :: W.drop (a + n) := by
  unfold oK
  rw [if_neg (by omega)]
  have : (W.drop (a + n)).take (W.length - (a + n)) = W.drop (a + n) := List.take_of_length_le (by rw [List.length_drop]; omega)
  rw [this]
theorem HG_snoc {X : gX} {v : Nat} {nm : Nat → Nat} {l : List zS} {y : zS} {q1 q2 : Option Nat} (h : HG X v nm l) (e1 : q1 = some (nm y.1)) (e2 : q2 = y.2.1.map nm) : HG ((X.g (v + 1) l.length q1).g (v + 2) l.length q2) v nm (l ++ [y]) := by
  intro i x hx
  rw [List.getElem?_append] at hx
  by_cases c : i < l.length
  · rw [if_pos c] at hx
    rw [g_oth (Or.inl (by omega)), g_oth (Or.inr (by omega)), g_oth (Or.inr (by omega)), g_oth (Or.inl (by omega))]
    exact h i x hx
  · rw [if_neg c] at hx
    have hi0 : i - l.length = 0 := by
      have := vs_lt hx
      simp only [List.length_cons, List.length_nil] at this
      omega
    rw [hi0] at hx
    have e : x = y := (Option.some.inj hx).symm
    have hil : i = l.length := by omega
    rw [e, hil, g_oth (Or.inl (by omega)), g_same rfl, g_same rfl]
    exact ⟨e1, e2⟩
theorem gOf_f {N q : Nat} (h : gFile N q = true) : gOf N (some q) = true := h
theorem C_replace {X : gX} {A : zA} {nm : Nat → Nat} {k k' q a n : Nat} {m : zM} (h : RC X A nm k') (hm : Mid0 A k) (hp : MP A m a n) (hmm : m ∈ aM A) (q1 : X.I q 1 = nI m.2.2.1) (q2 : X.I q 2 = nI m.2.2.2) (q3 : X.G q 3 = some (nm m.2.1)) (hq : gMer q = true) : ∃ Y, f_Vi_replaceMerged X 8 q = some (gR.v, Y) ∧ RC Y (sV1 A 54 (fkV A m a n)) nm k' ∧ frV 8 X Y := by
  obtain ⟨p1, p2, p3⟩ := hp
  obtain ⟨o, h1, h2, h3, ⟨⟨w1, w1'⟩, ⟨m1, m2, m3⟩, w3⟩, ⟨⟨a1, a2, a3, a4, a5⟩, b1, b2⟩, h6, h6'⟩ := hm
  have hq' := gMer_r hq
  have hCV := (RC_W h).1.1 o
  have hd := h1.1.1.2
  have hB := (VB_of w1 (show dc A - bf A ≤ 4096 by omega)).1
  have hlen := hB.1
  have hmb := MI_b (m1 m hmm) hd
  have tm := (cT_at (RC_T h) h2.1 (a4 m hmm)).1
  have tx : ∀ x, x ∈ (aV A 54).1 → gFile X.N (nm x.1) = true ∧ gOf X.N (x.2.1.map nm) = true := fun x hx => okN_of (RC_T h) h2.1 (a3 o) hx
  have key : ∃ r, gI (fun s : gX × Int32 × Int32 × Int32 => f_Vi_replaceMerged_7 s.1 8 q s.2.1 s.2.2.1 s.2.2.2) gK (X, 0, 0, 0) = some r ∧ ∃ Y, r = (gR.v, Y) ∧ frV 8 X Y ∧ CV Y 8 nm (fkV A m a n) := by
    refine gI_wf (body := fun s : gX × Int32 × Int32 × Int32 => f_Vi_replaceMerged_7 s.1 8 q s.2.1 s.2.2.1 s.2.2.2) (fun s => ∃ Z i, s = (Z, nI (oK (aV A 54).1 (m.2.1, none, 0) a n i).length, (if i ≤ a then 0 else 1), nI i) ∧ i ≤ (aV A 54).1.length ∧ HG Z 8 nm (oK (aV A 54).1 (m.2.1, none, 0) a n i) ∧ Z.I = X.I ∧ (∀ t, i ≤ t → Z.G 9 t = X.G 9 t ∧ Z.G 10 t = X.G 10 t) ∧ (∀ b, b ≠ 9 → b ≠ 10 → Z.G b = X.G b) ∧ gEq X Z) (fun r => ∃ Y, r = (gR.v, Y) ∧ frV 8 X Y ∧ CV Y 8 nm (fkV A m a n)) (fun s => (aV A 54).1.length - gn s.2.2.2) (by show (aV A 54).1.length - gn 0 ≤ 100000; omega) ⟨X, 0, ?_, by omega, ?_, rfl, fun _ _ => ⟨rfl, rfl⟩, fun _ _ _ => rfl, gEq.rf⟩ (fun s hI => ?_)
    · unfold oK
      rw [if_pos (Nat.zero_le _), if_pos (Nat.zero_le _)]
      rfl
    · unfold oK
      rw [if_pos (Nat.zero_le _)]
      intro i x hx
      simp at hx
    obtain ⟨Z, i, rfl, i1, i2, i3, i4, i5, i6⟩ := hI
    have ol := oK_len (f := (m.2.1, none, 0)) i1 p2
    show (∃ s', f_Vi_replaceMerged_7 Z 8 q (nI (oK (aV A 54).1 (m.2.1, none, 0) a n i).length) (if i ≤ a then 0 else 1) (nI i) = _ ∧ _) ∨ (∃ r, f_Vi_replaceMerged_7 Z 8 q (nI (oK (aV A 54).1 (m.2.1, none, 0) a n i).length) (if i ≤ a then 0 else 1) (nI i) = _ ∧ _)
    unfold f_Vi_replaceMerged_7 f_Vi_replaceMerged_74
    rw [i3, hCV.1]
    by_cases ci : (aV A 54).1.length ≤ i
    · right
      have hi : i = (aV A 54).1.length := by omega
      rw [if_pos (nI_le ci (by omega)), gB_b, gLf_s]
      refine ⟨_, rfl, _, rfl, ⟨fun b c1 c2 => ?_, fun b c1 c2 => i5 b c1 c2, i6.w⟩, ?_⟩
      · rw [gX.w_ne c1, i3]
      · rw [hi, oK_end p2 p1] at i2 ⊢
        refine ⟨by rw [w_same rfl]; rfl, ?_, fun t y hy => i2 t y hy, fun e he => ?_⟩
        · rw [w_oth (Or.inr (by decide)), i3]; exact hCV.2.1
        · rw [gX.w_ne (by decide), i3]; exact hCV.2.2.2 e he
    · left
      obtain ⟨x, hx⟩ := vs_at (l := (aV A 54).1) (s := i) (by omega)
      have hxm := vs_mem hx
      obtain ⟨g1, g2⟩ := hCV.2.2.1 i x hx
      obtain ⟨t1, -, -, -, -, t5, -⟩ := cT_at (RC_T h) h2.1 (a3 o x hxm).1
      have hN : Z.N = X.N := i6.2.2.1
      have hst : gSt (aH A) x.1 ≤ 5000 := by
        have r1 := (w1.1 x hxm).1.2.1 _ (w1.1 x hxm).1.2.2.1
        have r2 := (w1.1 x hxm).1.2.2.2.1
        omega
      have e9 : Z.G 9 (gn (nI i)) = some (nm x.1) := by rw [gn_nI (by omega), (i4 i (Nat.le_refl _)).1]; exact g1
      have e10 : Z.G 10 (gn (nI i)) = x.2.1.map nm := by rw [gn_nI (by omega), (i4 i (Nat.le_refl _)).2]; exact g2
      have hcov : f_Me_covers Z q (some (nm x.1)) = some (gR.i (b2i (decide (m.2.2.1 ≤ gSt (aH A) x.1 ∧ gSt (aH A) x.1 < m.2.2.2))), Z) := C_covers (by rw [hN]; exact t1) (by rw [i3]; exact t5) (by rw [i3]; exact q1) (by rw [i3]; exact q2) (by omega) (by omega) hst
      have hdec : decide (m.2.2.1 ≤ gSt (aH A) x.1 ∧ gSt (aH A) x.1 < m.2.2.2) = decide (a ≤ i ∧ i < a + n) := by
        have r1 := (m1 m hmm).2.2.1 x hxm
        have r2 := p3 i x hx
        exact decide_eq_decide.mpr (r1.trans r2)
      rw [hdec] at hcov
      have hmeas : (aV A 54).1.length - gn (nI (i + 1)) < (aV A 54).1.length - i := by
        rw [gn_nI (by omega)]
        omega
      have hmeas' : (aV A 54).1.length - gn (nI (i + 1)) < (aV A 54).1.length - gn (nI i) := by
        rw [gn_nI (k := i) (by omega)]
        exact hmeas
      have olt : (oK (aV A 54).1 (m.2.1, none, 0) a n i).length ≤ i := by
        rw [ol]
        by_cases c : i ≤ a
        · rw [if_pos c]; exact Nat.le_refl _
        · rw [if_neg c]; omega
      have j0 : gIn (nI i) 4096 = true := gIn_nI (by omega) (by omega)
      rw [if_neg (nI_ge (by omega) (by omega)), if_pos j0, e9, hcov, gCi_i]
      have nxt : ∀ (y : zS) (r1 r2 : Option Nat), r1 = some (nm y.1) → r2 = y.2.1.map nm → oK (aV A 54).1 (m.2.1, none, 0) a n (i + 1) = oK (aV A 54).1 (m.2.1, none, 0) a n i ++ [y] → (HG ((Z.g 9 (oK (aV A 54).1 (m.2.1, none, 0) a n i).length r1).g 10 (oK (aV A 54).1 (m.2.1, none, 0) a n i).length r2) 8 nm (oK (aV A 54).1 (m.2.1, none, 0) a n (i + 1)) ∧ (∀ t, i + 1 ≤ t → ((Z.g 9 (oK (aV A 54).1 (m.2.1, none, 0) a n i).length r1).g 10 (oK (aV A 54).1 (m.2.1, none, 0) a n i).length r2).G 9 t = X.G 9 t ∧ ((Z.g 9 (oK (aV A 54).1 (m.2.1, none, 0) a n i).length r1).g 10 (oK (aV A 54).1 (m.2.1, none, 0) a n i).length r2).G 10 t = X.G 10 t) ∧ (∀ b, b ≠ 9 → b ≠ 10 → ((Z.g 9 (oK (aV A 54).1 (m.2.1, none, 0) a n i).length r1).g 10 (oK (aV A 54).1 (m.2.1, none, 0) a n i).length r2).G b = X.G b)) := fun y r1 r2 s1 s2 s3 => by
        refine ⟨by rw [s3]; exact HG_snoc i2 s1 s2, fun t ht => ?_, fun b c1 c2 => ?_⟩
        · rw [g_oth (Or.inl (by decide)), g_oth (Or.inr (by omega)), g_oth (Or.inr (by omega)), g_oth (Or.inl (by decide))]
          exact i4 t (by omega)
        · rw [gX.g_ne c2, gX.g_ne c1]
          exact i5 b c1 c2
      by_cases c : a ≤ i ∧ i < a + n
      · rw [decide_eq_true c, if_neg (show ¬ b2i true = 0 by decide)]
        by_cases ca : i = a
        · subst ca
          have so := oK_2 (W := (aV A 54).1) (f := (m.2.1, none, 0)) (a := i) (n := n) p1
          have e3 : Z.G q 3 = some (nm m.2.1) := by rw [i5 q (by omega) (by omega)]; exact q3
          rw [if_pos (show (if i ≤ i then (0 : Int32) else 1) = 0 from if_pos (Nat.le_refl _)), e3, C_put (by omega) (show gOf Z.N (some (nm m.2.1)) = true by rw [hN]; exact gOf_f tm) rfl, gCv_v, nI_1, nI_1]
          obtain ⟨n1, n2, n3⟩ := nxt (m.2.1, none, 0) (some (nm m.2.1)) none rfl rfl so
          exact ⟨_, rfl, ⟨_, i + 1, by rw [so, List.length_append, if_neg (by omega)]; rfl, by omega, n1, i3, n2, n3, i6.g.g⟩, hmeas'⟩
        · have so := oK_3 (W := (aV A 54).1) (f := (m.2.1, none, 0)) (a := a) (n := n) (i := i) (by omega) (by omega)
          rw [if_neg (show ¬ (if i ≤ a then (0 : Int32) else 1) = 0 by rw [if_neg (by omega)]; decide), nI_1]
          refine ⟨_, rfl, ⟨Z, i + 1, by rw [so, if_neg (show ¬ i ≤ a by omega), if_neg (show ¬ i + 1 ≤ a by omega)], by omega, by rw [so]; exact i2, i3, fun t ht => i4 t (by omega), i5, i6⟩, hmeas'⟩
      · rw [decide_eq_false c, if_pos b2i_f, if_pos j0, if_pos j0, e9, e10, C_put (by omega) (show gOf Z.N (some (nm x.1)) = true by rw [hN]; exact gOf_f (tx x hxm).1) (by rw [hN]; exact (tx x hxm).2), gCv_v, nI_1, nI_1]
        have so : oK (aV A 54).1 (m.2.1, none, 0) a n (i + 1) = oK (aV A 54).1 (m.2.1, none, 0) a n i ++ [x] := by
          by_cases cl : i < a
          · exact oK_1 hx cl
          · exact oK_4 hx p1 (by omega)
        obtain ⟨n1, n2, n3⟩ := nxt x (some (nm x.1)) (x.2.1.map nm) rfl rfl so
        refine ⟨_, rfl, ⟨_, i + 1, ?_, by omega, n1, i3, n2, n3, i6.g.g⟩, hmeas'⟩
        have ef : (if i ≤ a then (0 : Int32) else 1) = (if i + 1 ≤ a then 0 else 1) := by
          by_cases cl : i < a
          · rw [if_pos (by omega), if_pos (by omega)]
          · rw [if_neg (by omega), if_neg (by omega)]
        rw [so, List.length_append, ef]
        rfl
  obtain ⟨r, r1, Y, rfl, r2, r3⟩ := key
  exact ⟨Y, r1, RC_V54 h r2 (fun _ => r3), r2⟩
