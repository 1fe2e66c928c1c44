/-! THE PURE SIDE: the reference's view once a merge is kept -/
theorem fk_at {W : List zS} {f : zS} {a n i : Nat} (hn : 0 < n) (h : a + n ≤ W.length) : (W.take a ++ f :: W.drop (a + n))[i]? = if i < a then W[i]? else if i = a then some f else W[i + (n - 1)]? := by
  rw [List.getElem?_append, List.length_take, show min a W.length = a by omega]
  by_cases c : i < a
  · rw [if_pos c, if_pos c, List.getElem?_take, if_pos c]
  · rw [if_neg c, if_neg c]
    by_cases c2 : i = a
    · rw [if_pos c2, c2, Nat.sub_self]
      rfl
    · rw [if_neg c2]
      obtain ⟨u, hu⟩ : ∃ u, i - a = u + 1 := ⟨i - a - 1, by omega⟩
      rw [hu, List.getElem?_cons_succ, List.getElem?_drop]
      congr 1
      omega
theorem z_replace {X : gX} {A : zA} {k j a n : Nat} {m : zM} (h : RM X A) (hm : Mid0 A k) (hj : (aM A)[j]? = some m) (hp : MP A m a n) : ∃ Y, f_Mo_replace X (nI a) (nI (a + n)) (nI j) = some (gR.v, Y) ∧ frI (sVe 54) X Y ∧ VR Y.I 54 (aD A) (aL A) (fkV A m a n) := by
  obtain ⟨p1, p2, p3⟩ := hp
  obtain ⟨o, h1, h2, h3, ⟨⟨w1, w1'⟩, ⟨m1, m2, m3⟩, w3⟩, -, -, -⟩ := hm
  have hjl := vs_lt hj
  have h4 := h1.2.2.1.2
  have hd := h1.1.1.2
  obtain ⟨hB, sF, bF⟩ := VB_of w1 (show dc A - bf A ≤ 4096 by omega)
  have hlen : (aV A 54).1.length ≤ 4096 := hB.1
  have hF4 : (fl (aD A) (aV A 54).1).length ≤ 4096 := hB.2.1
  have hV := RM_V h 54 rfl
  obtain ⟨n1, n2, n3, r, n4, n5, n6⟩ := h.2.2.2.2.2.2 j m hj
  obtain ⟨u1, ⟨u2, u3, u4⟩, u5, u6, u7, u8, u9⟩ := m1 m (vs_mem hj)
  have e57 : ∀ s, s ≤ (aV A 54).1.length → X.I 57 s = nI (off (aD A) (aV A 54).1 s) := fun s hs => hV.2.2.1 s hs
  have hoall : ∀ s, off (aD A) (aV A 54).1 s ≤ (fl (aD A) (aV A 54).1).length := fun s => off_all
  have h12 : off (aD A) (aV A 54).1 a ≤ off (aD A) (aV A 54).1 (a + n) := off_mono (by omega)
  have h2F := hoall (a + n)
  have hsub : ∀ t d : Nat, (aD A m.2.1)[t]? = some d → ∃ p : Nat, off (aD A) (aV A 54).1 a ≤ p ∧ p < off (aD A) (aV A 54).1 (a + n) ∧ (fl (aD A) (aV A 54).1)[p]? = some d := fun t d hd' => by
    obtain ⟨x, x1, x2, x3⟩ := u8 d (vs_mem hd')
    obtain ⟨i, hi⟩ := List.getElem?_of_mem x1
    obtain ⟨v, hv⟩ := List.getElem?_of_mem x3
    have hpos := (p3 i x hi).mp x2
    have q1 := off_mono (D := aD A) (l := (aV A 54).1) (s := a) (t := i) hpos.1
    have q2 := off_mono (D := aD A) (l := (aV A 54).1) (s := i + 1) (t := a + n) (by omega)
    have q3 := off_s (D := aD A) hi
    have q4 : v < (aD A x.1).length := vs_lt hv
    exact ⟨off (aD A) (aV A 54).1 i + v, by omega, by omega, fl_at hi hv⟩
  have hbo := VR_bool hV
  unfold f_Mo_replace
  rw [if_pos (gIn_nI (show a < 4098 by omega) (by omega)), if_pos (gIn_nI (show a + n < 4098 by omega) (by omega)), z_docs hV hB, gCi_i, gn_nI (k := a) (by omega), gn_nI (k := a + n) (by omega), e57 a (by omega), e57 (a + n) p2]
  obtain ⟨q, q1, Y, rfl, q2⟩ := z_rep38 (X := X) (F := fl (aD A) (aV A 54).1) (D := aD A m.2.1) (L := (aV A 54).2.1) (a1 := nI a) (a2 := nI (a + n)) (tt := nI (fl (aD A) (aV A 54).1).length) (j := j) (r := r) hV.2.2.2.1 hV.2.2.2.2.1 n3 n4 n5 n6 (by omega) h12 h2F hF4 sF u2.1 hsub (fun d hd' => by have := bF d hd'; omega) (fun q => ∃ Y, q = (gR.v, Y) ∧ frI (sVe 54) X Y ∧ VR Y.I 54 (aD A) (aL A) (fkV A m a n)) (fun Z hZ hle => by
    obtain ⟨z1, z2, z3, z4, z5, z6⟩ := hZ
    unfold f_Mo_replace_138
    have esh : nI (off (aD A) (aV A 54).1 (a + n)) - nI (off (aD A) (aV A 54).1 a) - nI (aD A m.2.1).length = nI (off (aD A) (aV A 54).1 (a + n) - off (aD A) (aV A 54).1 a - (aD A m.2.1).length) := by rw [pk_sub h12, pk_sub (by omega)]
    rw [esh]
    obtain ⟨Y, y1, y2, y3, y4, y5, y6, y7, y8, y9, y10⟩ := z_rep152 (X := Z) (a := a) (c := a + n) (j := j) (o1 := off (aD A) (aV A 54).1 a) (dl := (aD A m.2.1).length) (sh := off (aD A) (aV A 54).1 (a + n) - off (aD A) (aV A 54).1 a - (aD A m.2.1).length) (o2 := off (aD A) (aV A 54).1 (a + n)) (tot := (fl (aD A) (aV A 54).1).length) (m := (aV A 54).1.length) (w := m.2.1) (by rw [z3 54 (by decide) (by decide) (by decide)]; exact hV.1.1) hlen p2 (by omega) (by omega) (by rw [z3 82 (by decide) (by decide) (by decide)]; exact n2) (by omega) h2F hF4 (fun t ht => by
      rw [z5, z6]
      by_cases c : off (aD A) (aV A 54).1 a ≤ t ∧ t < off (aD A) (aV A 54).1 a + (aD A m.2.1).length
      · rw [if_pos c, if_pos c]
        exact ⟨b2i_01, Or.inr rfl⟩
      · rw [if_neg c, if_neg c]
        exact hbo t ht) (fun t t1 t2 => by
      rw [z3 57 (by decide) (by decide) (by decide), e57 t t2]
      have := off_mono (D := aD A) (l := (aV A 54).1) (s := a + n) (t := t) (by omega)
      have := hoall t
      exact ⟨_, rfl, by omega, by omega⟩)
    refine ⟨_, y1, Y, rfl, ⟨fun b hb => ?_, by rw [y2]; exact z1, z2.tr y3⟩, ?_⟩
    · have hb' : b < 54 ∨ 61 < b := by
        unfold sVe at hb
        simp only [Bool.and_eq_false_iff, decide_eq_false_iff_not] at hb
        omega
      rw [y4 b hb', z3 b (by omega) (by omega) (by omega)]
    have en : a + n - a - 1 = n - 1 := by omega
    rw [en] at y5 y7 y8 y9 y10
    generalize ho1 : off (aD A) (aV A 54).1 a = o1 at *
    generalize ho2 : off (aD A) (aV A 54).1 (a + n) = o2 at *
    have l1 : (fl (aD A) ((aV A 54).1.take a)).length = o1 := ho1
    have eW : (aV A 54).1 = (aV A 54).1.take a ++ (((aV A 54).1.drop a).take n ++ (aV A 54).1.drop (a + n)) := by
      rw [← List.append_assoc, ← List.take_add, List.take_append_drop]
    have eF : fl (aD A) (aV A 54).1 = fl (aD A) ((aV A 54).1.take a) ++ (fl (aD A) (((aV A 54).1.drop a).take n) ++ fl (aD A) ((aV A 54).1.drop (a + n))) := by
      conv => lhs; rw [eW]
      rw [fl_app, fl_app]
    have eLf : lf (aD A) (aL A) (aV A 54).1 = lf (aD A) (aL A) ((aV A 54).1.take a) ++ (lf (aD A) (aL A) (((aV A 54).1.drop a).take n) ++ lf (aD A) (aL A) ((aV A 54).1.drop (a + n))) := by
      conv => lhs; rw [eW]
      rw [lf_app, lf_app]
    have l2 : (fl (aD A) (((aV A 54).1.drop a).take n)).length = o2 - o1 := by
      have : off (aD A) (aV A 54).1 (a + n) = (fl (aD A) ((aV A 54).1.take (a + n))).length := rfl
      rw [List.take_add, fl_app, List.length_append, l1, ho2] at this
      omega
    have eF' : fl (aD A) (fkV A m a n).1 = fl (aD A) ((aV A 54).1.take a) ++ (aD A m.2.1 ++ fl (aD A) ((aV A 54).1.drop (a + n))) := by
      show fl (aD A) ((aV A 54).1.take a ++ (m.2.1, none, 0) :: (aV A 54).1.drop (a + n)) = _
      rw [show (m.2.1, none, 0) :: (aV A 54).1.drop (a + n) = [((m.2.1, none, 0) : zS)] ++ (aV A 54).1.drop (a + n) from rfl, fl_app, fl_app, fl_1]
    have eL' : lf (aD A) (aL A) (fkV A m a n).1 = lf (aD A) (aL A) ((aV A 54).1.take a) ++ ((aD A m.2.1).map (fun _ => true) ++ lf (aD A) (aL A) ((aV A 54).1.drop (a + n))) := by
      show lf (aD A) (aL A) ((aV A 54).1.take a ++ (m.2.1, none, 0) :: (aV A 54).1.drop (a + n)) = _
      rw [show (m.2.1, none, 0) :: (aV A 54).1.drop (a + n) = [((m.2.1, none, 0) : zS)] ++ (aV A 54).1.drop (a + n) from rfl, lf_app, lf_app, lf_1]
      rfl
    have flt : ∀ t, (fl (aD A) (fkV A m a n).1)[t]? = if t < o1 then (fl (aD A) (aV A 54).1)[t]? else if t < o1 + (aD A m.2.1).length then (aD A m.2.1)[t - o1]? else (fl (aD A) (aV A 54).1)[t + (o2 - o1 - (aD A m.2.1).length)]? := fun t => by
      rw [eF', ap3 (q := fl (aD A) (((aV A 54).1.drop a).take n)) (by omega), l1, l2, ← eF]
    have lft : ∀ t, (lf (aD A) (aL A) (fkV A m a n).1)[t]? = if t < o1 then (lf (aD A) (aL A) (aV A 54).1)[t]? else if t < o1 + (aD A m.2.1).length then ((aD A m.2.1).map (fun _ => true))[t - o1]? else (lf (aD A) (aL A) (aV A 54).1)[t + (o2 - o1 - (aD A m.2.1).length)]? := fun t => by
      rw [eL', ap3 (q := lf (aD A) (aL A) (((aV A 54).1.drop a).take n)) (by rw [lf_len, List.length_map]; omega), lf_len, lf_len, l1, l2, List.length_map, ← eLf]
    have vl : (fkV A m a n).1.length = (aV A 54).1.length - (n - 1) := by
      show ((aV A 54).1.take a ++ (m.2.1, none, 0) :: (aV A 54).1.drop (a + n)).length = _
      rw [List.length_append, List.length_cons, List.length_take, List.length_drop]
      omega
    have segs : ∀ (b : Nat) (g : zS → Int32), (∀ t, Y.I b t = if a + n ≤ t + (n - 1) ∧ t + (n - 1) < (aV A 54).1.length then Z.I b (t + (n - 1)) else if t = a then g (m.2.1, none, 0) else Z.I b t) → b ≠ 59 → b ≠ 60 → b ≠ 61 → hl (X.I b) ((aV A 54).1.map g) → hl (Y.I b) ((fkV A m a n).1.map g) := fun b g e b1 b2 b3 hx => by
      refine hl_mk (fun i y hy => ?_)
      have hy' : ((aV A 54).1.take a ++ (m.2.1, none, 0) :: (aV A 54).1.drop (a + n))[i]? = some y := hy
      rw [fk_at p1 p2] at hy'
      rw [e]
      by_cases c : i < a
      · rw [if_pos c] at hy'
        rw [if_neg (by omega), if_neg (by omega), z3 b b1 b2 b3]
        exact hl_m hx hy'
      · rw [if_neg c] at hy'
        by_cases c2 : i = a
        · rw [if_pos c2] at hy'
          rw [if_neg (by omega), if_pos c2, ← Option.some.inj hy']
        · rw [if_neg c2] at hy'
          have := vs_lt hy'
          rw [if_pos (by omega), z3 b b1 b2 b3]
          exact hl_m hx hy'
    refine ⟨⟨?_, ?_, ?_, ?_⟩, ⟨segs 55 (fun x => nI x.1) y7 (by decide) (by decide) (by decide) hV.2.1.1, segs 56 (fun x => li x.2.1) y8 (by decide) (by decide) (by decide) hV.2.1.2.1, segs 58 (fun x => nI x.2.2) y9 (by decide) (by decide) (by decide) hV.2.1.2.2⟩, fun s hs => ?_, ?_, ?_, ?_⟩
    · rw [y5, if_pos rfl, pk_sub (by omega), vl]
    · rw [y5, if_neg (by decide), z3 54 (by decide) (by decide) (by decide)]; exact hV.1.2.1
    · rw [y5, if_neg (by decide), z3 54 (by decide) (by decide) (by decide)]; exact hV.1.2.2.1
    · rw [y5, if_neg (by decide), z3 54 (by decide) (by decide) (by decide)]; exact hV.1.2.2.2
    · rw [vl] at hs
      have e57' : ∀ s, s ≤ (aV A 54).1.length → Z.I 57 s = nI (off (aD A) (aV A 54).1 s) := fun s hs => by rw [z3 57 (by decide) (by decide) (by decide)]; exact hV.2.2.1 s hs
      rw [y10]
      have ofs : off (aD A) (fkV A m a n).1 s = if s ≤ a then off (aD A) (aV A 54).1 s else o1 + (aD A m.2.1).length + (off (aD A) (aV A 54).1 (s + (n - 1)) - o2) := by
        show (fl (aD A) (((aV A 54).1.take a ++ (m.2.1, none, 0) :: (aV A 54).1.drop (a + n)).take s)).length = _
        by_cases c : s ≤ a
        · rw [if_pos c, List.take_append_of_le_length (by rw [List.length_take]; omega), List.take_take, show min s a = s by omega]
          rfl
        · rw [if_neg c]
          obtain ⟨u, hu⟩ : ∃ u, s = a + 1 + u := ⟨s - a - 1, by omega⟩
          have lt : ((aV A 54).1.take a).length = a := by rw [List.length_take]; omega
          have e1 : ((aV A 54).1.take a ++ (m.2.1, none, 0) :: (aV A 54).1.drop (a + n)).take s = (aV A 54).1.take a ++ ((m.2.1, none, 0) :: ((aV A 54).1.drop (a + n)).take u) := by
            rw [List.take_append, List.take_of_length_le (by omega), lt, show s - a = u + 1 by omega, List.take_succ_cons]
          have e2 : off (aD A) (aV A 54).1 (s + (n - 1)) = o2 + (fl (aD A) (((aV A 54).1.drop (a + n)).take u)).length := by
            show (fl (aD A) ((aV A 54).1.take (s + (n - 1)))).length = _
            rw [show s + (n - 1) = a + n + u by omega, List.take_add, fl_app, List.length_append, ← ho2]
            rfl
          rw [e1, e2, show (m.2.1, none, 0) :: ((aV A 54).1.drop (a + n)).take u = [((m.2.1, none, 0) : zS)] ++ ((aV A 54).1.drop (a + n)).take u from rfl, fl_app, fl_app, fl_1, List.length_append, List.length_append, l1]
          show o1 + ((aD A m.2.1).length + (fl (aD A) (((aV A 54).1.drop (a + n)).take u)).length) = o1 + (aD A m.2.1).length + (o2 + (fl (aD A) (((aV A 54).1.drop (a + n)).take u)).length - o2)
          omega
      rw [ofs]
      by_cases c : s ≤ a
      · rw [if_pos c, if_neg (by omega), if_neg (by omega)]
        exact e57' s (by omega)
      · rw [if_neg c]
        by_cases c2 : s = a + 1
        · have : off (aD A) (aV A 54).1 (s + (n - 1)) = o2 := by rw [c2, show a + 1 + (n - 1) = a + n by omega]; exact ho2
          rw [if_neg (by omega), if_pos c2, nI_add, this, Nat.sub_self, Nat.add_zero]
        · have q3 := off_mono (D := aD A) (l := (aV A 54).1) (s := a + n) (t := s + (n - 1)) (by omega)
          rw [ho2] at q3
          rw [if_pos (by omega), e57' _ (by omega), pk_sub (by omega)]
          congr 1
          omega
    · refine hl_mk (fun t d hd' => ?_)
      rw [flt] at hd'
      rw [y6 59 (Or.inl rfl)]
      by_cases c : t < o1
      · rw [if_pos c] at hd'
        rw [if_neg (by omega), z4, if_neg (by omega)]
        exact hl_m hV.2.2.2.1 hd'
      · rw [if_neg c] at hd'
        by_cases c2 : t < o1 + (aD A m.2.1).length
        · rw [if_pos c2] at hd'
          rw [if_neg (by omega), z4, if_pos (by omega), getD_at hd']
        · rw [if_neg c2] at hd'
          have := vs_lt hd'
          rw [if_pos (by omega), z4, if_neg (by omega)]
          exact hl_m hV.2.2.2.1 hd'
    · refine hl_mk (fun t d hd' => ?_)
      rw [flt] at hd'
      rw [y6 60 (Or.inr (Or.inl rfl))]
      by_cases c : t < o1
      · rw [if_pos c] at hd'
        rw [if_neg (by omega), z5, if_neg (by omega)]
        exact hl_m (g := fun d => b2i ((aV A 54).2.1 d)) hV.2.2.2.2.1 hd'
      · rw [if_neg c] at hd'
        by_cases c2 : t < o1 + (aD A m.2.1).length
        · rw [if_pos c2] at hd'
          rw [if_neg (by omega), z5, if_pos (by omega), getD_at hd']
          rfl
        · rw [if_neg c2] at hd'
          have := vs_lt hd'
          rw [if_pos (by omega), z5, if_neg (by omega)]
          exact hl_m (g := fun d => b2i ((aV A 54).2.1 d)) hV.2.2.2.2.1 hd'
    · refine hl_mk (fun t d hd' => ?_)
      rw [lft] at hd'
      rw [y6 61 (Or.inr (Or.inr rfl))]
      by_cases c : t < o1
      · rw [if_pos c] at hd'
        rw [if_neg (by omega), z6, if_neg (by omega)]
        exact hl_m hV.2.2.2.2.2 hd'
      · rw [if_neg c] at hd'
        by_cases c2 : t < o1 + (aD A m.2.1).length
        · rw [if_pos c2, List.getElem?_map] at hd'
          obtain ⟨e, he⟩ := vs_at (l := aD A m.2.1) (s := t - o1) (by omega)
          rw [he] at hd'
          rw [if_neg (by omega), z6, if_pos (by omega), ← Option.some.inj hd']
          rfl
        · rw [if_neg c2] at hd'
          have := vs_lt hd'
          rw [lf_len] at this
          rw [if_pos (by omega), z6, if_neg (by omega)]
          exact hl_m hV.2.2.2.2.2 hd')
  exact ⟨Y, q1, q2⟩
