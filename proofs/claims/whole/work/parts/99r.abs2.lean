/-! THE PURE SIDE: copy, drop, tidy, live of a Version, over lists -/
theorem z_copy {X : gX} {n m : Nat} {D : Nat → List Nat} {Ls : Nat → Nat → Bool} {V : zV} {u : Int32} (hap : n + 7 < m ∨ m + 7 < n) (h : VR X.I m D Ls V) (hb : VB D V) (hu : X.I n 10 = u) :
    ∃ Y, f_Ve_copy X n m = some (gR.v, Y) ∧ frI (sVe n) X Y ∧ VR Y.I n D Ls (V.1, V.2.1, V.2.2.1, V.2.2.2.1, u) := by
  have hb1 := hb.1
  have hb2 := hb.2.1
  have hbo := VR_bool h
  obtain ⟨Y, h1, h2, h3, h4, h5, h6⟩ := s_Ve_copy hap h.1.1 hb1 ((h.2.2.1 _ (Nat.le_refl _)).trans (by rw [off_end])) hb2 (fun i hi => (hbo i hi).1) (fun i hi => (hbo i hi).2)
  refine ⟨Y, h1, h2, ⟨⟨h3.1.trans h.1.1, h3.2.1.trans h.1.2.1, h3.2.2.1.trans h.1.2.2.1, h3.2.2.2.trans hu⟩, ⟨?_, ?_, ?_⟩, fun s hs => (h5 s hs).trans (h.2.2.1 s hs), ?_, ?_, ?_⟩⟩
  · exact hl_cong h.2.1.1 (fun i hi => (h4 i (by simpa using hi)).1)
  · exact hl_cong h.2.1.2.1 (fun i hi => (h4 i (by simpa using hi)).2.1)
  · exact hl_cong h.2.1.2.2 (fun i hi => (h4 i (by simpa using hi)).2.2)
  · exact hl_cong h.2.2.2.1 (fun i hi => (h6 i (by simpa using hi)).1)
  · exact hl_cong h.2.2.2.2.1 (fun i hi => (h6 i (by simpa using hi)).2.1)
  · exact hl_cong h.2.2.2.2.2 (fun i hi => (h6 i (by rw [List.length_map, lf_len] at hi; exact hi)).2.2)
theorem ers_at {α : Type} {l : List α} {s i : Nat} : (l.eraseIdx s)[i]? = if i < s then l[i]? else l[i + 1]? := List.getElem?_eraseIdx
theorem ers_sp {α : Type} {l : List α} {s : Nat} : l.eraseIdx s = l.take s ++ l.drop (s + 1) := List.eraseIdx_eq_take_drop_succ l s
/-- a stretch taken out of a list -/
theorem cut_at {α : Type} {a b c : List α} {i : Nat} : (a ++ c)[i]? = if i < a.length then (a ++ (b ++ c))[i]? else (a ++ (b ++ c))[i + b.length]? := by
  by_cases h : i < a.length
  · rw [if_pos h, List.getElem?_append_left h, List.getElem?_append_left h]
  · rw [if_neg h, List.getElem?_append_right (by omega), List.getElem?_append_right (by omega), List.getElem?_append_right (by omega)]
    congr 1
    omega
theorem hl_gsh {β : Type} {r : Nat → β} {a b c : List β} {k : Nat} (h : hl r (a ++ (b ++ c))) (hk : c.length ≤ k) : hl (gsh a.length b.length k r) (a ++ c) := by
  refine hl_of (fun i x e => ?_)
  have hi := vs_lt e
  rw [List.length_append] at hi
  rw [cut_at (b := b)] at e
  unfold gsh
  by_cases c1 : i < a.length
  · rw [if_neg (by omega)]
    rw [if_pos c1] at e
    exact hl_at h e
  · rw [if_pos (by omega)]
    rw [if_neg c1] at e
    exact hl_at h e
theorem hl_gshm {α β : Type} {r : Nat → β} {g : α → β} {a b c : List α} {k n p : Nat} (h : hl r ((a ++ (b ++ c)).map g)) (hk : c.length ≤ k) (ha : a.length = p) (hb : b.length = n) : hl (gsh p n k r) ((a ++ c).map g) := by
  rw [List.map_append, List.map_append] at h
  rw [List.map_append, ← ha, ← hb, ← List.length_map (as := a) (f := g), ← List.length_map (as := b) (f := g)]
  exact hl_gsh h (by rw [List.length_map]; exact hk)
theorem off_e1 {D : Nat → List Nat} {l : List zS} {s t : Nat} (h : t ≤ s) : off D (l.eraseIdx s) t = off D l t := by
  unfold off
  rw [ers_sp, List.take_append]
  by_cases c : s ≤ l.length
  · rw [List.length_take, show t - min s l.length = 0 by omega, List.take_zero, List.append_nil, List.take_take, show min t s = t by omega]
  · rw [List.drop_of_length_le (by omega), List.take_nil, List.append_nil, List.take_take, show min t s = t by omega]
theorem off_e2 {D : Nat → List Nat} {l : List zS} {s t : Nat} {x : zS} (e : l[s]? = some x) (h : s ≤ t) : off D (l.eraseIdx s) t = off D l (t + 1) - (D x.1).length := by
  have hs := vs_lt e
  have h1 : (l.eraseIdx s).take t = l.take s ++ (l.drop (s + 1)).take (t - s) := by
    rw [ers_sp, List.take_append, List.take_take, show min t s = s by omega, List.length_take, show min s l.length = s by omega]
  have h2 : l.take (t + 1) = l.take s ++ ([x] ++ (l.drop (s + 1)).take (t - s)) := by
    have h3 := congrArg (List.take (t + 1)) (sp3 e)
    rw [List.take_append, List.take_take, show min (t + 1) s = s by omega, List.length_take, show min s l.length = s by omega, show t + 1 - s = (t - s) + 1 by omega] at h3
    rw [h3]
    rfl
  unfold off
  rw [h1, h2, fl_app, fl_app, fl_app, fl_1]
  simp only [List.length_append]
  omega
theorem z_drop {X : gX} {n s : Nat} {D : Nat → List Nat} {Ls : Nat → Nat → Bool} {V : zV} {x : zS} (h : VR X.I n D Ls V) (hb : VB D V) (e : V.1[s]? = some x) :
    ∃ Y, f_Ve_drop X n (nI s) = some (gR.v, Y) ∧ frI (sVe n) X Y ∧ VR Y.I n D Ls (V.1.eraseIdx s, V.2) := by
  have hb1 := hb.1
  have hb2 := hb.2.1
  have hbo := VR_bool h
  have hs := vs_lt e
  have ho := off_s (D := D) e
  have ha := off_all (D := D) (l := V.1) (s := s + 1)
  obtain ⟨Y, h1, h2, g0, g1, g2, g3, g4, g5, g6, g7⟩ := s_Ve_drop h.1.1 hb1 hs (h.2.2.1 s (by omega)) (h.2.2.1 (s + 1) (by omega)) ((h.2.2.1 _ (Nat.le_refl _)).trans (by rw [off_end])) (by omega) ha hb2 (fun i hi => (hbo i hi).1) (fun i hi => (hbo i hi).2)
  have hz : off D V.1 (s + 1) - off D V.1 s = (D x.1).length := by omega
  have e1 := sp3 e
  have e2 : V.1.eraseIdx s = V.1.take s ++ V.1.drop (s + 1) := ers_sp
  have hlen : (V.1.eraseIdx s).length = V.1.length - 1 := List.length_eraseIdx_of_lt hs
  have et : (V.1.take s).length = s := by rw [List.length_take]; omega
  have ed : (V.1.drop (s + 1)).length = V.1.length - 1 - s := by rw [List.length_drop]; omega
  have efl := congrArg (fl D) e1
  rw [fl_app, fl_app, fl_1] at efl
  have elf := congrArg (lf D Ls) e1
  rw [lf_app, lf_app, lf_1] at elf
  have efl2 : fl D (V.1.eraseIdx s) = fl D (V.1.take s) ++ fl D (V.1.drop (s + 1)) := by rw [e2, fl_app]
  have elf2 : lf D Ls (V.1.eraseIdx s) = lf D Ls (V.1.take s) ++ lf D Ls (V.1.drop (s + 1)) := by rw [e2, lf_app]
  have hc : (fl D (V.1.drop (s + 1))).length = (fl D V.1).length - off D V.1 (s + 1) := by
    have h9 := congrArg List.length efl
    simp only [List.length_append] at h9
    have h8 : (fl D (V.1.take s)).length = off D V.1 s := rfl
    omega
  refine ⟨Y, h1, h2, ⟨⟨?_, ?_, ?_, ?_⟩, ⟨?_, ?_, ?_⟩, fun t ht => ?_, ?_, ?_, ?_⟩⟩
  · rw [g0, pk_us]
    show _ = nI (V.1.eraseIdx s).length
    rw [hlen]
  · rw [g0, pk_un (by decide)]
    exact h.1.2.1
  · rw [g0, pk_un (by decide)]
    exact h.1.2.2.1
  · rw [g0, pk_un (by decide)]
    exact h.1.2.2.2
  · rw [g1]
    show hl _ ((V.1.eraseIdx s).map _)
    rw [e2]
    exact hl_gshm (b := [x]) (by rw [← e1]; exact h.2.1.1) (by omega) et rfl
  · rw [g2]
    show hl _ ((V.1.eraseIdx s).map _)
    rw [e2]
    exact hl_gshm (b := [x]) (by rw [← e1]; exact h.2.1.2.1) (by omega) et rfl
  · rw [g4]
    show hl _ ((V.1.eraseIdx s).map _)
    rw [e2]
    exact hl_gshm (b := [x]) (by rw [← e1]; exact h.2.1.2.2) (by omega) et rfl
  · have ht' : t ≤ V.1.length - 1 := by
      have : t ≤ (V.1.eraseIdx s).length := ht
      omega
    rw [g3]
    show _ = nI (off D (V.1.eraseIdx s) t)
    unfold gfl
    by_cases c : t ≤ s
    · rw [if_neg (by omega), off_e1 c]
      exact h.2.2.1 t (by omega)
    · rw [if_pos (by omega), off_e2 e (by omega), h.2.2.1 (t + 1) (by omega), hz]
      have := off_mono (D := D) (l := V.1) (s := s + 1) (t := t + 1) (by omega)
      exact pk_sub (by omega)
  · rw [g5]
    show hl _ ((fl D (V.1.eraseIdx s)).map _)
    rw [efl2]
    exact hl_gshm (b := D x.1) (by rw [← efl]; exact h.2.2.2.1) (by omega) rfl (by omega)
  · rw [g6]
    show hl _ ((fl D (V.1.eraseIdx s)).map _)
    rw [efl2]
    exact hl_gshm (b := D x.1) (by rw [← efl]; exact h.2.2.2.2.1) (by omega) rfl (by omega)
  · rw [g7]
    show hl _ ((lf D Ls (V.1.eraseIdx s)).map _)
    rw [elf2]
    exact hl_gshm (b := (D x.1).map (lsd Ls x.2.1)) (by rw [← elf]; exact h.2.2.2.2.2) (by rw [lf_len]; omega) (lf_len _) (by rw [List.length_map]; omega)
/-- what tidy keeps -/
def kp (D : Nat → List Nat) (V : zV) (x : zS) : Bool := !decide (x.2.2 = 0) || !decide ((D x.1).countP V.2.1 = 0)
theorem fl_sub {D : Nat → List Nat} {l m : List zS} (h : l.Sublist m) : (fl D l).Sublist (fl D m) := by
  induction h with
  | slnil => exact List.Sublist.refl _
  | cons a h ih =>
    rename_i l1 l2
    rw [show a :: l2 = [a] ++ l2 from rfl, fl_app]
    exact List.Sublist.trans ih (List.sublist_append_right _ _)
  | cons_cons a h ih =>
    rename_i l1 l2
    rw [show a :: l2 = [a] ++ l2 from rfl, show a :: l1 = [a] ++ l1 from rfl, fl_app, fl_app]
    exact List.Sublist.append (List.Sublist.refl _) ih
theorem VB_sub {D : Nat → List Nat} {V : zV} {l : List zS} (h : VB D V) (hs : l.Sublist V.1) : VB D (l, V.2) := ⟨Nat.le_trans hs.length_le h.1, Nat.le_trans (fl_sub hs).length_le h.2.1, fun x hx => h.2.2 x (hs.subset hx)⟩
theorem z_tidy {X : gX} {n : Nat} {D : Nat → List Nat} {Ls : Nat → Nat → Bool} {V : zV} (h : VR X.I n D Ls V) (hb : VB D V) :
    ∃ Y, f_Ve_tidy X n = some (gR.v, Y) ∧ frI (sVe n) X Y ∧ VR Y.I n D Ls (V.1.filter (kp D V), V.2) := by
  have hb1 := hb.1
  unfold f_Ve_tidy
  have key := gI_inv (body := fun u : gX × Int32 => f_Ve_tidy_7 u.1 n u.2) (fun k u => ∃ Z, u = (Z, nI (V.1.length - k) - 1) ∧ frI (sVe n) X Z ∧ VR Z.I n D Ls (V.1.take (V.1.length - k) ++ (V.1.drop (V.1.length - k)).filter (kp D V), V.2)) (fun r => ∃ Y, r = (gR.v, Y) ∧ frI (sVe n) X Y ∧ VR Y.I n D Ls (V.1.filter (kp D V), V.2)) V.1.length (by omega) (s0 := (X, X.I n 7 - 1)) ⟨X, by rw [h.1.1]; rfl, frI.rf, by rw [Nat.sub_zero, List.take_length, List.drop_length]; simpa using h⟩ (fun k u hk hI => by
    obtain ⟨Z, rfl, g1, g2⟩ := hI
    obtain ⟨t, ht⟩ : ∃ t, V.1.length - k = t + 1 := ⟨V.1.length - k - 1, by omega⟩
    rw [ht] at g2 ⊢
    rw [show V.1.length - (k + 1) = t by omega]
    show ∃ u', f_Ve_tidy_7 Z n (nI (t + 1) - 1) = _ ∧ _
    rw [nI_pred]
    obtain ⟨x, ex⟩ := vs_at (l := V.1) (s := t) (by omega)
    have hd : V.1.drop t = x :: V.1.drop (t + 1) := by
      obtain ⟨q1, q2⟩ := List.getElem?_eq_some_iff.mp ex
      rw [List.drop_eq_getElem_cons q1, q2]
    have htl : (V.1.take (t + 1)).length = t + 1 := by rw [List.length_take]; omega
    have ex2 : (V.1.take (t + 1) ++ (V.1.drop (t + 1)).filter (kp D V))[t]? = some x := by
      rw [List.getElem?_append_left (by omega), List.getElem?_take]
      rw [if_pos (by omega)]
      exact ex
    have htk : V.1.take (t + 1) = V.1.take t ++ [x] := by
      rw [List.take_add_one, ex]
      rfl
    have hsub : (V.1.take (t + 1) ++ (V.1.drop (t + 1)).filter (kp D V)).Sublist V.1 := by
      have q := List.Sublist.append (List.Sublist.refl (V.1.take (t + 1))) (List.filter_sublist (p := kp D V) (l := V.1.drop (t + 1)))
      rw [List.take_append_drop] at q
      exact q
    have hb' := VB_sub hb hsub
    have hm : Z.I (n + 4) t = nI x.2.2 := hl_m (l := V.1.take (t + 1) ++ (V.1.drop (t + 1)).filter (kp D V)) g2.2.1.2.2 ex2
    have hx := hb.2.2 x (vs_mem ex)
    unfold f_Ve_tidy_7
    rw [if_neg (nI_pos (by omega)), if_pos (gIn_nI (by omega) (by omega)), gn_nI (by omega), hm]
    have hlive := z_liveIn g2 hb' ex2
    have hcl : (D x.1).countP V.2.1 ≤ 4096 := by
      have q1 := List.countP_le_length (p := V.2.1) (l := D x.1)
      have q2 := off_s (D := D) ex
      have q3 := off_all (D := D) (l := V.1) (s := t + 1)
      have q4 := hb.2.1
      omega
    have hnx : nI t + -1 = nI t - 1 := by rw [Int32.sub_eq_add_neg]
    by_cases c : x.2.2 = 0
    · rw [if_pos (by rw [c]; rfl), hlive]
      show ∃ u', (if nI ((D x.1).countP V.2.1) = 0 then _ else _) = _ ∧ _
      by_cases c2 : (D x.1).countP V.2.1 = 0
      · rw [if_pos (by rw [c2]; rfl)]
        obtain ⟨Y, d1, d2, d3⟩ := z_drop g2 hb' ex2
        rw [d1]
        refine ⟨_, rfl, Y, ?_, g1.tr d2, ?_⟩
        · rw [hnx]
        · have hk : kp D V x = false := by simp [kp, c, c2]
          rw [hd, List.filter_cons_of_neg (by rw [hk]; simp)]
          have q : (V.1.take (t + 1) ++ (V.1.drop (t + 1)).filter (kp D V)).eraseIdx t = V.1.take t ++ (V.1.drop (t + 1)).filter (kp D V) := by
            rw [htk, List.append_assoc, List.eraseIdx_append_of_length_le (by rw [List.length_take]; omega)]
            rw [List.length_take, show t - min t V.1.length = 0 by omega]
            rfl
          rw [← q]
          exact d3
      · rw [if_neg (nI_ne0 (by omega) (by omega))]
        refine ⟨_, rfl, Z, ?_, g1, ?_⟩
        · rw [hnx]
        · have hk : kp D V x = true := by simp [kp, c2]
          rw [hd, List.filter_cons_of_pos hk, show V.1.take t ++ x :: (V.1.drop (t + 1)).filter (kp D V) = V.1.take t ++ [x] ++ (V.1.drop (t + 1)).filter (kp D V) by simp, ← htk]
          exact g2
    · rw [if_neg (nI_ne0 (by omega) (by omega))]
      refine ⟨_, rfl, Z, ?_, g1, ?_⟩
      · rw [hnx]
      · have hk : kp D V x = true := by simp [kp, c]
        rw [hd, List.filter_cons_of_pos hk, show V.1.take t ++ x :: (V.1.drop (t + 1)).filter (kp D V) = V.1.take t ++ [x] ++ (V.1.drop (t + 1)).filter (kp D V) by simp, ← htk]
        exact g2) (fun u hI => by
    obtain ⟨Z, rfl, g1, g2⟩ := hI
    rw [show V.1.length - V.1.length = 0 by omega] at g2 ⊢
    show ∃ r, f_Ve_tidy_7 Z n (nI 0 - 1) = _ ∧ _
    unfold f_Ve_tidy_7
    rw [if_pos (by decide)]
    exact ⟨_, rfl, Z, rfl, g1, by simpa using g2⟩)
  obtain ⟨r, k1, Y, rfl, k3⟩ := key
  rw [k1]
  exact ⟨Y, rfl, k3⟩
theorem z_live {X : gX} {n : Nat} {D : Nat → List Nat} {Ls : Nat → Nat → Bool} {V : zV} (h : VR X.I n D Ls V) (hb : VB D V) : f_Ve_live X n = some (gR.i (nI ((fl D V.1).countP V.2.1)), X) := by
  have hb2 := hb.2.1
  have hd := z_docs h hb
  unfold f_Ve_live
  have hc : cnt (lvb (X.I (n + 6))) 0 (fl D V.1).length = (fl D V.1).countP V.2.1 := cnt_countP (fun i d ei => by
    have h5 := hl_m h.2.2.2.2.1 ei
    show decide _ = _
    rw [Nat.zero_add, h5]
    cases V.2.1 d <;> decide)
  rw [← hc]
  refine gI_at (fun k => (X, nI (cnt (lvb (X.I (n + 6))) 0 k), nI k)) (fl D V.1).length (gK_lt (by omega)) (fun k hk => ?_) ?_ rfl
  · show f_Ve_live_4 X n (nI (cnt (lvb (X.I (n + 6))) 0 k)) (nI k) = _
    unfold f_Ve_live_4
    rw [hd]
    show (if nI (fl D V.1).length ≤ nI k then _ else _) = _
    rw [if_neg (nI_ge (by omega) (by omega)), if_pos (gIn_nI (by omega) (by omega)), gn_nI (by omega)]
    by_cases c : X.I (n + 6) k = 0
    · rw [if_pos c]
      unfold f_Ve_live_24
      rw [cnt_f (by rw [Nat.zero_add]; exact lvb_f c), nI_1]
    · rw [if_neg c]
      unfold f_Ve_live_24
      rw [cnt_t (by rw [Nat.zero_add]; exact lvb_t c), nI_1, nI_1]
  · show f_Ve_live_4 X n (nI (cnt (lvb (X.I (n + 6))) 0 (fl D V.1).length)) (nI (fl D V.1).length) = _
    unfold f_Ve_live_4
    rw [hd]
    show (if nI (fl D V.1).length ≤ nI (fl D V.1).length then _ else _) = _
    rw [if_pos (nI_le (Nat.le_refl _) (by omega))]
    rfl
