/-! THE PURE SIDE: the class's directory: what isn't needed goes -/
def frQ (X Y : gX) : Prop := (∀ a, a ≠ 6 → a ≠ 7 → Y.I a = X.I a) ∧ (∀ a, a ≠ 130 → a ≠ 131 → Y.G a = X.G a) ∧ Y.N = X.N
theorem frQ.rf {X : gX} : frQ X X := ⟨fun _ _ _ => rfl, fun _ _ _ => rfl, rfl⟩
theorem frQ.tr {X Y Z : gX} (h : frQ X Y) (h' : frQ Y Z) : frQ X Z := ⟨fun a h1 h2 => (h'.1 a h1 h2).trans (h.1 a h1 h2), fun a h1 h2 => (h'.2.1 a h1 h2).trans (h.2.1 a h1 h2), h'.2.2.trans h.2.2⟩
theorem frQ.L {n : Nat} {X Y : gX} (hn : n = 6 ∨ n = 7) (h : frL n X Y) : frQ X Y := ⟨fun a h1 h2 => h.1 a (by omega), fun a h1 h2 => h.2.1 a (by omega), h.2.2.1⟩
theorem frQ.C {X Y : gX} (h : frQ X Y) : frC X Y := ⟨fun a ha => h.1 a (by omega) (by omega), h.2.1 121 (by omega) (by omega)⟩
theorem nI_mlt (k : Nat) (h : k < 2 ^ 31) : nI k - 1 < nI k := by
  cases k with
  | zero => decide
  | succ n => rw [nI_pred]; exact nI_lt (by omega) h
theorem C_drop {X : gX} {T : List zF} {nm : Nat → Nat} {H : zH} {p : Nat → Bool} {k : Nat} (hT : cT X T nm H) (hp : N3 X T nm p) (hR : RR X k) (hk : k ≤ 600) : ∃ Y, f_Di_dropUnneeded X = some (gR.v, Y) ∧ cT Y (T.filter (fun f => p f.1)) nm H ∧ RR Y k ∧ frQ X Y := by
  obtain ⟨Z, ⟨a1, a2, a3, a4⟩, ⟨b1, b2⟩, ⟨c1, c2⟩, ⟨d1, d2, d3⟩, e1⟩ := hT
  have hNb := hR.1.1
  have hLb := hR.1.2.1
  unfold f_Di_dropUnneeded
  have key := gI_inv (body := fun s : gX × Int32 × Int32 => f_Di_dropUnneeded_4 s.1 s.2.1 s.2.2) (fun i s => ∃ W, s = (W, nI ((T.take i).filter (fun f => p f.1)).length, nI i) ∧ frQ X W ∧ RR W k ∧ (W.I 6 1 = nI T.length ∧ W.I 7 1 = nI (Z ++ ((T.take i).filter (fun f => !p f.1)).map (fun f => nm f.1)).length ∧ W.L 130 = X.L 130 ∧ (Z ++ ((T.take i).filter (fun f => !p f.1)).map (fun f => nm f.1)).length ≤ W.L 131) ∧ (hl (W.G 130) (((T.take i).filter (fun f => p f.1)).map (fun f => some (nm f.1))) ∧ (∀ j, i ≤ j → W.G 130 j = X.G 130 j) ∧ hl (W.G 131) ((Z ++ ((T.take i).filter (fun f => !p f.1)).map (fun f => nm f.1)).map some)) ∧ (∀ j, gOf W.N (W.G 130 j) = true) ∧ ∀ j, gOf W.N (W.G 131 j) = true) (fun r => ∃ Y, r = (gR.v, Y) ∧ cT Y (T.filter (fun f => p f.1)) nm H ∧ RR Y k ∧ frQ X Y) T.length (by omega) (s0 := (X, 0, 0)) ⟨X, rfl, frQ.rf, hR, ⟨a1, by simpa using a2, rfl, by simpa using a4⟩, ⟨hl_nil, fun _ _ => rfl, by simpa using b2⟩, c1, c2⟩ (fun i s hi hI => by
    obtain ⟨W, rfl, g1, g2, ⟨g3, g4, g5, g6⟩, ⟨g7, g8, g9⟩, g10, g11⟩ := hI
    show ∃ s', f_Di_dropUnneeded_4 W (nI ((T.take i).filter (fun f => p f.1)).length) (nI i) = _ ∧ _
    obtain ⟨f, hf⟩ := vs_at hi
    have hle := flt_le (l := T) (p := fun f => p f.1) (i := i)
    have hle2 := flt_le (l := T) (p := fun f => !p f.1) (i := i)
    have hnf := d2 (nm f.1) (List.mem_append_left _ (List.mem_map.mpr ⟨f, vs_mem hf, rfl⟩))
    have hlo := gFile.lo hnf
    have hWf : gFile W.N (nm f.1) = true := by rw [g1.2.2]; exact hnf
    have hG : W.G 130 i = some (nm f.1) := (g8 i (Nat.le_refl _)).trans (hl_m (g := fun f => some (nm f.1)) b1 hf)
    have h3 : W.I (nm f.1) 3 = b2i (p f.1) := by rw [g1.1 _ (by omega) (by omega)]; exact hp f (vs_mem hf)
    have hZl : (Z ++ ((T.take i).filter (fun f => !p f.1)).map (fun f => nm f.1)).length < 60000 := by
      rw [List.length_append, List.length_map]
      omega
    unfold f_Di_dropUnneeded_4 f_Al_size
    rw [gCi_i, g3, if_neg (nI_ge (by omega) (by omega)), C_get g3 hi (by rw [show 6 + 124 = 130 from rfl, g5]; exact a3) (by rw [show 6 + 124 = 130 from rfl, g5]; exact hLb), gCa_a]
    show ∃ s', gM (W.G 130 i) _ = _ ∧ _
    rw [hG, gM_s, if_pos hWf, h3]
    cases c : p f.1 with
    | false =>
      have cn : (!p f.1) = true := by rw [c]; rfl
      rw [if_pos b2i_f]
      obtain ⟨Y, y1, y2, y3, y4, y5, y6, y7, y8⟩ := C_add (X := W) (n := 7) (q := nm f.1) (Or.inr rfl) g4 g6 hZl g2 hk g11 hWf
      rw [y1, gCi_i]
      have yq := frQ.L (Or.inr rfl) y2
      have eG : Y.G 130 = W.G 130 := y2.2.1 130 (by decide)
      have e7 := flt_t (p := fun f => !p f.1) hf cn
      have e7' : Z ++ ((T.take (i + 1)).filter (fun f => !p f.1)).map (fun f => nm f.1) = (Z ++ ((T.take i).filter (fun f => !p f.1)).map (fun f => nm f.1)) ++ [nm f.1] := by
        rw [e7, List.map_append, List.append_assoc]
        rfl
      refine ⟨_, rfl, Y, ?_, g1.tr yq, y8, ⟨?_, ?_, ?_, ?_⟩, ⟨?_, fun j hj => ?_, ?_⟩, fun j => ?_, y6⟩
      · rw [nI_1, flt_f (p := fun f => p f.1) hf c]
      · rw [y2.1 6 (by decide)]; exact g3
      · rw [y3, e7']; exact congrArg nI (by rw [List.length_append (as := Z ++ _)]; rfl)
      · rw [y2.2.2.2 130 (by decide)]; exact g5
      · rw [e7', List.length_append]; exact y7
      · rw [eG, flt_f (p := fun f => p f.1) hf c]; exact g7
      · rw [eG]; exact g8 j (by omega)
      · rw [e7', List.map_append]
        refine hl_snoc g9 (fun j hj => ?_) ?_
        · rw [List.length_map] at hj
          exact y4 j hj
        · rw [List.length_map]
          exact y5
      · rw [eG, yq.2.2]; exact g10 j
    | true =>
      have cn : (!p f.1) = false := by rw [c]; rfl
      rw [if_neg (by decide), C_set g3 (by omega) (by rw [show 6 + 124 = 130 from rfl, g5]; exact a3) (by rw [show 6 + 124 = 130 from rfl, g5]; exact hLb) (show gOf W.N (some (nm f.1)) = true from hWf), gCa_a]
      refine ⟨_, rfl, W.g 130 ((T.take i).filter (fun f => p f.1)).length (some (nm f.1)), ?_, g1.tr ⟨fun _ _ _ => rfl, fun a q1 q2 => gX.g_ne q1, rfl⟩, RR_fr g2 gEq.rf.g, ⟨g3, ?_, g5, ?_⟩, ⟨?_, fun j hj => ?_, ?_⟩, fun j => ?_, fun j => ?_⟩
      · rw [nI_1, nI_1, flt_t (p := fun f => p f.1) hf c, List.length_append]
        rfl
      · rw [flt_f (p := fun f => !p f.1) hf cn]; exact g4
      · rw [flt_f (p := fun f => !p f.1) hf cn]; exact g6
      · rw [flt_t (p := fun f => p f.1) hf c, List.map_append]
        refine hl_snoc g7 (fun j hj => ?_) ?_
        · rw [List.length_map] at hj
          exact g_oth (Or.inr (by omega))
        · rw [List.length_map]
          exact g_same rfl
      · rw [g_oth (Or.inr (by omega))]; exact g8 j (by omega)
      · rw [gX.g_ne (by decide), flt_f (p := fun f => !p f.1) hf cn]; exact g9
      · rw [gX.g_at, if_pos rfl]
        by_cases c2 : j = ((T.take i).filter (fun f => p f.1)).length
        · rw [if_pos c2]; exact hWf
        · rw [if_neg c2]; exact g10 j
      · rw [gX.g_ne (by decide)]; exact g11 j) (fun s hI => by
    obtain ⟨W, rfl, g1, g2, ⟨g3, g4, g5, g6⟩, ⟨g7, g8, g9⟩, g10, g11⟩ := hI
    rw [List.take_length] at g4 g6 g7 g9 ⊢
    show ∃ r, f_Di_dropUnneeded_4 W (nI (T.filter (fun f => p f.1)).length) (nI T.length) = _ ∧ _
    have hle : (T.filter (fun f => p f.1)).length ≤ T.length := List.length_filter_le _ _
    unfold f_Di_dropUnneeded_4 f_Al_size
    rw [gCi_i, g3, if_pos (nI_le (Nat.le_refl _) (by omega)), gCi_i]
    have key2 := gI_inv (body := fun s : gX × Int32 => f_Di_dropUnneeded_75 s.1 (nI (T.filter (fun f => p f.1)).length) s.2) (fun j s => ∃ U, s = (U, nI (T.length - j) - 1) ∧ frL 6 W U ∧ RR U k ∧ U.I 6 1 = nI (T.length - j) ∧ U.L 130 = W.L 130 ∧ (∀ i, i < (T.filter (fun f => p f.1)).length → U.G 130 i = W.G 130 i) ∧ ∀ i, gOf U.N (U.G 130 i) = true) (fun r => ∃ Y, r = (gR.v, Y) ∧ cT Y (T.filter (fun f => p f.1)) nm H ∧ RR Y k ∧ frQ X Y) (T.length - (T.filter (fun f => p f.1)).length) (by omega) (s0 := (W, nI T.length - 1)) ⟨W, rfl, frL.rf, g2, g3, rfl, fun _ _ => rfl, g10⟩ (fun j s hj hI => by
      obtain ⟨U, rfl, u1, u2, u3, u4, u5, u6⟩ := hI
      obtain ⟨t, ht⟩ : ∃ t, T.length - j = t + 1 := ⟨T.length - j - 1, by omega⟩
      rw [ht] at u3 ⊢
      show ∃ s', f_Di_dropUnneeded_75 U (nI (T.filter (fun f => p f.1)).length) (nI (t + 1) - 1) = _ ∧ _
      unfold f_Di_dropUnneeded_75
      rw [nI_pred, if_neg (nI_nlt (by omega) (by omega)), C_remove u3 (by rw [show 6 + 124 = 130 from rfl, u4, g5]; omega) (by rw [show 6 + 124 = 130 from rfl, u4, g5]; exact hLb), gCa_a]
      refine ⟨_, rfl, ((U.w 6 2 (U.I 6 2 + 1)).w 6 1 (nI t)).g (6 + 124) t none, ?_, u1.w.w.g, RR_fr u2 gEq.rf.w.w.g, ?_, u4, fun i hi => ?_, fun i => ?_⟩
      · rw [show T.length - (j + 1) = t by omega, show nI t + -1 = nI t - 1 by rw [Int32.sub_eq_add_neg]]
      · rw [g_I, w_same rfl, show T.length - (j + 1) = t by omega]
      · rw [show (130 : Nat) = 6 + 124 from rfl, g_oth (Or.inr (by omega))]; exact u5 i hi
      · rw [show (130 : Nat) = 6 + 124 from rfl, gX.g_at, if_pos rfl]
        by_cases c2 : i = t
        · rw [if_pos c2]; rfl
        · rw [if_neg c2]; exact u6 i) (fun s hI => by
      obtain ⟨U, rfl, u1, u2, u3, u4, u5, u6⟩ := hI
      rw [show T.length - (T.length - (T.filter (fun f => p f.1)).length) = (T.filter (fun f => p f.1)).length by omega] at u3 ⊢
      show ∃ r, f_Di_dropUnneeded_75 U (nI (T.filter (fun f => p f.1)).length) (nI (T.filter (fun f => p f.1)).length - 1) = _ ∧ _
      unfold f_Di_dropUnneeded_75
      rw [if_pos (nI_mlt _ (by omega))]
      have hq : frQ X U := g1.tr (frQ.L (Or.inl rfl) u1)
      have hperm : (T.filter (fun f => p f.1) ++ T.filter (fun f => !p f.1)).Perm T := List.filter_append_perm _ _
      have hperm2 : ((T.filter (fun f => p f.1)).map (fun f => nm f.1) ++ (Z ++ (T.filter (fun f => !p f.1)).map (fun f => nm f.1))).Perm (T.map (fun f => nm f.1) ++ Z) := by
        have q1 := (hperm.map (fun f => nm f.1)).append_right Z
        rw [List.map_append, List.append_assoc] at q1
        exact (List.Perm.append_left _ List.perm_append_comm).trans q1
      refine ⟨_, rfl, U, rfl, ⟨Z ++ (T.filter (fun f => !p f.1)).map (fun f => nm f.1), ⟨u3, ?_, ?_, ?_⟩, ⟨?_, ?_⟩, ⟨u6, fun i => ?_⟩, ⟨hperm2.nodup_iff.mpr d1, fun n hn => ?_, ?_⟩, fun f hf => ?_⟩, u2, hq⟩
      · rw [u1.1 7 (by decide)]; exact g4
      · rw [u4, g5]; omega
      · rw [u1.2.2.2 131 (by decide)]; exact g6
      · exact hl_cong g7 (fun i hi => u5 i (by rw [List.length_map] at hi; exact hi))
      · rw [u1.2.1 131 (by decide)]; exact g9
      · rw [u1.2.1 131 (by decide), u1.2.2.1]; exact g11 i
      · rw [hq.2.2]; exact d2 n (hperm2.mem_iff.mp hn)
      · rw [hq.2.2, ← d3, List.length_append, List.length_map]
        have q2 := hperm.length_eq
        rw [List.length_append] at q2
        omega
      · have hm := (List.mem_filter.mp hf).1
        have hn := gFile.lo (d2 (nm f.1) (List.mem_append_left _ (List.mem_map.mpr ⟨f, hm, rfl⟩)))
        unfold CF
        rw [hq.1 (nm f.1) (by omega) (by omega)]
        exact e1 f hm)
    obtain ⟨r, k1, k2⟩ := key2
    rw [k1, gLf_s]
    exact ⟨r, rfl, k2⟩)
  obtain ⟨r, k1, Y, rfl, k3⟩ := key
  rw [k1]
  exact ⟨Y, rfl, k3⟩
theorem cT_get {X : gX} {T : List zF} {nm : Nat → Nat} {H : zH} {i k : Nat} {f : zF} (hT : cT X T nm H) (hR : RR X k) (hf : T[i]? = some f) : f_Al_get X 6 (nI i) = some (gR.a (some (nm f.1)), X) ∧ gFile X.N (nm f.1) = true ∧ X.I 6 1 = nI T.length ∧ T.length ≤ 100000 := by
  obtain ⟨Z, ⟨a1, a2, a3, a4⟩, ⟨b1, b2⟩, ⟨c1, c2⟩, ⟨d1, d2, d3⟩, e1⟩ := hT
  have h2 := hR.1.2.1
  refine ⟨?_, d2 _ (List.mem_append_left _ (List.mem_map.mpr ⟨f, vs_mem hf, rfl⟩)), a1, by omega⟩
  rw [C_get a1 (vs_lt hf) a3 h2]
  rw [show X.G (6 + 124) i = some (nm f.1) from hl_m (g := fun f => some (nm f.1)) b1 hf]
theorem cT_len {X : gX} {T : List zF} {nm : Nat → Nat} {H : zH} {k : Nat} (hT : cT X T nm H) (hR : RR X k) : X.I 6 1 = nI T.length ∧ T.length ≤ 100000 := by
  obtain ⟨Z, ⟨a1, a2, a3, a4⟩, -, -, -, -⟩ := hT
  have h2 := hR.1.2.1
  exact ⟨a1, by omega⟩
theorem C_needNone {X : gX} {T : List zF} {nm : Nat → Nat} {H : zH} {k : Nat} (hT : cT X T nm H) (hb : TB T) (hR : RR X k) : ∃ Y, f_Di_needNone X = some (gR.v, Y) ∧ frN X Y ∧ N3 Y T nm (fun _ => false) := by
  have hb1 := hb.1
  unfold f_Di_needNone
  have key := gI_inv (body := fun u : gX × Int32 => f_Di_needNone_2 u.1 u.2) (fun i u => u.2 = nI i ∧ frN X u.1 ∧ ∀ j f, j < i → T[j]? = some f → u.1.I (nm f.1) 3 = 0) (fun r => ∃ Y, r = (gR.v, Y) ∧ frN X Y ∧ N3 Y T nm (fun _ => false)) T.length (by omega) (s0 := (X, 0)) ⟨rfl, frN.rf, fun j f hj => absurd hj (by omega)⟩ (fun i u hi hI => by
    obtain ⟨W, i'⟩ := u
    obtain ⟨rfl, g1, g2⟩ := hI
    show ∃ u', f_Di_needNone_2 W (nI i) = _ ∧ _
    obtain ⟨f, hf⟩ := vs_at hi
    obtain ⟨t1, t2, t3, t4⟩ := cT_get (cT_frN hT g1) (RR_fr hR g1.2.2.2) hf
    unfold f_Di_needNone_2 f_Al_size
    rw [gCi_i, t3, if_neg (nI_ge (by omega) (by omega)), t1, gCa_a, gM_s, if_pos t2, gB_b]
    refine ⟨_, rfl, nI_1 i, g1.w (gFile.lo t2), fun j f' hj hf' => ?_⟩
    by_cases c : nm f'.1 = nm f.1
    · rw [c]; exact w_same rfl
    · rw [w_oth (Or.inl c)]
      refine g2 j f' ?_ hf'
      by_cases c2 : j = i
      · subst c2
        rw [Option.some.inj (hf'.symm.trans hf)] at c
        exact absurd rfl c
      · omega) (fun u hI => by
    obtain ⟨W, i'⟩ := u
    obtain ⟨rfl, g1, g2⟩ := hI
    show ∃ r, f_Di_needNone_2 W (nI T.length) = _ ∧ _
    unfold f_Di_needNone_2 f_Al_size
    rw [gCi_i, (cT_len (cT_frN hT g1) (RR_fr hR g1.2.2.2)).1, if_pos (nI_le (Nat.le_refl _) (by omega))]
    refine ⟨_, rfl, W, rfl, g1, fun f hf => ?_⟩
    obtain ⟨j, hj⟩ := List.getElem?_of_mem hf
    exact g2 j f (vs_lt hj) hj)
  obtain ⟨r, k1, Y, rfl, k3⟩ := key
  rw [k1]
  exact ⟨Y, rfl, k3⟩
theorem C_needSynced {X : gX} {T : List zF} {nm : Nat → Nat} {H : zH} {k : Nat} (hT : cT X T nm H) (hb : TB T) (hR : RR X k) : ∃ Y, f_Di_needSynced X = some (gR.v, Y) ∧ frN X Y ∧ N3 Y T nm (fun n => syn T n) := by
  have hb1 := hb.1
  unfold f_Di_needSynced
  have key := gI_inv (body := fun u : gX × Int32 => f_Di_needSynced_2 u.1 u.2) (fun i u => u.2 = nI i ∧ frN X u.1 ∧ ∀ j f, j < i → T[j]? = some f → u.1.I (nm f.1) 3 = b2i f.2.1) (fun r => ∃ Y, r = (gR.v, Y) ∧ frN X Y ∧ N3 Y T nm (fun n => syn T n)) T.length (by omega) (s0 := (X, 0)) ⟨rfl, frN.rf, fun j f hj => absurd hj (by omega)⟩ (fun i u hi hI => by
    obtain ⟨W, i'⟩ := u
    obtain ⟨rfl, g1, g2⟩ := hI
    show ∃ u', f_Di_needSynced_2 W (nI i) = _ ∧ _
    obtain ⟨f, hf⟩ := vs_at hi
    obtain ⟨t1, t2, t3, t4⟩ := cT_get (cT_frN hT g1) (RR_fr hR g1.2.2.2) hf
    have hs := (cT_at (cT_frN hT g1) hb ⟨f, vs_mem hf, rfl⟩).2.2.1
    rw [syn_at hb hf] at hs
    unfold f_Di_needSynced_2 f_Al_size
    rw [gCi_i, t3, if_neg (nI_ge (by omega) (by omega)), t1, gCa_a, gM_s, if_pos t2, t1, gCa_a, gM_s, if_pos t2, if_pos t2, hs, if_pos b2i_01, gB_b]
    refine ⟨_, rfl, nI_1 i, g1.w (gFile.lo t2), fun j f' hj hf' => ?_⟩
    by_cases c : nm f'.1 = nm f.1
    · have c2 := cT_inj hT ⟨f', vs_mem hf', rfl⟩ ⟨f, vs_mem hf, rfl⟩ c
      have c3 := TB_in hb hf' hf c2
      subst c3
      rw [Option.some.inj (hf'.symm.trans hf)]
      exact w_same rfl
    · rw [w_oth (Or.inl c)]
      refine g2 j f' ?_ hf'
      by_cases c2 : j = i
      · subst c2
        rw [Option.some.inj (hf'.symm.trans hf)] at c
        exact absurd rfl c
      · omega) (fun u hI => by
    obtain ⟨W, i'⟩ := u
    obtain ⟨rfl, g1, g2⟩ := hI
    show ∃ r, f_Di_needSynced_2 W (nI T.length) = _ ∧ _
    unfold f_Di_needSynced_2 f_Al_size
    rw [gCi_i, (cT_len (cT_frN hT g1) (RR_fr hR g1.2.2.2)).1, if_pos (nI_le (Nat.le_refl _) (by omega))]
    refine ⟨_, rfl, W, rfl, g1, fun f hf => ?_⟩
    obtain ⟨j, hj⟩ := List.getElem?_of_mem hf
    show W.I (nm f.1) 3 = b2i (syn T f.1)
    rw [syn_at hb hj]
    exact g2 j f (vs_lt hj) hj)
  obtain ⟨r, k1, Y, rfl, k3⟩ := key
  rw [k1]
  exact ⟨Y, rfl, k3⟩
