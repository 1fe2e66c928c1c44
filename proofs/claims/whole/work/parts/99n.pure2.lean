/-! THE PURE SIDE: what a method leaves alone; copies of a Version, of a View -/
/-- only the rows of S have changed, and no reference -/
def frI (S : Nat → Bool) (X Y : gX) : Prop := (∀ a, S a = false → Y.I a = X.I a) ∧ Y.G = X.G ∧ gEq X Y
theorem frI.rf {S : Nat → Bool} {X : gX} : frI S X X := ⟨fun _ _ => rfl, rfl, gEq.rf⟩
theorem frI.w {S : Nat → Bool} {X Y : gX} {a j : Nat} {v : Int32} (h : frI S X Y) (ha : S a = true) : frI S X (Y.w a j v) := ⟨fun c hc => (gX.w_ne (fun e => by rw [e, ha] at hc; cases hc)).trans (h.1 c hc), h.2.1, h.2.2.w⟩
theorem frI.tr {S : Nat → Bool} {X Y Z : gX} (h : frI S X Y) (h' : frI S Y Z) : frI S X Z := ⟨fun c hc => (h'.1 c hc).trans (h.1 c hc), h'.2.1.trans h.2.1, h.2.2.tr h'.2.2⟩
theorem frI.mono {S T : Nat → Bool} {X Y : gX} (h : frI S X Y) (hs : ∀ a, S a = true → T a = true) : frI T X Y := ⟨fun c hc => h.1 c (by
  cases h9 : S c with
  | false => rfl
  | true => rw [hs c h9] at hc; cases hc), h.2.1, h.2.2⟩
theorem b_nar {x : Int32} (h : x = 0 ∨ x = 1) : vp_nar .boolean x = x := by rcases h with rfl | rfl <;> rfl
/-- the eight rows of a Version -/
def sVe (n a : Nat) : Bool := decide (n ≤ a) && decide (a ≤ n + 7)
theorem sVe_t {n k : Nat} (h : k ≤ 7) : sVe n (n + k) = true := by
  unfold sVe
  simp only [Bool.and_eq_true, decide_eq_true_eq]
  omega
theorem sVe_f {n a : Nat} (h : a < n ∨ n + 7 < a) : sVe n a = false := by
  unfold sVe
  rcases h with h | h
  · simp only [Bool.and_eq_false_iff, decide_eq_false_iff_not]
    exact Or.inl (by omega)
  · simp only [Bool.and_eq_false_iff, decide_eq_false_iff_not]
    exact Or.inr (by omega)
theorem gVer.ap {n m : Nat} (hn : gVer n = true) (hm : gVer m = true) (hne : n ≠ m) : n + 7 < m ∨ m + 7 < n := by
  unfold gVer at hn hm
  simp only [decide_eq_true_eq, List.mem_cons, List.mem_nil_iff, or_false] at hn hm
  omega
theorem w_same {X : gX} {a j i : Nat} {v : Int32} (h : i = j) : (X.w a j v).I a i = v := by rw [gX.w_at, if_pos rfl, if_pos h]
theorem w_oth {X : gX} {a j c i : Nat} {v : Int32} (h : c ≠ a ∨ i ≠ j) : (X.w a j v).I c i = X.I c i := by
  rw [gX.w_at]
  by_cases h1 : c = a
  · rw [if_pos h1, if_neg (by rcases h with h | h; exact absurd h1 h; exact h), h1]
  · rw [if_neg h1]
set_option maxHeartbeats 1000000 in
theorem s_Ve_copy {X : gX} {n m sg dz : Nat} (hap : n + 7 < m ∨ m + 7 < n) (hsg : X.I m 7 = nI sg) (h1 : sg ≤ 4096) (hd : X.I (m + 3) sg = nI dz) (hdz : dz ≤ 4096) (hb6 : ∀ i, i < dz → X.I (m + 6) i = 0 ∨ X.I (m + 6) i = 1) (hb7 : ∀ i, i < dz → X.I (m + 7) i = 0 ∨ X.I (m + 7) i = 1) :
    ∃ Y, f_Ve_copy X n m = some (gR.v, Y) ∧ frI (sVe n) X Y ∧ (Y.I n 7 = X.I m 7 ∧ Y.I n 8 = X.I m 8 ∧ Y.I n 9 = X.I m 9 ∧ Y.I n 10 = X.I n 10) ∧ (∀ s, s < sg → Y.I (n + 1) s = X.I (m + 1) s ∧ Y.I (n + 2) s = X.I (m + 2) s ∧ Y.I (n + 4) s = X.I (m + 4) s) ∧ (∀ s, s ≤ sg → Y.I (n + 3) s = X.I (m + 3) s) ∧ (∀ i, i < dz → Y.I (n + 5) i = X.I (m + 5) i ∧ Y.I (n + 6) i = X.I (m + 6) i ∧ Y.I (n + 7) i = X.I (m + 7) i) := by
  have hmf : ∀ k, k ≤ 7 → sVe n (m + k) = false := fun k hk => sVe_f (by omega)
  unfold f_Ve_copy
  show ∃ Y, gI (fun s : gX × Int32 => f_Ve_copy_26 s.1 n m s.2) gK (((X.w n 7 (X.I m 7)).w n 8 ((X.w n 7 (X.I m 7)).I m 8)).w n 9 (((X.w n 7 (X.I m 7)).w n 8 ((X.w n 7 (X.I m 7)).I m 8)).I m 9), (0 : Int32)) = some (gR.v, Y) ∧ _
  have hm0 : ∀ {Z : gX}, frI (sVe n) X Z → ∀ k, k ≤ 7 → Z.I (m + k) = X.I (m + k) := fun h k hk => h.1 _ (hmf k hk)
  have hm00 : ∀ {Z : gX}, frI (sVe n) X Z → Z.I m = X.I m := fun h => h.1 _ (hmf 0 (by omega))
  have ht : ∀ k, k ≤ 7 → sVe n (n + k) = true := fun k hk => sVe_t hk
  have ht0 : sVe n n = true := sVe_t (k := 0) (by omega)
  have f1 : frI (sVe n) X (X.w n 7 (X.I m 7)) := frI.rf.w ht0
  have f2 := f1.w (j := 8) (v := (X.w n 7 (X.I m 7)).I m 8) ht0
  have f3 := f2.w (j := 9) (v := ((X.w n 7 (X.I m 7)).w n 8 ((X.w n 7 (X.I m 7)).I m 8)).I m 9) ht0
  have e7 : (((X.w n 7 (X.I m 7)).w n 8 ((X.w n 7 (X.I m 7)).I m 8)).w n 9 (((X.w n 7 (X.I m 7)).w n 8 ((X.w n 7 (X.I m 7)).I m 8)).I m 9)).I n 7 = X.I m 7 := by
    rw [w_oth (Or.inr (by decide)), w_oth (Or.inr (by decide)), w_same rfl]
  have e8 : (((X.w n 7 (X.I m 7)).w n 8 ((X.w n 7 (X.I m 7)).I m 8)).w n 9 (((X.w n 7 (X.I m 7)).w n 8 ((X.w n 7 (X.I m 7)).I m 8)).I m 9)).I n 8 = X.I m 8 := by
    rw [w_oth (Or.inr (by decide)), w_same rfl, hm00 f1]
  have e9 : (((X.w n 7 (X.I m 7)).w n 8 ((X.w n 7 (X.I m 7)).I m 8)).w n 9 (((X.w n 7 (X.I m 7)).w n 8 ((X.w n 7 (X.I m 7)).I m 8)).I m 9)).I n 9 = X.I m 9 := by
    rw [w_same rfl, hm00 f2]
  have e10 : (((X.w n 7 (X.I m 7)).w n 8 ((X.w n 7 (X.I m 7)).I m 8)).w n 9 (((X.w n 7 (X.I m 7)).w n 8 ((X.w n 7 (X.I m 7)).I m 8)).I m 9)).I n 10 = X.I n 10 := by
    rw [w_oth (Or.inr (by decide)), w_oth (Or.inr (by decide)), w_oth (Or.inr (by decide))]
  generalize ((X.w n 7 (X.I m 7)).w n 8 ((X.w n 7 (X.I m 7)).I m 8)).w n 9 (((X.w n 7 (X.I m 7)).w n 8 ((X.w n 7 (X.I m 7)).I m 8)).I m 9) = X3 at f3 e7 e8 e9 e10 ⊢
  clear f1 f2
  have key := gI_inv (body := fun s : gX × Int32 => f_Ve_copy_26 s.1 n m s.2) (fun k s => ∃ Z, s = (Z, nI k) ∧ frI (sVe n) X Z ∧ Z.I n = X3.I n ∧ ∀ j, j < k → Z.I (n + 1) j = X.I (m + 1) j ∧ Z.I (n + 2) j = X.I (m + 2) j ∧ Z.I (n + 4) j = X.I (m + 4) j) (fun r => ∃ Y, r = (gR.v, Y) ∧ frI (sVe n) X Y ∧ Y.I n = X3.I n ∧ (∀ s, s < sg → Y.I (n + 1) s = X.I (m + 1) s ∧ Y.I (n + 2) s = X.I (m + 2) s ∧ Y.I (n + 4) s = X.I (m + 4) s) ∧ (∀ s, s ≤ sg → Y.I (n + 3) s = X.I (m + 3) s) ∧ (∀ i, i < dz → Y.I (n + 5) i = X.I (m + 5) i ∧ Y.I (n + 6) i = X.I (m + 6) i ∧ Y.I (n + 7) i = X.I (m + 7) i)) sg (by omega) (s0 := (X3, (0 : Int32))) ⟨X3, rfl, f3, rfl, fun j hj => absurd hj (by omega)⟩ (fun k s hk hI => by
    obtain ⟨Z, rfl, g1, g2, g3⟩ := hI
    show ∃ s', f_Ve_copy_26 Z n m (nI k) = _ ∧ _
    unfold f_Ve_copy_26
    have hin : gIn (nI k) 4097 = true := gIn_nI (by omega) (by omega)
    rw [g2, e7, hsg, if_neg (nI_ge hk (by omega)), gn_nI (by omega)]
    simp only [hin, if_true, gB]
    refine ⟨_, rfl, _, by rw [nI_1], ((g1.w (ht 1 (by omega))).w (ht 2 (by omega))).w (ht 4 (by omega)), ?_, fun j hj => ?_⟩
    · rw [gX.w_ne (by omega), gX.w_ne (by omega), gX.w_ne (by omega), g2]
    · have a1 := hm0 g1 1 (by omega)
      have a2 := hm0 (g1.w (j := k) (v := Z.I (m + 1) k) (ht 1 (by omega))) 2 (by omega)
      have a4 := hm0 ((g1.w (j := k) (v := Z.I (m + 1) k) (ht 1 (by omega))).w (j := k) (v := (Z.w (n + 1) k (Z.I (m + 1) k)).I (m + 2) k) (ht 2 (by omega))) 4 (by omega)
      by_cases c : j = k
      · subst c
        refine ⟨?_, ?_, ?_⟩
        · rw [w_oth (Or.inl (by omega)), w_oth (Or.inl (by omega)), w_same rfl, a1]
        · rw [w_oth (Or.inl (by omega)), w_same rfl, a2]
        · rw [w_same rfl, a4]
      · have g9 := g3 j (by omega)
        refine ⟨?_, ?_, ?_⟩
        · rw [w_oth (Or.inl (by omega)), w_oth (Or.inl (by omega)), w_oth (Or.inr c)]; exact g9.1
        · rw [w_oth (Or.inl (by omega)), w_oth (Or.inr c), w_oth (Or.inl (by omega))]; exact g9.2.1
        · rw [w_oth (Or.inr c), w_oth (Or.inl (by omega)), w_oth (Or.inl (by omega))]; exact g9.2.2) (fun s hI => by
    obtain ⟨Z, rfl, g1, g2, g3⟩ := hI
    show ∃ r, f_Ve_copy_26 Z n m (nI sg) = _ ∧ _
    unfold f_Ve_copy_26
    rw [g2, e7, hsg, if_pos (nI_le (Nat.le_refl _) (by omega))]
    have key2 := gI_inv (body := fun s : gX × Int32 => f_Ve_copy_78 s.1 n m s.2) (fun k s => ∃ W, s = (W, nI k) ∧ frI (sVe n) X W ∧ W.I n = X3.I n ∧ W.I (n + 1) = Z.I (n + 1) ∧ W.I (n + 2) = Z.I (n + 2) ∧ W.I (n + 4) = Z.I (n + 4) ∧ ∀ j, j < k → W.I (n + 3) j = X.I (m + 3) j) (fun r => ∃ Y, r = (gR.v, Y) ∧ frI (sVe n) X Y ∧ Y.I n = X3.I n ∧ (∀ s, s < sg → Y.I (n + 1) s = X.I (m + 1) s ∧ Y.I (n + 2) s = X.I (m + 2) s ∧ Y.I (n + 4) s = X.I (m + 4) s) ∧ (∀ s, s ≤ sg → Y.I (n + 3) s = X.I (m + 3) s) ∧ (∀ i, i < dz → Y.I (n + 5) i = X.I (m + 5) i ∧ Y.I (n + 6) i = X.I (m + 6) i ∧ Y.I (n + 7) i = X.I (m + 7) i)) (sg + 1) (by omega) (s0 := (Z, (0 : Int32))) ⟨Z, rfl, g1, g2, rfl, rfl, rfl, fun j hj => absurd hj (by omega)⟩ (fun k s hk hI => by
      obtain ⟨W, rfl, w1, w2, w3, w4, w5, w6⟩ := hI
      show ∃ s', f_Ve_copy_78 W n m (nI k) = _ ∧ _
      unfold f_Ve_copy_78
      have hin : gIn (nI k) 4098 = true := gIn_nI (by omega) (by omega)
      rw [w2, e7, hsg, if_neg (nI_nlt (by omega) (by omega)), gn_nI (by omega)]
      simp only [hin, if_true, gB]
      refine ⟨_, rfl, _, by rw [nI_1], w1.w (ht 3 (by omega)), ?_, ?_, ?_, ?_, fun j hj => ?_⟩
      · rw [gX.w_ne (by omega), w2]
      · rw [gX.w_ne (by omega), w3]
      · rw [gX.w_ne (by omega), w4]
      · rw [gX.w_ne (by omega), w5]
      · by_cases c : j = k
        · subst c
          rw [w_same rfl, hm0 w1 3 (by omega)]
        · rw [w_oth (Or.inr c)]
          exact w6 j (by omega)) (fun s hI => by
      obtain ⟨W, rfl, w1, w2, w3, w4, w5, w6⟩ := hI
      show ∃ r, f_Ve_copy_78 W n m (nI (sg + 1)) = _ ∧ _
      unfold f_Ve_copy_78
      rw [w2, e7, hsg, if_pos (nI_lt (by omega) (by omega))]
      have key3 := gI_inv (body := fun s : gX × Int32 => f_Ve_copy_106 s.1 n m s.2) (fun k s => ∃ V, s = (V, nI k) ∧ frI (sVe n) X V ∧ V.I n = X3.I n ∧ V.I (n + 1) = Z.I (n + 1) ∧ V.I (n + 2) = Z.I (n + 2) ∧ V.I (n + 4) = Z.I (n + 4) ∧ V.I (n + 3) = W.I (n + 3) ∧ ∀ j, j < k → V.I (n + 5) j = X.I (m + 5) j ∧ V.I (n + 6) j = X.I (m + 6) j ∧ V.I (n + 7) j = X.I (m + 7) j) (fun r => ∃ Y, r = (gR.v, Y) ∧ frI (sVe n) X Y ∧ Y.I n = X3.I n ∧ (∀ s, s < sg → Y.I (n + 1) s = X.I (m + 1) s ∧ Y.I (n + 2) s = X.I (m + 2) s ∧ Y.I (n + 4) s = X.I (m + 4) s) ∧ (∀ s, s ≤ sg → Y.I (n + 3) s = X.I (m + 3) s) ∧ (∀ i, i < dz → Y.I (n + 5) i = X.I (m + 5) i ∧ Y.I (n + 6) i = X.I (m + 6) i ∧ Y.I (n + 7) i = X.I (m + 7) i)) dz (by omega) (s0 := (W, (0 : Int32))) ⟨W, rfl, w1, w2, w3, w4, w5, rfl, fun j hj => absurd hj (by omega)⟩ (fun k s hk hI => by
        obtain ⟨V, rfl, v1, v2, v3, v4, v5, v6, v7⟩ := hI
        show ∃ s', f_Ve_copy_106 V n m (nI k) = _ ∧ _
        unfold f_Ve_copy_106
        have hin : gIn (nI k) 4096 = true := gIn_nI (by omega) (by omega)
        rw [s_Ve_docs (g := sg) (by rw [v2, e7, hsg]) (by omega), v6, w6 sg (by omega), hd]
        show ∃ s', (if nI dz ≤ nI k then _ else _) = _ ∧ _
        rw [if_neg (nI_ge hk (by omega)), gn_nI (by omega)]
        simp only [hin, if_true, gB]
        have a5 := hm0 v1 5 (by omega)
        have p1 := v1.w (j := k) (v := V.I (m + 5) k) (ht 5 (by omega))
        have a6 := hm0 p1 6 (by omega)
        have p2 := p1.w (j := k) (v := vp_nar .boolean ((V.w (n + 5) k (V.I (m + 5) k)).I (m + 6) k)) (ht 6 (by omega))
        have a7 := hm0 p2 7 (by omega)
        refine ⟨_, rfl, _, by rw [nI_1], p2.w (ht 7 (by omega)), ?_, ?_, ?_, ?_, ?_, fun j hj => ?_⟩
        · rw [gX.w_ne (by omega), gX.w_ne (by omega), gX.w_ne (by omega), v2]
        · rw [gX.w_ne (by omega), gX.w_ne (by omega), gX.w_ne (by omega), v3]
        · rw [gX.w_ne (by omega), gX.w_ne (by omega), gX.w_ne (by omega), v4]
        · rw [gX.w_ne (by omega), gX.w_ne (by omega), gX.w_ne (by omega), v5]
        · rw [gX.w_ne (by omega), gX.w_ne (by omega), gX.w_ne (by omega), v6]
        · by_cases c : j = k
          · subst c
            refine ⟨?_, ?_, ?_⟩
            · rw [w_oth (Or.inl (by omega)), w_oth (Or.inl (by omega)), w_same rfl, a5]
            · rw [w_oth (Or.inl (by omega)), w_same rfl, a6, b_nar (hb6 j hk)]
            · rw [w_same rfl, a7, b_nar (hb7 j hk)]
          · have g9 := v7 j (by omega)
            refine ⟨?_, ?_, ?_⟩
            · rw [w_oth (Or.inl (by omega)), w_oth (Or.inl (by omega)), w_oth (Or.inr c)]; exact g9.1
            · rw [w_oth (Or.inl (by omega)), w_oth (Or.inr c), w_oth (Or.inl (by omega))]; exact g9.2.1
            · rw [w_oth (Or.inr c), w_oth (Or.inl (by omega)), w_oth (Or.inl (by omega))]; exact g9.2.2) (fun s hI => by
        obtain ⟨V, rfl, v1, v2, v3, v4, v5, v6, v7⟩ := hI
        show ∃ r, f_Ve_copy_106 V n m (nI dz) = _ ∧ _
        unfold f_Ve_copy_106
        rw [s_Ve_docs (g := sg) (by rw [v2, e7, hsg]) (by omega), v6, w6 sg (by omega), hd]
        show ∃ r, (if nI dz ≤ nI dz then _ else _) = _ ∧ _
        rw [if_pos (nI_le (Nat.le_refl _) (by omega))]
        exact ⟨_, rfl, V, rfl, v1, v2, fun j hj => by rw [v3, v4, v5]; exact g3 j hj, fun j hj => by rw [v6]; exact w6 j (by omega), v7⟩)
      obtain ⟨r, k1, k2⟩ := key3
      rw [k1]
      exact ⟨r, rfl, k2⟩)
    obtain ⟨r, k1, k2⟩ := key2
    rw [k1]
    exact ⟨r, rfl, k2⟩)
  obtain ⟨r, k1, Y, rfl, k3, k4, k5, k6, k7⟩ := key
  rw [k1]
  exact ⟨Y, rfl, k3, ⟨by rw [k4]; exact e7, by rw [k4]; exact e8, by rw [k4]; exact e9, by rw [k4]; exact e10⟩, k5, k6, k7⟩
