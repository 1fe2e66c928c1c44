/-! THE PURE SIDE: a segment of a Version is dropped -/
/-- k places from a on hold what stood n further on -/
def gsh {α : Type} (a n k : Nat) (g : Nat → α) : Nat → α := fun i => if a ≤ i ∧ i < a + k then g (i + n) else g i
theorem gsh_0 {α : Type} {a n : Nat} {g : Nat → α} : gsh a n 0 g = g := by
  funext i
  exact if_neg (by omega)
theorem gsh_at {α : Type} {a n k i : Nat} {g : Nat → α} (h : a + k ≤ i) : gsh a n k g i = g i := if_neg (by omega)
theorem gsh_u {a n k j : Nat} {g : Nat → Int32} {x : Int32} (hj : j = a + k) (hx : x = g (a + k + n)) : upd (gsh a n k g) j x = gsh a n (k + 1) g := by
  funext i
  by_cases e : i = a + k
  · rw [hj, e, pk_us, hx]
    exact (if_pos (by omega)).symm
  · rw [hj, pk_un e]
    unfold gsh
    by_cases h : a ≤ i ∧ i < a + k
    · rw [if_pos h, if_pos (by omega)]
    · rw [if_neg h, if_neg (by omega)]
/-- k places from c on hold what stood one further on, less x -/
def gfl (c k : Nat) (x : Int32) (g : Nat → Int32) : Nat → Int32 := fun i => if c ≤ i ∧ i < c + k then g (i + 1) - x else g i
theorem gfl_0 {c : Nat} {x : Int32} {g : Nat → Int32} : gfl c 0 x g = g := by
  funext i
  exact if_neg (by omega)
theorem gfl_at {c k i : Nat} {x : Int32} {g : Nat → Int32} (h : c + k ≤ i) : gfl c k x g i = g i := if_neg (by omega)
theorem gfl_u {c k j : Nat} {x y : Int32} {g : Nat → Int32} (hj : j = c + k) (hy : y = g (c + k + 1) - x) : upd (gfl c k x g) j y = gfl c (k + 1) x g := by
  funext i
  by_cases e : i = c + k
  · rw [hj, e, pk_us, hy]
    exact (if_pos (by omega)).symm
  · rw [hj, pk_un e]
    unfold gfl
    by_cases h : c ≤ i ∧ i < c + k
    · rw [if_pos h, if_pos (by omega)]
    · rw [if_neg h, if_neg (by omega)]
theorem nI_m1 {k : Nat} (h : 0 < k) : nI k - 1 = nI (k - 1) := by
  have h1 := nI_pred (k - 1)
  rw [show k - 1 + 1 = k by omega] at h1
  exact h1
set_option maxHeartbeats 1000000 in
theorem s_Ve_drop {X : gX} {n s sg a z tot : Nat} (hsg : X.I n 7 = nI sg) (h1 : sg ≤ 4096) (hs : s < sg) (ha : X.I (n + 3) s = nI a) (hz : X.I (n + 3) (s + 1) = nI z) (ht : X.I (n + 3) sg = nI tot) (haz : a ≤ z) (hzt : z ≤ tot) (htt : tot ≤ 4096) (hb6 : ∀ i, i < tot → X.I (n + 6) i = 0 ∨ X.I (n + 6) i = 1) (hb7 : ∀ i, i < tot → X.I (n + 7) i = 0 ∨ X.I (n + 7) i = 1) :
    ∃ Y, f_Ve_drop X n (nI s) = some (gR.v, Y) ∧ frI (sVe n) X Y ∧ Y.I n = upd (X.I n) 7 (nI (sg - 1)) ∧ Y.I (n + 1) = gsh s 1 (sg - 1 - s) (X.I (n + 1)) ∧ Y.I (n + 2) = gsh s 1 (sg - 1 - s) (X.I (n + 2)) ∧ Y.I (n + 3) = gfl (s + 1) (sg - (s + 1)) (nI (z - a)) (X.I (n + 3)) ∧ Y.I (n + 4) = gsh s 1 (sg - 1 - s) (X.I (n + 4)) ∧ Y.I (n + 5) = gsh a (z - a) (tot - z) (X.I (n + 5)) ∧ Y.I (n + 6) = gsh a (z - a) (tot - z) (X.I (n + 6)) ∧ Y.I (n + 7) = gsh a (z - a) (tot - z) (X.I (n + 7)) := by
  have ht1 : ∀ k, k ≤ 7 → sVe n (n + k) = true := fun k hk => sVe_t hk
  have ht0 : sVe n n = true := sVe_t (k := 0) (by omega)
  unfold f_Ve_drop
  have i1 : gIn (nI s + 1) 4098 = true := by rw [nI_1]; exact gIn_nI (by omega) (by omega)
  have i2 : gIn (nI s) 4098 = true := gIn_nI (by omega) (by omega)
  rw [if_pos i1, if_pos i2, if_pos i2, nI_1, gn_nI (by omega), gn_nI (by omega), hz, ha, pk_sub haz]
  have key := gI_inv (body := fun u : gX × Int32 => f_Ve_drop_23 u.1 n (nI s) (nI (z - a)) u.2) (fun k u => ∃ Z, u = (Z, nI (a + k)) ∧ frI (sVe n) X Z ∧ Z.I n = X.I n ∧ Z.I (n + 1) = X.I (n + 1) ∧ Z.I (n + 2) = X.I (n + 2) ∧ Z.I (n + 3) = X.I (n + 3) ∧ Z.I (n + 4) = X.I (n + 4) ∧ Z.I (n + 5) = gsh a (z - a) k (X.I (n + 5)) ∧ Z.I (n + 6) = gsh a (z - a) k (X.I (n + 6)) ∧ Z.I (n + 7) = gsh a (z - a) k (X.I (n + 7))) (fun r => ∃ Y, r = (gR.v, Y) ∧ frI (sVe n) X Y ∧ Y.I n = upd (X.I n) 7 (nI (sg - 1)) ∧ Y.I (n + 1) = gsh s 1 (sg - 1 - s) (X.I (n + 1)) ∧ Y.I (n + 2) = gsh s 1 (sg - 1 - s) (X.I (n + 2)) ∧ Y.I (n + 3) = gfl (s + 1) (sg - (s + 1)) (nI (z - a)) (X.I (n + 3)) ∧ Y.I (n + 4) = gsh s 1 (sg - 1 - s) (X.I (n + 4)) ∧ Y.I (n + 5) = gsh a (z - a) (tot - z) (X.I (n + 5)) ∧ Y.I (n + 6) = gsh a (z - a) (tot - z) (X.I (n + 6)) ∧ Y.I (n + 7) = gsh a (z - a) (tot - z) (X.I (n + 7))) (tot - z) (by omega) (s0 := (X, nI a)) ⟨X, rfl, frI.rf, rfl, rfl, rfl, rfl, rfl, gsh_0.symm, gsh_0.symm, gsh_0.symm⟩ (fun k u hk hI => by
    obtain ⟨Z, rfl, g1, g2, g3, g4, g5, g6, g7, g8, g9⟩ := hI
    show ∃ u', f_Ve_drop_23 Z n (nI s) (nI (z - a)) (nI (a + k)) = _ ∧ _
    unfold f_Ve_drop_23
    rw [s_Ve_docs (g := sg) (by rw [g2, hsg]) (by omega), g5, ht]
    show ∃ u', (if nI tot ≤ nI (a + k) + nI (z - a) then _ else _) = _ ∧ _
    have j1 : gIn (nI (a + k + (z - a))) 4096 = true := gIn_nI (by omega) (by omega)
    have j2 : gIn (nI (a + k)) 4096 = true := gIn_nI (by omega) (by omega)
    rw [nI_add, if_neg (nI_ge (by omega) (by omega)), gn_nI (k := a + k) (by omega), gn_nI (k := a + k + (z - a)) (by omega)]
    simp only [j1, j2, if_true, gB]
    refine ⟨_, rfl, _, by rw [nI_1]; rfl, ((g1.w (ht1 5 (by omega))).w (ht1 6 (by omega))).w (ht1 7 (by omega)), ?_, ?_, ?_, ?_, ?_, ?_, ?_, ?_⟩
    · rw [gX.w_ne (by omega), gX.w_ne (by omega), gX.w_ne (by omega), g2]
    · rw [gX.w_ne (by omega), gX.w_ne (by omega), gX.w_ne (by omega), g3]
    · rw [gX.w_ne (by omega), gX.w_ne (by omega), gX.w_ne (by omega), g4]
    · rw [gX.w_ne (by omega), gX.w_ne (by omega), gX.w_ne (by omega), g5]
    · rw [gX.w_ne (by omega), gX.w_ne (by omega), gX.w_ne (by omega), g6]
    · rw [gX.w_ne (by omega), gX.w_ne (by omega), gX.w_self, g7]
      exact gsh_u rfl (gsh_at (by omega))
    · rw [gX.w_ne (by omega), gX.w_self, w_oth (Or.inl (by omega)), gX.w_ne (by omega), g8, gsh_at (by omega), b_nar (hb6 _ (by omega))]
      exact gsh_u rfl rfl
    · rw [gX.w_self, w_oth (Or.inl (by omega)), w_oth (Or.inl (by omega)), gX.w_ne (by omega), gX.w_ne (by omega), g9, gsh_at (by omega), b_nar (hb7 _ (by omega))]
      exact gsh_u rfl rfl) (fun u hI => by
    obtain ⟨Z, rfl, g1, g2, g3, g4, g5, g6, g7, g8, g9⟩ := hI
    show ∃ r, f_Ve_drop_23 Z n (nI s) (nI (z - a)) (nI (a + (tot - z))) = _ ∧ _
    unfold f_Ve_drop_23
    rw [s_Ve_docs (g := sg) (by rw [g2, hsg]) (by omega), g5, ht]
    show ∃ r, (if nI tot ≤ nI (a + (tot - z)) + nI (z - a) then _ else _) = _ ∧ _
    rw [nI_add, if_pos (nI_le (by omega) (by omega))]
    have key2 := gI_inv (body := fun u : gX × Int32 => f_Ve_drop_83 u.1 n (nI s) (nI (z - a)) u.2) (fun k u => ∃ W, u = (W, nI (s + k)) ∧ frI (sVe n) X W ∧ W.I n = X.I n ∧ W.I (n + 1) = gsh s 1 k (X.I (n + 1)) ∧ W.I (n + 2) = gsh s 1 k (X.I (n + 2)) ∧ W.I (n + 3) = X.I (n + 3) ∧ W.I (n + 4) = gsh s 1 k (X.I (n + 4)) ∧ W.I (n + 5) = Z.I (n + 5) ∧ W.I (n + 6) = Z.I (n + 6) ∧ W.I (n + 7) = Z.I (n + 7)) (fun r => ∃ Y, r = (gR.v, Y) ∧ frI (sVe n) X Y ∧ Y.I n = upd (X.I n) 7 (nI (sg - 1)) ∧ Y.I (n + 1) = gsh s 1 (sg - 1 - s) (X.I (n + 1)) ∧ Y.I (n + 2) = gsh s 1 (sg - 1 - s) (X.I (n + 2)) ∧ Y.I (n + 3) = gfl (s + 1) (sg - (s + 1)) (nI (z - a)) (X.I (n + 3)) ∧ Y.I (n + 4) = gsh s 1 (sg - 1 - s) (X.I (n + 4)) ∧ Y.I (n + 5) = gsh a (z - a) (tot - z) (X.I (n + 5)) ∧ Y.I (n + 6) = gsh a (z - a) (tot - z) (X.I (n + 6)) ∧ Y.I (n + 7) = gsh a (z - a) (tot - z) (X.I (n + 7))) (sg - 1 - s) (by omega) (s0 := (Z, nI s)) ⟨Z, rfl, g1, g2, g3.trans gsh_0.symm, g4.trans gsh_0.symm, g5, g6.trans gsh_0.symm, rfl, rfl, rfl⟩ (fun k u hk hI => by
      obtain ⟨W, rfl, w1, w2, w3, w4, w5, w6, w7, w8, w9⟩ := hI
      show ∃ u', f_Ve_drop_83 W n (nI s) (nI (z - a)) (nI (s + k)) = _ ∧ _
      unfold f_Ve_drop_83
      have j1 : gIn (nI (s + k + 1)) 4097 = true := gIn_nI (by omega) (by omega)
      have j2 : gIn (nI (s + k)) 4097 = true := gIn_nI (by omega) (by omega)
      rw [nI_1, w2, hsg, if_neg (nI_ge (by omega) (by omega)), gn_nI (k := s + k) (by omega), gn_nI (k := s + k + 1) (by omega)]
      simp only [j1, j2, if_true, gB]
      refine ⟨_, rfl, _, rfl, ((w1.w (ht1 1 (by omega))).w (ht1 2 (by omega))).w (ht1 4 (by omega)), ?_, ?_, ?_, ?_, ?_, ?_, ?_, ?_⟩
      · rw [gX.w_ne (by omega), gX.w_ne (by omega), gX.w_ne (by omega), w2]
      · rw [gX.w_ne (by omega), gX.w_ne (by omega), gX.w_self, w3]
        exact gsh_u rfl (gsh_at (by omega))
      · rw [gX.w_ne (by omega), gX.w_self, w_oth (Or.inl (by omega)), gX.w_ne (by omega), w4]
        exact gsh_u rfl (gsh_at (by omega))
      · rw [gX.w_ne (by omega), gX.w_ne (by omega), gX.w_ne (by omega), w5]
      · rw [gX.w_self, w_oth (Or.inl (by omega)), w_oth (Or.inl (by omega)), gX.w_ne (by omega), gX.w_ne (by omega), w6]
        exact gsh_u rfl (gsh_at (by omega))
      · rw [gX.w_ne (by omega), gX.w_ne (by omega), gX.w_ne (by omega), w7]
      · rw [gX.w_ne (by omega), gX.w_ne (by omega), gX.w_ne (by omega), w8]
      · rw [gX.w_ne (by omega), gX.w_ne (by omega), gX.w_ne (by omega), w9]) (fun u hI => by
      obtain ⟨W, rfl, w1, w2, w3, w4, w5, w6, w7, w8, w9⟩ := hI
      show ∃ r, f_Ve_drop_83 W n (nI s) (nI (z - a)) (nI (s + (sg - 1 - s))) = _ ∧ _
      unfold f_Ve_drop_83
      rw [nI_1, w2, hsg, if_pos (nI_le (by omega) (by omega)), nI_1]
      have key3 := gI_inv (body := fun u : gX × Int32 => f_Ve_drop_145 u.1 n (nI (z - a)) u.2) (fun k u => ∃ V, u = (V, nI (s + 1 + k)) ∧ frI (sVe n) X V ∧ V.I n = X.I n ∧ V.I (n + 1) = W.I (n + 1) ∧ V.I (n + 2) = W.I (n + 2) ∧ V.I (n + 3) = gfl (s + 1) k (nI (z - a)) (X.I (n + 3)) ∧ V.I (n + 4) = W.I (n + 4) ∧ V.I (n + 5) = Z.I (n + 5) ∧ V.I (n + 6) = Z.I (n + 6) ∧ V.I (n + 7) = Z.I (n + 7)) (fun r => ∃ Y, r = (gR.v, Y) ∧ frI (sVe n) X Y ∧ Y.I n = upd (X.I n) 7 (nI (sg - 1)) ∧ Y.I (n + 1) = gsh s 1 (sg - 1 - s) (X.I (n + 1)) ∧ Y.I (n + 2) = gsh s 1 (sg - 1 - s) (X.I (n + 2)) ∧ Y.I (n + 3) = gfl (s + 1) (sg - (s + 1)) (nI (z - a)) (X.I (n + 3)) ∧ Y.I (n + 4) = gsh s 1 (sg - 1 - s) (X.I (n + 4)) ∧ Y.I (n + 5) = gsh a (z - a) (tot - z) (X.I (n + 5)) ∧ Y.I (n + 6) = gsh a (z - a) (tot - z) (X.I (n + 6)) ∧ Y.I (n + 7) = gsh a (z - a) (tot - z) (X.I (n + 7))) (sg - (s + 1)) (by omega) (s0 := (W, nI (s + 1))) ⟨W, rfl, w1, w2, rfl, rfl, w5.trans gfl_0.symm, rfl, w7, w8, w9⟩ (fun k u hk hI => by
        obtain ⟨V, rfl, v1, v2, v3, v4, v5, v6, v7, v8, v9⟩ := hI
        show ∃ u', f_Ve_drop_145 V n (nI (z - a)) (nI (s + 1 + k)) = _ ∧ _
        unfold f_Ve_drop_145
        have j1 : gIn (nI (s + 1 + k + 1)) 4098 = true := gIn_nI (by omega) (by omega)
        have j2 : gIn (nI (s + 1 + k)) 4098 = true := gIn_nI (by omega) (by omega)
        rw [nI_1, v2, hsg, if_neg (nI_ge (by omega) (by omega)), gn_nI (k := s + 1 + k) (by omega), gn_nI (k := s + 1 + k + 1) (by omega)]
        simp only [j1, j2, if_true, gB]
        refine ⟨_, rfl, _, rfl, v1.w (ht1 3 (by omega)), ?_, ?_, ?_, ?_, ?_, ?_, ?_, ?_⟩
        · rw [gX.w_ne (by omega), v2]
        · rw [gX.w_ne (by omega), v3]
        · rw [gX.w_ne (by omega), v4]
        · rw [gX.w_self, v5]
          exact gfl_u rfl (by rw [gfl_at (by omega)])
        · rw [gX.w_ne (by omega), v6]
        · rw [gX.w_ne (by omega), v7]
        · rw [gX.w_ne (by omega), v8]
        · rw [gX.w_ne (by omega), v9]) (fun u hI => by
        obtain ⟨V, rfl, v1, v2, v3, v4, v5, v6, v7, v8, v9⟩ := hI
        show ∃ r, f_Ve_drop_145 V n (nI (z - a)) (nI (s + 1 + (sg - (s + 1)))) = _ ∧ _
        unfold f_Ve_drop_145
        rw [v2, hsg, if_pos (nI_le (by omega) (by omega)), nI_m1 (by omega)]
        refine ⟨_, rfl, V.w n 7 (nI (sg - 1)), rfl, v1.w ht0, ?_, ?_, ?_, ?_, ?_, ?_, ?_, ?_⟩
        · rw [gX.w_self, v2]
        · rw [gX.w_ne (by omega), v3, w3]
        · rw [gX.w_ne (by omega), v4, w4]
        · rw [gX.w_ne (by omega), v5]
        · rw [gX.w_ne (by omega), v6, w6]
        · rw [gX.w_ne (by omega), v7, g7]
        · rw [gX.w_ne (by omega), v8, g8]
        · rw [gX.w_ne (by omega), v9, g9])
      obtain ⟨r, k1, k2⟩ := key3
      rw [k1]
      exact ⟨r, rfl, k2⟩)
    obtain ⟨r, k1, k2⟩ := key2
    rw [k1]
    exact ⟨r, rfl, k2⟩)
  obtain ⟨r, k1, Y, rfl, k3⟩ := key
  rw [k1]
  exact ⟨Y, rfl, k3⟩
