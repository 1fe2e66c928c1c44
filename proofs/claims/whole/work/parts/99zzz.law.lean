/-! THE PURE SIDE: the law -/
theorem JJ_mono {X : gX} {k k' : Nat} (h : JJ X k) (hk : k ≤ k') : JJ X k' := by
  obtain ⟨A, nm, h1, h2, h3, h4, h5⟩ := h
  exact ⟨A, nm, h1, RC_mono h2 hk, Inv_mono h3 hk, h4, h5⟩
theorem LI_go {F : Option (gR × gX)} {G : gX → Option (gR × gX)} {k : Nat} {ρ : Type} (h : LI F G k) (K R : gX → Option ρ) : ∃ Z, JJ Z (k + 1) ∧ gCi F (fun x4 X4 => gCi (G X4) (fun x5 X5 => gCi (f_Mo_thrown X5) (fun x6 X6 => (if x6 = x4 then (if x4 = (0 : Int32) then (if ((X6.I 116 0).toInt64) = x5.toInt64 then K X6 else R X6) else K X6) else R X6)))) = K Z := by
  obtain ⟨c, v, Y, Z, h1, h2, h3, h4, h5⟩ := h
  refine ⟨Z, h5, ?_⟩
  rw [h1, gCi_i, h2, gCi_i, h3, gCi_i, if_pos rfl]
  by_cases c0 : c = 0
  · rw [if_pos c0, if_pos (by rw [h4 c0])]
  · rw [if_neg c0]
theorem LVd_go {F : Option (gR × gX)} {G : gX → Option (gR × gX)} {k : Nat} {ρ : Type} (h : LVd F G k) (K R : gX → Option ρ) : ∃ Z, JJ Z (k + 1) ∧ gCi F (fun x4 X4 => gCv (G X4) (fun X5 => gCi (f_Mo_thrown X5) (fun x6 X6 => (if x6 = x4 then K X6 else R X6)))) = K Z := by
  obtain ⟨c, Y, Z, h1, h2, h3, h5⟩ := h
  refine ⟨Z, h5, ?_⟩
  rw [h1, gCi_i, h2, gCv_v, h3, gCi_i, if_pos rfl]
theorem law_step (hclose : ∀ (X : gX) (k : Nat), JJ X k → k < 600 → LI (f_Lw_close X) f_Mo_close0 k) {X : gX} {k Ls i : Nat} {xs : Nat → Int32} (h : JJ X k) (hk : k < 600) (hL : Ls ≤ 100000) (hi : i + 4 ≤ Ls) : ∃ Z, JJ Z (k + 1) ∧ f_Lw_law_23 X Ls xs (nI i) = some (Sum.inl (Z, nI (i + 4))) := by
  have j0 : gIn (nI i) Ls = true := gIn_nI (by omega) (by omega)
  have j1 : gIn (nI i + 1) Ls = true := by rw [nI_1]; exact gIn_nI (by omega) (by omega)
  have j2 : gIn (nI i + 2) Ls = true := by rw [show nI i + 2 = nI (i + 2) from nI_add i 2]; exact gIn_nI (by omega) (by omega)
  have j3 : gIn (nI i + 3) Ls = true := by rw [show nI i + 3 = nI (i + 3) from nI_add i 3]; exact gIn_nI (by omega) (by omega)
  have e4 : nI i + 4 = nI (i + 4) := nI_add i 4
  have hend : ¬ nI Ls - 4 < nI i := by
    rw [show nI Ls - 4 = nI (Ls - 4) from pk_sub (b := 4) (by omega)]
    exact nI_nlt (by omega) (by omega)
  have K : ∀ Z, JJ Z (k + 1) → ∃ Z', JJ Z' (k + 1) ∧ f_Lw_law_1272 Z Ls xs (nI i) = some (Sum.inl (Z', nI (i + 4))) := fun Z hZ => ⟨Z, hZ, by unfold f_Lw_law_1272; rw [e4]⟩
  unfold f_Lw_law_23 f_Lw_law_193 f_Lw_law_321 f_Lw_law_377 f_Lw_law_421 f_Lw_law_477 f_Lw_law_605 f_Lw_law_649 f_Lw_law_717 f_Lw_law_868 f_Lw_law_972 f_Lw_law_1040 f_Lw_law_1108 f_Lw_law_1176 f_Lw_law_1244
  rw [if_neg hend]
  simp only [j0, j1, j2, j3, if_true]
  by_cases c : (xs (gn (nI i))) &&& 31 = (0 : Int32)
  · rw [if_pos c]
    obtain ⟨Z, z1, z2⟩ := LI_go (L_open (a := xs (gn (nI i + 1))) h hk) (fun X6 => f_Lw_law_1272 X6 Ls xs (nI i)) (fun X6 => gLf (some (gR.i 0, X6)))
    rw [z2]
    exact K Z z1
  rw [if_neg c]
  clear c
  by_cases c : (xs (gn (nI i))) &&& 31 = (1 : Int32)
  · rw [if_pos c]
    obtain ⟨Z, z1, z2⟩ := LVd_go (L_limits (a := xs (gn (nI i + 1))) (b := xs (gn (nI i + 2))) h hk) (fun X6 => f_Lw_law_1272 X6 Ls xs (nI i)) (fun X6 => gLf (some (gR.i 0, X6)))
    rw [z2]
    exact K Z z1
  rw [if_neg c]
  clear c
  by_cases c : (xs (gn (nI i))) &&& 31 = (2 : Int32)
  · rw [if_pos c]
    obtain ⟨Z, z1, z2⟩ := LI_go (L_add (a := xs (gn (nI i + 1))) (b := xs (gn (nI i + 2))) (n := xs (gn (nI i + 3))) h hk) (fun X6 => f_Lw_law_1272 X6 Ls xs (nI i)) (fun X6 => gLf (some (gR.i 0, X6)))
    rw [z2]
    exact K Z z1
  rw [if_neg c]
  clear c
  by_cases c : (xs (gn (nI i))) &&& 31 = (3 : Int32)
  · rw [if_pos c]
    obtain ⟨Z, z1, z2⟩ := LI_go (L_erase (a := xs (gn (nI i + 1))) h hk) (fun X6 => f_Lw_law_1272 X6 Ls xs (nI i)) (fun X6 => gLf (some (gR.i 0, X6)))
    rw [z2]
    exact K Z z1
  rw [if_neg c]
  clear c
  by_cases c : (xs (gn (nI i))) &&& 31 = (4 : Int32)
  · rw [if_pos c]
    obtain ⟨Z, z1, z2⟩ := LI_go (L_flush h hk) (fun X6 => f_Lw_law_1272 X6 Ls xs (nI i)) (fun X6 => gLf (some (gR.i 0, X6)))
    rw [z2]
    exact K Z z1
  rw [if_neg c]
  clear c
  by_cases c : (xs (gn (nI i))) &&& 31 = (5 : Int32)
  · rw [if_pos c]
    obtain ⟨Z, z1, z2⟩ := LI_go (L_merge (b := xs (gn (nI i + 1))) h hk) (fun X6 => f_Lw_law_1272 X6 Ls xs (nI i)) (fun X6 => gLf (some (gR.i 0, X6)))
    rw [z2]
    exact K Z z1
  rw [if_neg c]
  clear c
  by_cases c : (xs (gn (nI i))) &&& 31 = (6 : Int32)
  · rw [if_pos c]
    unfold f_Lw_law_501 f_Lw_law_528 f_Lw_law_561
    simp only [j1, j2, if_true]
    by_cases c6 : xs (gn (nI i + 2)) = 0
    · simp only [if_pos c6]
      obtain ⟨Z, z1, z2⟩ := LI_go (L_finish (a := xs (gn (nI i + 1))) (b := false) h hk) (fun X6 => f_Lw_law_1272 X6 Ls xs (nI i)) (fun X6 => gLf (some (gR.i 0, X6)))
      rw [show b2i false = (0 : Int32) from rfl] at z2
      rw [z2]
      exact K Z z1
    · simp only [if_neg c6]
      obtain ⟨Z, z1, z2⟩ := LI_go (L_finish (a := xs (gn (nI i + 1))) (b := true) h hk) (fun X6 => f_Lw_law_1272 X6 Ls xs (nI i)) (fun X6 => gLf (some (gR.i 0, X6)))
      rw [show b2i true = (1 : Int32) from rfl] at z2
      rw [z2]
      exact K Z z1
  rw [if_neg c]
  clear c
  by_cases c : (xs (gn (nI i))) &&& 31 = (7 : Int32)
  · rw [if_pos c]
    obtain ⟨Z, z1, z2⟩ := LI_go (L_prepare h hk) (fun X6 => f_Lw_law_1272 X6 Ls xs (nI i)) (fun X6 => gLf (some (gR.i 0, X6)))
    rw [z2]
    exact K Z z1
  rw [if_neg c]
  clear c
  by_cases c : (xs (gn (nI i))) &&& 31 = (8 : Int32)
  · rw [if_pos c]
    obtain ⟨Z, z1, z2⟩ := LI_go (L_commit h hk) (fun X6 => f_Lw_law_1272 X6 Ls xs (nI i)) (fun X6 => gLf (some (gR.i 0, X6)))
    rw [z2]
    exact K Z z1
  rw [if_neg c]
  clear c
  by_cases c : (xs (gn (nI i))) &&& 31 = (9 : Int32)
  · rw [if_pos c]
    obtain ⟨Z, z1, z2⟩ := LVd_go (L_rollback h hk) (fun X6 => f_Lw_law_1272 X6 Ls xs (nI i)) (fun X6 => gLf (some (gR.i 0, X6)))
    rw [z2]
    exact K Z z1
  rw [if_neg c]
  clear c
  by_cases c : (xs (gn (nI i))) &&& 31 = (10 : Int32)
  · rw [if_pos c]
    obtain ⟨Z, z1, z2⟩ := LI_go (hclose X k h hk) (fun X6 => f_Lw_law_1272 X6 Ls xs (nI i)) (fun X6 => gLf (some (gR.i 0, X6)))
    rw [z2]
    exact K Z z1
  rw [if_neg c]
  clear c
  by_cases c : (xs (gn (nI i))) &&& 31 = (11 : Int32)
  · rw [if_pos c]
    obtain ⟨Z, z1, z2⟩ := LVd_go (L_power (a := xs (gn (nI i + 1))) h hk) (fun X6 => f_Lw_law_1272 X6 Ls xs (nI i)) (fun X6 => gLf (some (gR.i 0, X6)))
    rw [z2]
    exact K Z z1
  rw [if_neg c]
  clear c
  by_cases c : (xs (gn (nI i))) &&& 31 = (12 : Int32)
  · rw [if_pos c]
    obtain ⟨Y, Z, y1, y2, y3⟩ := L_crash h hk
    rw [y1, gCv_v, y2, gCv_v]
    exact K Z y3
  rw [if_neg c]
  clear c
  by_cases c : (xs (gn (nI i))) &&& 31 = (13 : Int32)
  · rw [if_pos c]
    obtain ⟨Z, z1, z2⟩ := LVd_go (L_harm (a := xs (gn (nI i + 1))) (b := xs (gn (nI i + 2))) h hk) (fun X6 => f_Lw_law_1272 X6 Ls xs (nI i)) (fun X6 => gLf (some (gR.i 0, X6)))
    rw [z2]
    exact K Z z1
  rw [if_neg c]
  clear c
  by_cases c : (xs (gn (nI i))) &&& 31 = (14 : Int32)
  · rw [if_pos c]
    obtain ⟨Z, z1, z2⟩ := LI_go (L_reader (a := xs (gn (nI i + 1))) h hk) (fun X6 => f_Lw_law_1272 X6 Ls xs (nI i)) (fun X6 => gLf (some (gR.i 0, X6)))
    rw [z2]
    exact K Z z1
  rw [if_neg c]
  clear c
  by_cases c : (xs (gn (nI i))) &&& 31 = (15 : Int32)
  · rw [if_pos c]
    obtain ⟨Z, z1, z2⟩ := LVd_go (L_release (a := xs (gn (nI i + 1))) h hk) (fun X6 => f_Lw_law_1272 X6 Ls xs (nI i)) (fun X6 => gLf (some (gR.i 0, X6)))
    rw [z2]
    exact K Z z1
  rw [if_neg c]
  clear c
  by_cases c : (xs (gn (nI i))) &&& 31 = (16 : Int32)
  · rw [if_pos c]
    obtain ⟨Z, z1, z2⟩ := LI_go (L_value (a := xs (gn (nI i + 1))) (b := xs (gn (nI i + 2))) h hk) (fun X6 => f_Lw_law_1272 X6 Ls xs (nI i)) (fun X6 => gLf (some (gR.i 0, X6)))
    rw [z2]
    exact K Z z1
  rw [if_neg c]
  clear c
  by_cases c : (xs (gn (nI i))) &&& 31 = (17 : Int32)
  · rw [if_pos c]
    obtain ⟨Z, z1, z2⟩ := LI_go (L_many (a := xs (gn (nI i + 1))) (b := xs (gn (nI i + 2))) h hk) (fun X6 => f_Lw_law_1272 X6 Ls xs (nI i)) (fun X6 => gLf (some (gR.i 0, X6)))
    rw [z2]
    exact K Z z1
  rw [if_neg c]
  clear c
  by_cases c : (xs (gn (nI i))) &&& 31 = (18 : Int32)
  · rw [if_pos c]
    obtain ⟨Z, z1, z2⟩ := LI_go (L_serial (a := xs (gn (nI i + 1))) (b := xs (gn (nI i + 2))) h hk) (fun X6 => f_Lw_law_1272 X6 Ls xs (nI i)) (fun X6 => gLf (some (gR.i 0, X6)))
    rw [z2]
    exact K Z z1
  rw [if_neg c]
  clear c
  by_cases c : (xs (gn (nI i))) &&& 31 = (19 : Int32)
  · rw [if_pos c]
    obtain ⟨Z, z1, z2⟩ := LI_go (L_seen (a := xs (gn (nI i + 1))) (b := xs (gn (nI i + 2))) h hk) (fun X6 => f_Lw_law_1272 X6 Ls xs (nI i)) (fun X6 => gLf (some (gR.i 0, X6)))
    rw [z2]
    exact K Z z1
  rw [if_neg c]
  clear c
  by_cases c : (xs (gn (nI i))) &&& 31 = (20 : Int32)
  · rw [if_pos c]
    obtain ⟨Z, z1, z2⟩ := LI_go (L_segment (a := xs (gn (nI i + 1))) (b := xs (gn (nI i + 2))) h hk) (fun X6 => f_Lw_law_1272 X6 Ls xs (nI i)) (fun X6 => gLf (some (gR.i 0, X6)))
    rw [z2]
    exact K Z z1
  rw [if_neg c]
  clear c
  by_cases c : (xs (gn (nI i))) &&& 31 = (21 : Int32)
  · rw [if_pos c]
    obtain ⟨v, Y, y1, y2, y3⟩ := L_count (a := xs (gn (nI i + 1))) h hk
    rw [y1, gCi_i, y2, gCi_i, if_pos rfl]
    exact K Y y3
  rw [if_neg c]
  exact K X (JJ_mono h (Nat.le_succ k))
/-- the law says true: at most 512 calls -/
theorem law_of_close (hclose : ∀ (X : gX) (k : Nat), JJ X k → k < 600 → LI (f_Lw_close X) f_Mo_close0 k) {Ls : Nat} {xs : Nat → Int32} (hL : Ls ≤ 2048) : ∃ Xf, f_Lw_law X00 Ls xs 0 = some (gR.i 1, Xf) := by
  unfold f_Lw_law
  refine (fun key : ∃ r, gI (fun s : gX × Int32 => f_Lw_law_23 s.1 Ls xs s.2) gK (X00, 0) = some r ∧ ∃ Xf, r = (gR.i 1, Xf) => by
    obtain ⟨r, r1, Xf, rfl⟩ := key
    exact ⟨Xf, r1⟩) ?_
  refine gI_wf (body := fun s : gX × Int32 => f_Lw_law_23 s.1 Ls xs s.2) (fun s => ∃ Z k, s = (Z, nI (4 * k)) ∧ JJ Z k ∧ 4 * k ≤ Ls) (fun r => ∃ Xf, r = (gR.i 1, Xf)) (fun s => Ls + 4 - gn s.2) (by show Ls + 4 - gn 0 ≤ 100000; omega) ⟨X00, 0, rfl, JJ_00, by omega⟩ (fun s hI => ?_)
  obtain ⟨Z, k, rfl, i1, i2⟩ := hI
  show (∃ s', f_Lw_law_23 Z Ls xs (nI (4 * k)) = _ ∧ _) ∨ (∃ r, f_Lw_law_23 Z Ls xs (nI (4 * k)) = _ ∧ _)
  by_cases c : 4 * k + 4 ≤ Ls
  · left
    obtain ⟨Y, y1, y2⟩ := law_step hclose (xs := xs) i1 (by omega) (by omega) c
    rw [y2]
    refine ⟨_, rfl, ⟨Y, k + 1, rfl, y1, by omega⟩, ?_⟩
    show Ls + 4 - gn (nI (4 * k + 4)) < Ls + 4 - gn (nI (4 * k))
    rw [gn_nI (by omega), gn_nI (by omega)]
    omega
  · right
    unfold f_Lw_law_23
    have hlt : nI Ls - 4 < nI (4 * k) := by
      by_cases c4 : 4 ≤ Ls
      · rw [show nI Ls - 4 = nI (Ls - 4) from pk_sub (b := 4) c4]
        exact nI_lt (by omega) (by omega)
      · have hk0 : k = 0 := by omega
        have : Ls = 0 ∨ Ls = 1 ∨ Ls = 2 ∨ Ls = 3 := by omega
        rw [hk0]
        rcases this with e | e | e | e <;> rw [e] <;> decide
    rw [if_pos hlt, gLf_s]
    exact ⟨_, rfl, Z, rfl⟩
