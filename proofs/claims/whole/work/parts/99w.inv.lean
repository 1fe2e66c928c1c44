/-! THE PURE SIDE: the class's rows hold the abstract ledger; what always holds of it -/
abbrev gTl (H : zH) : Nat → Nat := H.2.2.1
abbrev gSt (H : zH) : Nat → Nat := H.2.2.2.1
abbrev gEn (H : zH) : Nat → Nat := H.2.2.2.2.1
abbrev wr (A : zA) : Nat := gn (A.1 11)
/-- a view's rows hold V -/
def CV (X : gX) (v : Nat) (nm : Nat → Nat) (V : zV) : Prop := X.I v 4 = nI V.1.length ∧ X.I v 5 = V.2.2.2.1 ∧ (∀ i x, V.1[i]? = some x → X.G (v + 1) i = some (nm x.1) ∧ X.G (v + 2) i = x.2.1.map nm) ∧ ∀ e, e < 4096 → X.I (v + 3) e = b2i (V.2.1 e)
theorem CV_fr {X Y : gX} {v : Nat} {nm : Nat → Nat} {V : zV} (h : CV X v nm V) (e1 : Y.I v = X.I v) (e2 : Y.G (v + 1) = X.G (v + 1)) (e3 : Y.G (v + 2) = X.G (v + 2)) (e4 : Y.I (v + 3) = X.I (v + 3)) : CV Y v nm V := by
  unfold CV at h ⊢
  rw [e1, e2, e3, e4]
  exact h
theorem CV_nm {X : gX} {v : Nat} {nm nm' : Nat → Nat} {V : zV} (h : CV X v nm V) (e : ∀ x, x ∈ V.1 → nm' x.1 = nm x.1 ∧ ∀ k, x.2.1 = some k → nm' k = nm k) : CV X v nm' V := by
  refine ⟨h.1, h.2.1, fun i x hx => ?_, h.2.2.2⟩
  obtain ⟨h1, h2⟩ := h.2.2.1 i x hx
  obtain ⟨h3, h4⟩ := e x (vs_mem hx)
  refine ⟨by rw [h1, h3], ?_⟩
  rw [h2]
  cases c : x.2.1 with
  | none => rfl
  | some k =>
    show some (nm k) = some (nm' k)
    rw [h4 k c]
/-- the scalars: row and place of the class, place of the reference -/
def cTab : List (Nat × Nat × Nat) := [(0, 7, 18), (0, 8, 19), (0, 10, 24), (0, 11, 25), (0, 12, 30), (0, 13, 34), (0, 14, 32), (0, 15, 20), (0, 16, 12), (0, 17, 13), (5, 2, 11), (5, 3, 14), (1, 3, 5)]
def cS (X : gX) (S : Nat → Int32) : Prop := ∀ p, p ∈ cTab → X.I p.1 p.2.1 = S p.2.2
theorem cS_18 {X : gX} {S : Nat → Int32} (h : cS X S) : X.I 0 7 = S 18 := h (0, 7, 18) (by decide)
theorem cS_19 {X : gX} {S : Nat → Int32} (h : cS X S) : X.I 0 8 = S 19 := h (0, 8, 19) (by decide)
theorem cS_24 {X : gX} {S : Nat → Int32} (h : cS X S) : X.I 0 10 = S 24 := h (0, 10, 24) (by decide)
theorem cS_25 {X : gX} {S : Nat → Int32} (h : cS X S) : X.I 0 11 = S 25 := h (0, 11, 25) (by decide)
theorem cS_30 {X : gX} {S : Nat → Int32} (h : cS X S) : X.I 0 12 = S 30 := h (0, 12, 30) (by decide)
theorem cS_34 {X : gX} {S : Nat → Int32} (h : cS X S) : X.I 0 13 = S 34 := h (0, 13, 34) (by decide)
theorem cS_32 {X : gX} {S : Nat → Int32} (h : cS X S) : X.I 0 14 = S 32 := h (0, 14, 32) (by decide)
theorem cS_20 {X : gX} {S : Nat → Int32} (h : cS X S) : X.I 0 15 = S 20 := h (0, 15, 20) (by decide)
theorem cS_12 {X : gX} {S : Nat → Int32} (h : cS X S) : X.I 0 16 = S 12 := h (0, 16, 12) (by decide)
theorem cS_13 {X : gX} {S : Nat → Int32} (h : cS X S) : X.I 0 17 = S 13 := h (0, 17, 13) (by decide)
theorem cS_11 {X : gX} {S : Nat → Int32} (h : cS X S) : X.I 5 2 = S 11 := h (5, 2, 11) (by decide)
theorem cS_14 {X : gX} {S : Nat → Int32} (h : cS X S) : X.I 5 3 = S 14 := h (5, 3, 14) (by decide)
theorem cS_5 {X : gX} {S : Nat → Int32} (h : cS X S) : X.I 1 3 = S 5 := h (1, 3, 5) (by decide)
theorem cTab_ap : ∀ p, p ∈ cTab → ∀ q, q ∈ cTab → p = q ∨ ((p.1 ≠ q.1 ∨ p.2.1 ≠ q.2.1) ∧ p.2.2 ≠ q.2.2) := by decide
theorem cTab_ix : ∀ p, p ∈ cTab → p.1 = 0 ∨ p.1 = 1 ∨ p.1 = 5 := by decide
theorem cTab_09 : ∀ p, p ∈ cTab → p.1 ≠ 0 ∨ p.2.1 ≠ 9 := by decide
theorem cTab_23 : ∀ p, p ∈ cTab → p.2.2 ≠ 23 ∧ p.2.2 ≠ 10 ∧ p.2.2 ≠ 33 := by decide
theorem cS_w {X : gX} {S : Nat → Int32} {a i j : Nat} {v : Int32} (h : cS X S) (hi : (a, i, j) ∈ cTab) : cS (X.w a i v) (upd S j v) := by
  intro p hp
  rcases cTab_ap p hp (a, i, j) hi with c | ⟨c1, c2⟩
  · rw [c, upd_at, if_pos rfl]
    exact w_same rfl
  · rw [upd_at, if_neg c2, w_oth c1]
    exact h p hp
theorem cS_o {X : gX} {S : Nat → Int32} {a i : Nat} {v : Int32} (h : cS X S) (hi : (a ≠ 0 ∧ a ≠ 1 ∧ a ≠ 5) ∨ (a = 0 ∧ i = 9)) : cS (X.w a i v) S := by
  intro p hp
  rw [w_oth (by
    rcases hi with hi | hi
    · have := cTab_ix p hp
      exact Or.inl (by omega)
    · rw [hi.1, hi.2]
      exact cTab_09 p hp)]
  exact h p hp
theorem cS_23 {X : gX} {S : Nat → Int32} {v : Int32} (h : cS X S) : cS X (upd S 23 v) := by
  intro p hp
  rw [upd_at, if_neg (cTab_23 p hp).1]
  exact h p hp
theorem cS_fr {X Y : gX} {S : Nat → Int32} (h : cS X S) (e0 : Y.I 0 = X.I 0) (e1 : Y.I 1 = X.I 1) (e5 : Y.I 5 = X.I 5) : cS Y S := by
  intro p hp
  rcases cTab_ix p hp with c | c | c
  · rw [c, e0, ← c]; exact h p hp
  · rw [c, e1, ← c]; exact h p hp
  · rw [c, e5, ← c]; exact h p hp
/-- where the buffer starts -/
def cB (X : gX) (S : Nat → Int32) : Prop := ¬ S 18 = 0 → X.I 0 9 = S 5 - S 23
def cE (X : gX) (A : zA) : Prop := X.I 2 = aE A 0 ∧ X.I 3 = aE A 1 ∧ X.I 4 = aE A 2
/-- a file's row -/
def CF (X : gX) (nm : Nat → Nat) (H : zH) (f : zF) : Prop := X.I (nm f.1) 0 = nI f.1 ∧ X.I (nm f.1) 1 = b2i f.2.1 ∧ X.I (nm f.1) 2 = b2i f.2.2 ∧ X.I (nm f.1) 4 = nI (gTl H f.1) ∧ X.I (nm f.1) 5 = nI (gSt H f.1) ∧ X.I (nm f.1) 6 = nI (gEn H f.1)
/-- the directory: Z are the names of the files that are gone -/
def cTZ (X : gX) (T : List zF) (nm : Nat → Nat) (H : zH) (Z : List Nat) : Prop := (X.I 6 1 = nI T.length ∧ X.I 7 1 = nI Z.length ∧ T.length ≤ X.L 130 ∧ Z.length ≤ X.L 131) ∧ (hl (X.G 130) (T.map (fun f => some (nm f.1))) ∧ hl (X.G 131) (Z.map some)) ∧ ((∀ i, gOf X.N (X.G 130 i) = true) ∧ ∀ i, gOf X.N (X.G 131 i) = true) ∧ ((T.map (fun f => nm f.1) ++ Z).Nodup ∧ (∀ n, n ∈ T.map (fun f => nm f.1) ++ Z → gFile X.N n = true) ∧ T.length + Z.length = X.N) ∧ ∀ f, f ∈ T → CF X nm H f
def cT (X : gX) (T : List zF) (nm : Nat → Nat) (H : zH) : Prop := ∃ Z, cTZ X T nm H Z
def cpq (c p : Nat) : Prop := (c = 12 ∧ p = 16) ∨ (c = 16 ∧ p = 12)
def cR (X : gX) (i : Nat) (nm : Nat → Nat) (V : zV) : Prop := (V.2.2.2.2 = 0 ∧ X.I (26 + 5 * i) 2 = 0) ∨ (¬ V.2.2.2.2 ≤ 0 ∧ X.I (26 + 5 * i) 2 = 1 ∧ X.I (26 + 5 * i) 1 = V.2.2.2.2 ∧ CV X (26 + 5 * i + 1) nm V)
def cC (X : gX) (A : zA) (nm : Nat → Nat) (c p : Nat) : Prop := cpq c p ∧ X.G 0 5 = some c ∧ X.G 0 6 = some p ∧ (¬ aS A 20 ≤ 0 → CV X c nm (aV A 62) ∧ X.G c 3 = some (nm (aV A 62).2.2.1)) ∧ (¬ aS A 19 = 0 → CV X p nm (aV A 70) ∧ X.G p 3 = some (nm (aV A 70).2.2.1))
def cW (X : gX) (A : zA) (nm : Nat → Nat) : Prop := ((¬ aS A 18 = 0 → CV X 8 nm (aV A 54)) ∧ X.G 8 3 = none) ∧ (∃ c p, cC X A nm c p) ∧ ∀ i, i < 4 → cR X i nm (aV A (84 + 8 * i))
def cM (X : gX) (M : List zM) (nm : Nat → Nat) : Prop := ((∀ i, i < 4 → ∃ n, X.G 20 i = some n ∧ gMer n = true) ∧ ∀ i j, i < 4 → j < 4 → X.G 20 i = X.G 20 j → i = j) ∧ ∀ i m, i < 4 → M[i]? = some m → ∃ n, X.G 20 i = some n ∧ gMer n = true ∧ X.I n 0 = nI m.1 ∧ X.I n 1 = nI m.2.2.1 ∧ X.I n 2 = nI m.2.2.2 ∧ X.G n 3 = some (nm m.2.1)
/-- the room -/
def RR (X : gX) (k : Nat) : Prop := (X.N ≤ 60000 ∧ X.L 130 ≤ 100000 ∧ X.L 131 ≤ 100000 ∧ (X.L 130 = 0 ∨ 10 ≤ X.L 130) ∧ (X.L 131 = 0 ∨ 10 ≤ X.L 131)) ∧ 5 * X.cc ≤ 610 + 5 * X.N + X.L 130 + X.L 131 + 5 * k ∧ X.ss ≤ 677754 + 7 * X.N + 4 * (X.L 130 + X.L 131) + 6 * k
/-- the class's rows hold A -/
def RC (X : gX) (A : zA) (nm : Nat → Nat) (k : Nat) : Prop := cS X (aS A) ∧ cB X (aS A) ∧ cE X A ∧ cT X (aT A) nm (aH A) ∧ cW X A nm ∧ cM X (aM A) nm ∧ RR X k
theorem RR_fr {X Y : gX} {k : Nat} (h : RR X k) (e : gEq X Y) : RR Y k := by
  obtain ⟨e1, e2, e3, e4⟩ := e
  unfold RR at h ⊢
  rw [e1, e2, e3, e4]
  exact h
theorem gMer_r {n : Nat} (h : gMer n = true) : 21 ≤ n ∧ n ≤ 24 := by
  unfold gMer at h
  simp only [decide_eq_true_eq, List.mem_cons, List.mem_nil_iff, or_false] at h
  omega
theorem cM_fr {X Y : gX} {M : List zM} {nm : Nat → Nat} (h : cM X M nm) (eI : ∀ a, 21 ≤ a → a ≤ 24 → Y.I a = X.I a) (eG : ∀ a, 20 ≤ a → a ≤ 24 → Y.G a = X.G a) : cM Y M nm := by
  unfold cM at h ⊢
  rw [eG 20 (by omega) (by omega)]
  refine ⟨h.1, fun i m hi hm => ?_⟩
  obtain ⟨n, h1, h2, h3, h4, h5, h6⟩ := h.2 i m hi hm
  have hr := gMer_r h2
  refine ⟨n, h1, h2, ?_⟩
  rw [eI n (by omega) (by omega), eG n (by omega) (by omega)]
  exact ⟨h3, h4, h5, h6⟩
theorem cM_nm {X : gX} {M : List zM} {nm nm' : Nat → Nat} (h : cM X M nm) (e : ∀ m, m ∈ M → nm' m.2.1 = nm m.2.1) : cM X M nm' := by
  refine ⟨h.1, fun i m hi hm => ?_⟩
  obtain ⟨n, h1, h2, h3, h4, h5, h6⟩ := h.2 i m hi hm
  exact ⟨n, h1, h2, h3, h4, h5, by rw [e m (vs_mem hm)]; exact h6⟩
theorem cT_fr {X Y : gX} {T : List zF} {nm : Nat → Nat} {H : zH} (h : cT X T nm H) (e6 : Y.I 6 1 = X.I 6 1) (e7 : Y.I 7 1 = X.I 7 1) (g0 : Y.G 130 = X.G 130) (g1 : Y.G 131 = X.G 131) (e : gEq X Y) (eF : ∀ a j, 1000 ≤ a → j ≠ 3 → Y.I a j = X.I a j) : cT Y T nm H := by
  obtain ⟨Z, h1, h2, h3, h4, h5⟩ := h
  obtain ⟨q1, q2, q3, q4⟩ := e
  refine ⟨Z, ?_, ?_, ?_, ?_, fun f hf => ?_⟩
  · rw [e6, e7, q4]; exact h1
  · rw [g0, g1]; exact h2
  · rw [g0, g1, q3]; exact h3
  · rw [q3]; exact h4
  · have hn := gFile.lo (h4.2.1 (nm f.1) (List.mem_append_left _ (List.mem_map.mpr ⟨f, hf, rfl⟩)))
    obtain ⟨c1, c2, c3, c4, c5, c6⟩ := h5 f hf
    unfold CF
    rw [eF _ 0 hn (by decide), eF _ 1 hn (by decide), eF _ 2 hn (by decide), eF _ 4 hn (by decide), eF _ 5 hn (by decide), eF _ 6 hn (by decide)]
    exact ⟨c1, c2, c3, c4, c5, c6⟩
theorem cW_fr {X Y : gX} {A : zA} {nm : Nat → Nat} {S' : Nat → Int32} (h : cW X A nm) (eI : ∀ a, 8 ≤ a → a < 46 → Y.I a = X.I a) (eG : ∀ a, a < 46 → Y.G a = X.G a) (h18 : ¬ S' 18 = 0 → ¬ aS A 18 = 0) (h19 : ¬ S' 19 = 0 → ¬ aS A 19 = 0) (h20 : ¬ S' 20 ≤ 0 → ¬ aS A 20 ≤ 0) : cW Y (sS A S') nm := by
  obtain ⟨⟨h1, h2⟩, ⟨c, p, k1, k2, k3, k4, k5⟩, h4⟩ := h
  have fr : ∀ v V, 8 ≤ v → v < 43 → CV X v nm V → CV Y v nm V := fun v V a1 a2 q => CV_fr q (eI v (by omega) (by omega)) (eG _ (by omega)) (eG _ (by omega)) (eI _ (by omega) (by omega))
  have k1' : cpq c p := k1
  have k1'' : (c = 12 ∨ c = 16) ∧ (p = 12 ∨ p = 16) := by
    unfold cpq at k1'
    omega
  refine ⟨⟨fun q => fr 8 _ (by omega) (by omega) (h1 (h18 q)), by rw [eG 8 (by omega)]; exact h2⟩, ⟨c, p, k1, ?_, ?_, fun q => ?_, fun q => ?_⟩, fun i hi => ?_⟩
  · rw [eG 0 (by omega)]; exact k2
  · rw [eG 0 (by omega)]; exact k3
  · rw [eG c (by omega)]
    exact ⟨fr c _ (by omega) (by omega) (k4 (h20 q)).1, (k4 (h20 q)).2⟩
  · rw [eG p (by omega)]
    exact ⟨fr p _ (by omega) (by omega) (k5 (h19 q)).1, (k5 (h19 q)).2⟩
  · have q := h4 i hi
    unfold cR at q ⊢
    rw [eI (26 + 5 * i) (by omega) (by omega)]
    rcases q with q | ⟨q1, q2, q3, q4⟩
    · exact Or.inl q
    · exact Or.inr ⟨q1, q2, q3, fr _ _ (by omega) (by omega) q4⟩
theorem RC_sS {X Y : gX} {A : zA} {nm : Nat → Nat} {k : Nat} {S' : Nat → Int32} (h : RC X A nm k) (hS : cS Y S') (hB : cB Y S') (eI : ∀ a, 2 ≤ a → a < 46 → a ≠ 5 → Y.I a = X.I a) (eF : ∀ a j, 1000 ≤ a → j ≠ 3 → Y.I a j = X.I a j) (eG : ∀ a, a ≠ 121 → Y.G a = X.G a) (e : gEq X Y) (h18 : ¬ S' 18 = 0 → ¬ aS A 18 = 0) (h19 : ¬ S' 19 = 0 → ¬ aS A 19 = 0) (h20 : ¬ S' 20 ≤ 0 → ¬ aS A 20 ≤ 0) : RC Y (sS A S') nm k := by
  obtain ⟨q1, q2, q3, q4, q5, q6, q7⟩ := h
  refine ⟨hS, hB, ?_, ?_, ?_, ?_, RR_fr q7 e⟩
  · unfold cE at q3 ⊢
    rw [eI 2 (by omega) (by omega) (by omega), eI 3 (by omega) (by omega) (by omega), eI 4 (by omega) (by omega) (by omega)]
    exact q3
  · exact cT_fr q4 (by rw [eI 6 (by omega) (by omega) (by omega)]) (by rw [eI 7 (by omega) (by omega) (by omega)]) (eG _ (by omega)) (eG _ (by omega)) e eF
  · exact cW_fr q5 (fun a a1 a2 => eI a (by omega) a2 (by omega)) (fun a a1 => eG a (by omega)) h18 h19 h20
  · exact cM_fr q6 (fun a a1 a2 => eI a (by omega) (by omega) (by omega)) (fun a a1 a2 => eG a (by omega))
theorem RC_fr {X Y : gX} {A : zA} {nm : Nat → Nat} {k : Nat} (h : RC X A nm k) (eI : ∀ a, a < 46 → Y.I a = X.I a) (eF : ∀ a j, 1000 ≤ a → j ≠ 3 → Y.I a j = X.I a j) (eG : ∀ a, a ≠ 121 → Y.G a = X.G a) (e : gEq X Y) : RC Y A nm k :=
  RC_sS (S' := aS A) h (cS_fr h.1 (eI 0 (by omega)) (eI 1 (by omega)) (eI 5 (by omega))) (fun q => by rw [eI 0 (by omega)]; exact h.2.1 q) (fun a _ a2 _ => eI a a2) eF eG e id id id
theorem RC_frM {X Y : gX} {A : zA} {nm : Nat → Nat} {k : Nat} (h : RC X A nm k) (e : frM X Y) : RC Y A nm k := RC_fr h (fun a ha => e.1 a (by omega)) (fun a j ha _ => by rw [e.1 a (by omega)]) e.2.1 e.2.2
/-- what the class's calls leave alone -/
def frC (X Y : gX) : Prop := (∀ a, (46 ≤ a ∧ a ≤ 115) ∨ (121 ≤ a ∧ a ≤ 125) → Y.I a = X.I a) ∧ Y.G 121 = X.G 121
theorem frC.rf {X : gX} : frC X X := ⟨fun _ _ => rfl, rfl⟩
theorem frC.tr {X Y Z : gX} (h : frC X Y) (h' : frC Y Z) : frC X Z := ⟨fun a ha => (h'.1 a ha).trans (h.1 a ha), h'.2.trans h.2⟩
theorem frC.w {X Y : gX} {a j : Nat} {v : Int32} (h : frC X Y) (ha : a < 46 ∨ (116 ≤ a ∧ a ≤ 120) ∨ 126 ≤ a) : frC X (Y.w a j v) := ⟨fun c hc => (gX.w_ne (by omega)).trans (h.1 c hc), h.2⟩
theorem frC.g {X Y : gX} {a j : Nat} {v : Option Nat} (h : frC X Y) (ha : a ≠ 121) : frC X (Y.g a j v) := ⟨h.1, (gX.g_ne (fun e => ha e.symm)).trans h.2⟩
theorem RM_frC {X Y : gX} {A : zA} (h : RM X A) (e : frC X Y) : RM Y A := by
  obtain ⟨h1, h2, h3, h4, h5, h6⟩ := h
  refine ⟨mS_fr h1 (e.1 46 (by omega)), mE_fr h2 (e.1 47 (by omega)) (e.1 48 (by omega)) (e.1 49 (by omega)), mT_fr h3 (by rw [e.1 46 (by omega)]) (e.1 50 (by omega)) (e.1 51 (by omega)) (e.1 52 (by omega)), mV_fr h4 (fun a q1 q2 => e.1 a (by omega)) (fun a q1 q2 => e.1 a (by omega)), mB_fr h5 (e.1 78 (by omega)) (e.1 79 (by omega)), mM_fr h6 (fun a q1 q2 => e.1 a (by omega)) (fun a q1 q2 => e.1 a (by omega)) e.2⟩
/-- a segment's file -/
def FI (H : zH) (d k : Nat) : Prop := (H.1 k).Pairwise (· < ·) ∧ (∀ e, e ∈ H.1 k → gSt H k ≤ e ∧ e < gEn H k) ∧ gSt H k ∈ H.1 k ∧ gEn H k ≤ d ∧ gTl H k = (H.1 k).length
/-- a version in order -/
def VI (H : zH) (d w : Nat) (V : zV) : Prop := (∀ x, x ∈ V.1 → FI H d x.1 ∧ x.1 < w ∧ x.2.2 < 1000000 ∧ ∀ k, x.2.1 = some k → k < w ∧ gTl H k = (H.1 x.1).countP (H.2.1 k) ∧ ∀ e, e ∈ H.1 x.1 → V.2.1 e = true → H.2.1 k e = true) ∧ V.1.Pairwise (fun x y => gEn H x.1 ≤ gSt H y.1)
def VC (H : zH) (V : zV) : Prop := ∀ e, V.2.1 e = true → e ∈ fl H.1 V.1
/-- a running merge -/
def MI (A : zA) (m : zM) : Prop := (0 < m.1 ∧ m.1 ≤ gn (aS A 34)) ∧ (FI (aH A) (dc A - bf A) m.2.1 ∧ m.2.1 < wr A ∧ gEn (aH A) m.2.1 = m.2.2.2) ∧ (∀ x, x ∈ (aV A 54).1 → ((m.2.2.1 ≤ gSt (aH A) x.1 ∧ gSt (aH A) x.1 < m.2.2.2) ↔ x.2.2 = m.1)) ∧ (∀ x, x ∈ (aV A 54).1 → x.2.2 = m.1 → gEn (aH A) x.1 ≤ m.2.2.2) ∧ (∃ x, x ∈ (aV A 54).1 ∧ x.2.2 = m.1 ∧ gSt (aH A) x.1 = m.2.2.1) ∧ (∀ e, e ∈ aD A m.2.1 → ∃ x, x ∈ (aV A 54).1 ∧ x.2.2 = m.1 ∧ e ∈ aD A x.1) ∧ ∀ e, m.2.2.1 ≤ e → e < m.2.2.2 → (aV A 54).2.1 e = true → e ∈ aD A m.2.1
def J1 (A : zA) (k : Nat) : Prop := ((aS A 5 = nI (dc A) ∧ dc A ≤ 4096) ∧ (aS A 23 = nI (bf A) ∧ bf A ≤ dc A) ∧ (aS A 11 = nI (wr A) ∧ wr A ≤ 10000 * k)) ∧ ((aS A 25 = nI (gn (aS A 25)) ∧ 2 ≤ gn (aS A 25) ∧ gn (aS A 25) ≤ 64) ∧ (aS A 20 = nI (gn (aS A 20)) ∧ gn (aS A 20) ≤ k) ∧ (aS A 34 = nI (gn (aS A 34)) ∧ gn (aS A 34) ≤ k) ∧ (aS A 32 = nI (gn (aS A 32)) ∧ gn (aS A 32) ≤ k)) ∧ (aS A 30 = nI (aM A).length ∧ (aM A).length ≤ 4) ∧ ((aS A 18 = 0 ∨ aS A 18 = 1) ∧ (aS A 19 = 0 ∨ aS A 19 = 1) ∧ (aS A 14 = 0 ∨ aS A 14 = 1))
def J2 (A : zA) : Prop := TB (aT A) ∧ (∀ f, f ∈ aT A → f.1 < wr A) ∧ (aT A).length ≤ 41000
def J3 (A : zA) : Prop := ∀ n, gVer n = true → n ≠ 54 → VI (aH A) (dc A) (wr A) (aV A n) ∧ VC (aH A) (aV A n)
/-- the writer's lists are those of what it prepared last -/
def WL (A : zA) : Prop := ∀ x, x ∈ (aV A 54).1 → ∀ k, x.2.1 = some k → (¬ aS A 19 = 0 ∧ ∃ y, y ∈ (aV A 70).1 ∧ y.2.1 = some k) ∨ (aS A 19 = 0 ∧ ¬ aS A 20 ≤ 0 ∧ ∃ y, y ∈ (aV A 62).1 ∧ y.2.1 = some k)
def WV (A : zA) : Prop := VI (aH A) (dc A - bf A) (wr A) (aV A 54) ∧ ∀ e, (aV A 54).2.1 e = true → e ∈ fl (aD A) (aV A 54).1 ∨ (dc A - bf A ≤ e ∧ e < dc A)
def WM (A : zA) : Prop := (∀ m, m ∈ aM A → MI A m) ∧ (aM A).Pairwise (fun a b => a.1 < b.1) ∧ ∀ x, x ∈ (aV A 54).1 → ¬ x.2.2 = 0 → ∃ m, m ∈ aM A ∧ m.1 = x.2.2
def WK (A : zA) : Prop := ∀ x, x ∈ (aV A 54).1 → kp (aD A) (aV A 54) x = true
def J4 (A : zA) : Prop := ¬ aS A 18 = 0 → WV A ∧ WK A ∧ WM A ∧ WL A
def SY (t : List zF) (V : zV) : Prop := ∀ k, (inV true V.1 k || decide (k = V.2.2.1)) = true → syn t k = true
def J5 (A : zA) : Prop := HV A (aT A) ∧ (¬ aS A 20 ≤ 0 → SY (aT A) (aV A 62)) ∧ (¬ aS A 19 = 0 → SY (aT A) (aV A 70))
def J6 (A : zA) (k : Nat) : Prop := (aS A 18 = 0 → aM A = [] ∧ aS A 19 = 0) ∧ (¬ aS A 14 = 0 → aS A 18 = 0) ∧ (aS A 14 = 0 → ∀ f, f ∈ aT A → ndd A f.1 = true) ∧ ∀ i, i < 4 → (aV A (84 + 8 * i)).2.2.2.2 = nI (gn (aV A (84 + 8 * i)).2.2.2.2) ∧ gn (aV A (84 + 8 * i)).2.2.2.2 ≤ k
/-- what always holds between calls, behind k of them -/
def Inv (A : zA) (k : Nat) : Prop := J1 A k ∧ J2 A ∧ J3 A ∧ J4 A ∧ J5 A ∧ J6 A k
theorem VB_of {H : zH} {d w : Nat} {V : zV} (h : VI H d w V) (hd : d ≤ 4096) : VB H.1 V ∧ (fl H.1 V.1).Pairwise (· < ·) ∧ ∀ e, e ∈ fl H.1 V.1 → e < d := by
  have key : ∀ l : List zS, (∀ x, x ∈ l → FI H d x.1) → l.Pairwise (fun x y => gEn H x.1 ≤ gSt H y.1) → (fl H.1 l).Pairwise (· < ·) ∧ (∀ e, e ∈ fl H.1 l → (∃ x, x ∈ l ∧ gSt H x.1 ≤ e) ∧ e < d) ∧ l.length ≤ (fl H.1 l).length := by
    intro l
    induction l with
    | nil => intro _ _; exact ⟨List.Pairwise.nil, fun e he => absurd he (by simp [fl]), by simp⟩
    | cons x l ih =>
      intro h1 h2
      obtain ⟨i1, i2, i3⟩ := ih (fun y hy => h1 y (by simp [hy])) (List.pairwise_cons.mp h2).2
      have hx := h1 x (by simp)
      have hp := (List.pairwise_cons.mp h2).1
      rw [show x :: l = [x] ++ l from rfl, fl_app, fl_1]
      refine ⟨List.pairwise_append.mpr ⟨hx.1, i1, fun a ha b hb => ?_⟩, fun e he => ?_, ?_⟩
      · obtain ⟨⟨y, hy, hy2⟩, -⟩ := i2 b hb
        have := (hx.2.1 a ha).2
        have := hp y hy
        omega
      · rcases List.mem_append.mp he with he | he
        · exact ⟨⟨x, by simp, (hx.2.1 e he).1⟩, by have := (hx.2.1 e he).2; have := hx.2.2.2.1; omega⟩
        · obtain ⟨⟨y, hy, hy2⟩, h3⟩ := i2 e he
          exact ⟨⟨y, by simp [hy], hy2⟩, h3⟩
      · have : 0 < (H.1 x.1).length := List.length_pos_of_mem hx.2.2.1
        simp only [List.length_append, List.length_cons, List.length_nil]
        omega
  obtain ⟨k1, k2, k3⟩ := key V.1 (fun x hx => (h.1 x hx).1) h.2
  have k4 : (fl H.1 V.1).length ≤ 4096 := by
    have gen : ∀ (l : List Nat) (s : Nat), l.Pairwise (· < ·) → (∀ e, e ∈ l → s ≤ e ∧ e < 4096) → s ≤ 4096 → l.length + s ≤ 4096 := by
      intro l
      induction l with
      | nil => intro s _ _ hs; simpa using hs
      | cons a l ih =>
        intro s hp hr hs
        have ha := hr a (by simp)
        have := ih (a + 1) (List.pairwise_cons.mp hp).2 (fun e he => ⟨(List.pairwise_cons.mp hp).1 e he, (hr e (by simp [he])).2⟩) (by omega)
        simp only [List.length_cons]
        omega
    have := gen (fl H.1 V.1) 0 k1 (fun e he => ⟨by omega, by have := (k2 e he).2; omega⟩) (by omega)
    omega
  exact ⟨⟨by omega, k4, fun x hx => (h.1 x hx).2.2.1⟩, k1, fun e he => (k2 e he).2⟩
/-- counting over a stretch, where the list has all that hold in it -/
theorem cnt_list {p : Nat → Bool} {s m : Nat} {l : List Nat} (hs : l.Pairwise (· < ·)) (hr : ∀ d, d ∈ l → s ≤ d ∧ d < s + m) (hc : ∀ e, s ≤ e → e < s + m → p e = true → e ∈ l) : cnt p s m = l.countP p := by
  have h1 := cnt_bij (p := p) (q := fun i => p (l.getD i 0)) (d := fun i => l.getD i 0) (s := s) (t := 0) l.length m (fun i hi => by
    rw [Nat.zero_add]
    have := hr (l.getD i 0) (by rw [List.getD_eq_getElem?_getD, List.getElem?_eq_getElem hi]; exact List.getElem_mem hi)
    exact this) (fun i j hij hj => by
    rw [Nat.zero_add, Nat.zero_add]
    show l.getD i 0 < l.getD j 0
    rw [List.getD_eq_getElem?_getD, List.getElem?_eq_getElem (by omega), List.getD_eq_getElem?_getD, List.getElem?_eq_getElem hj]
    exact List.pairwise_iff_getElem.mp hs i j (by omega) hj hij) (fun i hi => rfl) (fun e he1 he2 he3 => by
    obtain ⟨i, hi⟩ := List.getElem?_of_mem (hc e he1 he2 he3)
    exact ⟨i, vs_lt hi, by rw [Nat.zero_add]; show l.getD i 0 = e; rw [List.getD_eq_getElem?_getD, hi]; rfl⟩)
  rw [h1]
  exact cnt_countP (fun i x hx => by
    show p (l.getD (0 + i) 0) = p x
    rw [Nat.zero_add, List.getD_eq_getElem?_getD, hx]
    rfl)
