/-! THE PURE SIDE: the abstract ledger, and how the reference's rows hold it -/
/-- a file: number, synced, harmed -/
abbrev zF : Type := Nat × Bool × Bool
/-- a merge: number, file, start, end -/
abbrev zM : Type := Nat × Nat × Nat × Nat
/-- by the file's number: its entries, what a list names as live, tells, start, end, the file's name -/
abbrev zH : Type := (Nat → List Nat) × (Nat → Nat → Bool) × (Nat → Nat) × (Nat → Nat) × (Nat → Nat) × (Nat → Nat)
/-- scalars (as the reference's fields), entries, files, versions, merges, and the above -/
abbrev zA : Type := (Nat → Int32) × (Nat → Nat → Int32) × List zF × (Nat → zV) × List zM × zH
abbrev aS (A : zA) : Nat → Int32 := A.1
abbrev aE (A : zA) : Nat → Nat → Int32 := A.2.1
abbrev aT (A : zA) : List zF := A.2.2.1
abbrev aV (A : zA) : Nat → zV := A.2.2.2.1
abbrev aM (A : zA) : List zM := A.2.2.2.2.1
abbrev aH (A : zA) : zH := A.2.2.2.2.2
abbrev aD (A : zA) : Nat → List Nat := A.2.2.2.2.2.1
abbrev aL (A : zA) : Nat → Nat → Bool := A.2.2.2.2.2.2.1
abbrev aTl (A : zA) : Nat → Nat := A.2.2.2.2.2.2.2.1
abbrev aSt (A : zA) : Nat → Nat := A.2.2.2.2.2.2.2.2.1
abbrev aEn (A : zA) : Nat → Nat := A.2.2.2.2.2.2.2.2.2.1
abbrev aNm (A : zA) : Nat → Nat := A.2.2.2.2.2.2.2.2.2.2
abbrev sS (A : zA) (s : Nat → Int32) : zA := (s, A.2)
abbrev sT (A : zA) (t : List zF) : zA := (A.1, A.2.1, t, A.2.2.2)
abbrev sV (A : zA) (v : Nat → zV) : zA := (A.1, A.2.1, A.2.2.1, v, A.2.2.2.2)
abbrev sM (A : zA) (m : List zM) : zA := (A.1, A.2.1, A.2.2.1, A.2.2.2.1, m, A.2.2.2.2.2)
abbrev sH (A : zA) (h : zH) : zA := (A.1, A.2.1, A.2.2.1, A.2.2.2.1, A.2.2.2.2.1, h)
abbrev dc (A : zA) : Nat := gn (A.1 5)
abbrev bf (A : zA) : Nat := gn (A.1 23)
def mS (X : gX) (s : Nat → Int32) : Prop := ∀ j, 2 ≤ j → j ≠ 10 → j ≠ 33 → X.I 46 j = s j
def mE (X : gX) (A : zA) : Prop := X.I 47 = aE A 0 ∧ X.I 48 = aE A 1 ∧ X.I 49 = aE A 2
def mT (X : gX) (t : List zF) : Prop := X.I 46 10 = nI t.length ∧ hl (X.I 50) (t.map (fun f => nI f.1)) ∧ hl (X.I 51) (t.map (fun f => b2i f.2.1)) ∧ hl (X.I 52) (t.map (fun f => b2i f.2.2))
def mV (X : gX) (A : zA) : Prop := ∀ n, gVer n = true → VR X.I n (aD A) (aL A) (aV A n)
def mB (X : gX) (A : zA) : Prop := ∀ k, k < bf A → X.I 78 k = nI (dc A - bf A + k) ∧ X.I 79 k = b2i ((aV A 54).2.1 (dc A - bf A + k))
def mM (X : gX) (A : zA) : Prop := ((∀ i, i < 4 → ∃ r, X.G 121 i = some r ∧ gRow r = true) ∧ ∀ i j, i < 4 → j < 4 → X.G 121 i = X.G 121 j → i = j) ∧ ∀ i m, (aM A)[i]? = some m → X.I 81 i = nI m.1 ∧ X.I 82 i = nI m.2.1 ∧ X.I 80 i = nI (aD A m.2.1).length ∧ ∃ r, X.G 121 i = some r ∧ gRow r = true ∧ hl (X.I r) ((aD A m.2.1).map nI)
/-- the reference's rows hold A -/
def RM (X : gX) (A : zA) : Prop := mS X (aS A) ∧ mE X A ∧ mT X (aT A) ∧ mV X A ∧ mB X A ∧ mM X A
/-- the files' bounds -/
def TB (t : List zF) : Prop := t.length ≤ 60000 ∧ t.Pairwise (fun a b => a.1 < b.1) ∧ ∀ f, f ∈ t → f.1 < 1000000000
theorem TB_sub {t u : List zF} (h : TB t) (s : u.Sublist t) : TB u := ⟨Nat.le_trans s.length_le h.1, h.2.1.sublist s, fun f hf => h.2.2 f (s.subset hf)⟩
theorem mT_fr {X Y : gX} {t : List zF} (h : mT X t) (e0 : Y.I 46 10 = X.I 46 10) (e1 : Y.I 50 = X.I 50) (e2 : Y.I 51 = X.I 51) (e3 : Y.I 52 = X.I 52) : mT Y t := by
  unfold mT at h ⊢
  rw [e0, e1, e2, e3]
  exact h
theorem mS_fr {X Y : gX} {s : Nat → Int32} (h : mS X s) (e : Y.I 46 = X.I 46) : mS Y s := fun j h1 h2 h3 => by rw [e]; exact h j h1 h2 h3
theorem mE_fr {X Y : gX} {A : zA} (h : mE X A) (e1 : Y.I 47 = X.I 47) (e2 : Y.I 48 = X.I 48) (e3 : Y.I 49 = X.I 49) : mE Y A := by
  unfold mE at h ⊢
  rw [e1, e2, e3]
  exact h
theorem gVer_range {n : Nat} (h : gVer n = true) : 54 ≤ n ∧ n ≤ 70 ∨ 84 ≤ n ∧ n ≤ 108 := by
  unfold gVer at h
  simp only [decide_eq_true_eq, List.mem_cons, List.mem_nil_iff, or_false] at h
  omega
theorem gRow_range {n : Nat} (h : gRow n = true) : 122 ≤ n ∧ n ≤ 125 := by
  unfold gRow at h
  simp only [decide_eq_true_eq, List.mem_cons, List.mem_nil_iff, or_false] at h
  omega
theorem mV_fr {X Y : gX} {A : zA} (h : mV X A) (e : ∀ a, 54 ≤ a → a ≤ 77 → Y.I a = X.I a) (e2 : ∀ a, 84 ≤ a → a ≤ 115 → Y.I a = X.I a) : mV Y A := fun n hn => VR_fr (h n hn) (fun a h1 h2 => by
  rcases gVer_range hn with h3 | h3
  · exact e a (by omega) (by omega)
  · exact e2 a (by omega) (by omega))
theorem mB_fr {X Y : gX} {A : zA} (h : mB X A) (e1 : Y.I 78 = X.I 78) (e2 : Y.I 79 = X.I 79) : mB Y A := by
  unfold mB at h ⊢
  rw [e1, e2]
  exact h
theorem mM_fr {X Y : gX} {A : zA} (h : mM X A) (e : ∀ a, 80 ≤ a → a ≤ 82 → Y.I a = X.I a) (e2 : ∀ a, 122 ≤ a → a ≤ 125 → Y.I a = X.I a) (eg : Y.G 121 = X.G 121) : mM Y A := by
  unfold mM at h ⊢
  rw [e 80 (by omega) (by omega), e 81 (by omega) (by omega), e 82 (by omega) (by omega), eg]
  refine ⟨h.1, fun i m hm => ?_⟩
  obtain ⟨h1, h2, h3, r, h4, h5, h6⟩ := h.2 i m hm
  have h7 := gRow_range h5
  exact ⟨h1, h2, h3, r, h4, h5, by rw [e2 r (by omega) (by omega)]; exact h6⟩
/-- what the reference's calls leave alone -/
def frM (X Y : gX) : Prop := (∀ a, a < 46 ∨ 125 < a ∨ (116 ≤ a ∧ a ≤ 120) → Y.I a = X.I a) ∧ (∀ a, a ≠ 121 → Y.G a = X.G a) ∧ gEq X Y
theorem frM.rf {X : gX} : frM X X := ⟨fun _ _ => rfl, fun _ _ => rfl, gEq.rf⟩
theorem frM.tr {X Y Z : gX} (h : frM X Y) (h' : frM Y Z) : frM X Z := ⟨fun c hc => (h'.1 c hc).trans (h.1 c hc), fun c hc => (h'.2.1 c hc).trans (h.2.1 c hc), h.2.2.tr h'.2.2⟩
theorem frM.w {X Y : gX} {a j : Nat} {v : Int32} (h : frM X Y) (ha : 46 ≤ a ∧ a ≤ 125 ∧ (a ≤ 115 ∨ 121 ≤ a)) : frM X (Y.w a j v) := ⟨fun c hc => (gX.w_ne (by omega)).trans (h.1 c hc), h.2.1, h.2.2.w⟩
theorem frM.g {X Y : gX} {j : Nat} {v : Option Nat} (h : frM X Y) : frM X (Y.g 121 j v) := ⟨h.1, fun c hc => (gX.g_ne hc).trans (h.2.1 c hc), h.2.2.g⟩
theorem frM.of {S : Nat → Bool} {X Y : gX} (h : frI S X Y) (hs : ∀ a, S a = true → 46 ≤ a ∧ a ≤ 125 ∧ (a ≤ 115 ∨ 121 ≤ a)) : frM X Y := ⟨fun c hc => h.1 c (by
  cases h9 : S c with
  | false => rfl
  | true => have := hs c h9; omega), fun c _ => by rw [h.2.1], h.2.2⟩
/-- the place of a file that is there -/
theorem z_place {X : gX} {t : List zF} {i : Nat} {f : zF} (h : mT X t) (hb : TB t) (e : t[i]? = some f) : f_Mo_place X (nI f.1) = some (gR.i (nI i), X) := by
  have hi := vs_lt e
  have h1 := s_place (X := X) (ft := t.length) (p := i) (num := fun k => (t.getD k (0, false, false)).1) h.1 hb.1 (fun k hk => by
    obtain ⟨g, hg⟩ := vs_at hk
    have h2 := hl_m h.2.1 hg
    rw [h2, List.getD_eq_getElem?_getD, hg]
    rfl) (fun k hk => by
    obtain ⟨g, hg⟩ := vs_at hk
    have h2 := hb.2.2 g (vs_mem hg)
    show (t.getD k (0, false, false)).1 < 2 ^ 31
    rw [List.getD_eq_getElem?_getD, hg]
    show g.1 < 2 ^ 31
    omega) (fun a b hab hb' => by
    have h3 := List.pairwise_iff_getElem.mp hb.2.1 a b (by omega) hb' hab
    show (t.getD a (0, false, false)).1 < (t.getD b (0, false, false)).1
    rw [List.getD_eq_getElem?_getD, List.getD_eq_getElem?_getD, List.getElem?_eq_getElem (by omega), List.getElem?_eq_getElem hb']
    exact h3) hi
  have e2 : (t.getD i (0, false, false)).1 = f.1 := by
    rw [List.getD_eq_getElem?_getD, e]
    rfl
  simp only [e2] at h1
  exact h1
theorem z_noplace {X : gX} {t : List zF} {v : Int32} (h : mT X t) (hb : TB t) (hv : ∀ f, f ∈ t → nI f.1 ≠ v) : f_Mo_place X v = some (gR.i (-1), X) := by
  have hb1 := hb.1
  unfold f_Mo_place
  have key := gI_wf (body := fun s : Int32 × Int32 => f_Mo_place_7 X v s.1 s.2) (fun s => ∃ lo hi : Nat, s = (nI lo, nI hi) ∧ lo ≤ hi ∧ hi ≤ t.length) (fun r => r = (gR.i (-1), X)) (fun s => gn s.2 - gn s.1) (s0 := (0, X.I 46 10)) (by
      rw [h.1]
      show gn (nI t.length) - gn 0 ≤ 100000
      rw [gn_nI (by omega)]
      omega) ⟨0, t.length, by rw [h.1]; rfl, by omega, by omega⟩ (fun s hI => by
    obtain ⟨lo, hi, rfl, h1, h2⟩ := hI
    show (∃ s', f_Mo_place_7 X v (nI lo) (nI hi) = _ ∧ _) ∨ (∃ r, f_Mo_place_7 X v (nI lo) (nI hi) = _ ∧ _)
    unfold f_Mo_place_7
    by_cases c : hi ≤ lo
    · right
      rw [if_pos (nI_le c (by omega)), h.1]
      by_cases c1 : t.length ≤ lo
      · rw [if_pos (nI_le c1 (by omega))]
        exact ⟨_, rfl, rfl⟩
      · obtain ⟨f, hf⟩ := vs_at (l := t) (s := lo) (by omega)
        have h3 := hl_m h.2.1 hf
        rw [if_neg (nI_ge (by omega) (by omega)), if_pos (gIn_nI (by omega) (by omega)), gn_nI (by omega), h3, if_neg (hv f (vs_mem hf))]
        exact ⟨_, rfl, rfl⟩
    · left
      have em : (nI lo + nI hi) / 2 = nI ((lo + hi) / 2) := by
        rw [nI_add]
        exact pk_div (d := 2) (by omega) (by decide) (by decide)
      rw [if_neg (nI_ge (by omega) (by omega)), em, if_pos (gIn_nI (by omega) (by omega))]
      by_cases c2 : v ≤ X.I 50 (gn (nI ((lo + hi) / 2)))
      · rw [if_pos c2]
        refine ⟨_, rfl, ⟨lo, (lo + hi) / 2, rfl, by omega, by omega⟩, ?_⟩
        show gn (nI ((lo + hi) / 2)) - gn (nI lo) < gn (nI hi) - gn (nI lo)
        rw [gn_nI (by omega), gn_nI (by omega), gn_nI (by omega)]
        omega
      · rw [if_neg c2]
        refine ⟨_, rfl, ⟨(lo + hi) / 2 + 1, hi, by rw [nI_1], by omega, by omega⟩, ?_⟩
        show gn (nI hi) - gn (nI ((lo + hi) / 2) + 1) < gn (nI hi) - gn (nI lo)
        rw [nI_1, gn_nI (by omega), gn_nI (by omega), gn_nI (by omega)]
        omega)
  obtain ⟨r, h1, h2⟩ := key
  rw [h1, h2]
def sKp (a : Nat) : Bool := decide (a = 46 ∨ a = 50 ∨ a = 51 ∨ a = 52)
/-- keepNeeded: the files that are needed stay -/
theorem z_keep {X : gX} {t : List zF} {p : zF → Bool} (h : mT X t) (hb : TB t) (hp : ∀ i f, t[i]? = some f → X.I 53 i = b2i (p f)) :
    ∃ Y, f_Mo_keepNeeded X = some (gR.v, Y) ∧ mT Y (t.filter p) ∧ frI sKp X Y ∧ (∀ j, j ≠ 10 → Y.I 46 j = X.I 46 j) := by
  have hb1 := hb.1
  unfold f_Mo_keepNeeded
  have key := gI_inv (body := fun u : gX × Int32 × Int32 => f_Mo_keepNeeded_4 u.1 u.2.1 u.2.2) (fun k u => ∃ Z, u = (Z, nI ((t.take k).filter p).length, nI k) ∧ frI sKp X Z ∧ Z.I 46 = X.I 46 ∧ (∀ i, k ≤ i → Z.I 50 i = X.I 50 i ∧ Z.I 51 i = X.I 51 i ∧ Z.I 52 i = X.I 52 i) ∧ hl (Z.I 50) (((t.take k).filter p).map (fun f => nI f.1)) ∧ hl (Z.I 51) (((t.take k).filter p).map (fun f => b2i f.2.1)) ∧ hl (Z.I 52) (((t.take k).filter p).map (fun f => b2i f.2.2))) (fun r => ∃ Y, r = (gR.v, Y) ∧ mT Y (t.filter p) ∧ frI sKp X Y ∧ (∀ j, j ≠ 10 → Y.I 46 j = X.I 46 j)) t.length (by omega) (s0 := (X, 0, 0)) ⟨X, rfl, frI.rf, rfl, fun _ _ => ⟨rfl, rfl, rfl⟩, hl_nil, hl_nil, hl_nil⟩ (fun k u hk hI => by
    obtain ⟨Z, rfl, g1, g2, g3, g4, g5, g6⟩ := hI
    show ∃ u', f_Mo_keepNeeded_4 Z (nI ((t.take k).filter p).length) (nI k) = _ ∧ _
    obtain ⟨f, hf⟩ := vs_at hk
    have hle := flt_le (l := t) (p := p) (i := k)
    have h53 : Z.I 53 k = b2i (p f) := by rw [g1.1 53 (by decide)]; exact hp k f hf
    have q50 := hl_m h.2.1 hf
    have q51 := hl_m h.2.2.1 hf
    have q52 := hl_m h.2.2.2 hf
    have e50 : Z.I 50 k = nI f.1 := (g3 k (Nat.le_refl _)).1.trans q50
    have e51 : Z.I 51 k = b2i f.2.1 := (g3 k (Nat.le_refl _)).2.1.trans q51
    have e52 : Z.I 52 k = b2i f.2.2 := (g3 k (Nat.le_refl _)).2.2.trans q52
    unfold f_Mo_keepNeeded_4
    rw [g2, h.1, if_neg (nI_ge (by omega) (by omega)), if_pos (gIn_nI (by omega) (by omega)), gn_nI (by omega), h53]
    cases c : p f with
    | false =>
      rw [if_pos b2i_f]
      refine ⟨_, rfl, Z, ?_, g1, g2, fun i hi => g3 i (by omega), ?_, ?_, ?_⟩
      · rw [nI_1, flt_f hf c]
      · rw [flt_f hf c]; exact g4
      · rw [flt_f hf c]; exact g5
      · rw [flt_f hf c]; exact g6
    | true =>
      have j1 : gIn (nI k) 60000 = true := gIn_nI (by omega) (by omega)
      have j2 : gIn (nI ((t.take k).filter p).length) 60000 = true := gIn_nI (by omega) (by omega)
      rw [if_neg (by rw [b2i_t]; decide)]
      simp only [j1, j2, if_true, gB, gn_nI (show ((t.take k).filter p).length < 2 ^ 31 by omega)]
      rw [w_oth (Or.inl (by decide)), w_oth (Or.inl (by decide)), w_oth (Or.inl (by decide)), e50, e51, e52, b2i_nar, b2i_nar]
      refine ⟨_, rfl, (((Z.w 50 ((t.take k).filter p).length (nI f.1)).w 51 ((t.take k).filter p).length (b2i f.2.1)).w 52 ((t.take k).filter p).length (b2i f.2.2)), ?_, ((g1.w (a := 50) (by decide)).w (a := 51) (by decide)).w (a := 52) (by decide), ?_, fun i hi => ?_, ?_, ?_, ?_⟩
      · rw [nI_1, nI_1, flt_t hf c, List.length_append]
        rfl
      · rw [gX.w_ne (by decide), gX.w_ne (by decide), gX.w_ne (by decide), g2]
      · have := g3 i (by omega)
        refine ⟨?_, ?_, ?_⟩
        · rw [w_oth (Or.inl (by decide)), w_oth (Or.inl (by decide)), w_oth (Or.inr (by omega))]; exact this.1
        · rw [w_oth (Or.inl (by decide)), w_oth (Or.inr (by omega)), w_oth (Or.inl (by decide))]; exact this.2.1
        · rw [w_oth (Or.inr (by omega)), w_oth (Or.inl (by decide)), w_oth (Or.inl (by decide))]; exact this.2.2
      · rw [flt_t hf c, List.map_append]
        refine hl_snoc g4 (fun i hi => ?_) ?_
        · rw [List.length_map] at hi
          rw [w_oth (Or.inl (by decide)), w_oth (Or.inl (by decide)), w_oth (Or.inr (by omega))]
        · rw [List.length_map, w_oth (Or.inl (by decide)), w_oth (Or.inl (by decide)), w_same rfl]
      · rw [flt_t hf c, List.map_append]
        refine hl_snoc g5 (fun i hi => ?_) ?_
        · rw [List.length_map] at hi
          rw [w_oth (Or.inl (by decide)), w_oth (Or.inr (by omega)), w_oth (Or.inl (by decide))]
        · rw [List.length_map, w_oth (Or.inl (by decide)), w_same rfl]
      · rw [flt_t hf c, List.map_append]
        refine hl_snoc g6 (fun i hi => ?_) ?_
        · rw [List.length_map] at hi
          rw [w_oth (Or.inr (by omega)), w_oth (Or.inl (by decide)), w_oth (Or.inl (by decide))]
        · rw [List.length_map, w_same rfl]) (fun u hI => by
    obtain ⟨Z, rfl, g1, g2, g3, g4, g5, g6⟩ := hI
    rw [List.take_length] at g4 g5 g6 ⊢
    show ∃ r, f_Mo_keepNeeded_4 Z (nI (t.filter p).length) (nI t.length) = _ ∧ _
    unfold f_Mo_keepNeeded_4
    rw [g2, h.1, if_pos (nI_le (Nat.le_refl _) (by omega))]
    refine ⟨_, rfl, _, rfl, ⟨?_, ?_, ?_, ?_⟩, g1.w (by decide), fun j hj => ?_⟩
    · rw [w_same rfl]
    · rw [gX.w_ne (by decide)]; exact g4
    · rw [gX.w_ne (by decide)]; exact g5
    · rw [gX.w_ne (by decide)]; exact g6
    · rw [w_oth (Or.inr hj), g2])
  obtain ⟨r, k1, Y, rfl, k3⟩ := key
  rw [k1]
  exact ⟨Y, rfl, k3⟩
