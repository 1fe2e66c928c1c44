/-! THE PURE SIDE: loops by an invariant; done, wrong, place of the reference -/
theorem gI_wf0 {σ ρ : Type} {body : σ → Option (σ ⊕ ρ)} (I : σ → Prop) (P : ρ → Prop) (m : σ → Nat) (h : ∀ s, I s → (∃ s', body s = some (Sum.inl s') ∧ I s' ∧ m s' < m s) ∨ ∃ r, body s = some (Sum.inr r) ∧ P r) : ∀ (k : Nat) (s : σ), m s < k → I s → ∃ r, gI body k s = some r ∧ P r := by
  intro k
  induction k with
  | zero => intro s hm; exact absurd hm (by omega)
  | succ k ih =>
    intro s hm hI
    rcases h s hI with ⟨s', h1, h2, h3⟩ | ⟨r, h1, h2⟩
    · rw [gI_l h1]
      exact ih s' (by omega) h2
    · exact ⟨r, gI_r h1, h2⟩
/-- a loop whose measure falls -/
theorem gI_wf {σ ρ : Type} {body : σ → Option (σ ⊕ ρ)} (I : σ → Prop) (P : ρ → Prop) (m : σ → Nat) {s0 : σ} (hm : m s0 ≤ 100000) (h0 : I s0) (h : ∀ s, I s → (∃ s', body s = some (Sum.inl s') ∧ I s' ∧ m s' < m s) ∨ ∃ r, body s = some (Sum.inr r) ∧ P r) : ∃ r, gI body gK s0 = some r ∧ P r := gI_wf0 I P m h gK s0 (gK_lt hm) h0
/-- a loop of N turns with an invariant -/
theorem gI_inv {σ ρ : Type} {body : σ → Option (σ ⊕ ρ)} (I : Nat → σ → Prop) (P : ρ → Prop) (N : Nat) (hN : N ≤ 100000) {s0 : σ} (h0 : I 0 s0) (h : ∀ k s, k < N → I k s → ∃ s', body s = some (Sum.inl s') ∧ I (k + 1) s') (he : ∀ s, I N s → ∃ r, body s = some (Sum.inr r) ∧ P r) : ∃ r, gI body gK s0 = some r ∧ P r := by
  have key : ∀ (m k : Nat) (s : σ), k + m = N → I k s → ∀ f, ∃ r, gI body (m + 1 + f) s = some r ∧ P r := by
    intro m
    induction m with
    | zero =>
      intro k s hk hI f
      have e9 : k = N := by omega
      subst e9
      obtain ⟨r, h1, h2⟩ := he s hI
      rw [show 0 + 1 + f = f + 1 by omega]
      exact ⟨r, gI_r h1, h2⟩
    | succ m ih =>
      intro k s hk hI f
      obtain ⟨s', h1, h2⟩ := h k s (by omega) hI
      rw [show m + 1 + 1 + f = (m + 1 + f) + 1 by omega, gI_l h1]
      exact ih (k + 1) s' (by omega) h2 f
  have h1 := gK_lt hN
  have h2 := key N 0 s0 (by omega) h0 (gK - (N + 1))
  rw [show N + 1 + (gK - (N + 1)) = gK by omega] at h2
  exact h2
/-- what writes leave alone -/
theorem gX.w_at {X : gX} {n j a i : Nat} {v : Int32} : (X.w n j v).I a i = if a = n then (if i = j then v else X.I n i) else X.I a i := by
  show (if a = n then upd (X.I n) j v else X.I a) i = _
  by_cases h : a = n
  · rw [if_pos h, if_pos h]
    rfl
  · rw [if_neg h, if_neg h]
theorem upd_upd {f : Nat → Int32} {j : Nat} {x y : Int32} : upd (upd f j x) j y = upd f j y := by
  funext i
  by_cases h : i = j
  · subst h
    rw [pk_us, pk_us]
  · rw [pk_un h, pk_un h, pk_un h]
theorem gX.w_w {X : gX} {n j : Nat} {x y : Int32} : (X.w n j x).w n j y = X.w n j y := by
  have h : (fun a => if a = n then upd ((X.w n j x).I n) j y else (X.w n j x).I a) = fun a => if a = n then upd (X.I n) j y else X.I a := by
    funext a
    by_cases c : a = n
    · rw [if_pos c, if_pos c, gX.w_self, upd_upd]
    · rw [if_neg c, if_neg c, gX.w_ne c]
  show gX.of (fun a => if a = n then upd ((X.w n j x).I n) j y else (X.w n j x).I a) X.G X.L X.N X.cc X.ss = _
  rw [h]
  rfl
/-- done: which of the listed refusals the error is -/
def dnT (err : Int32) (w : Nat → Int32) : Nat → Nat × Nat
  | 0 => (0, 0)
  | k + 1 => if w k = 0 then dnT err w k else if w k = err then ((dnT err w k).1 + 1, (dnT err w k).1 + 1) else ((dnT err w k).1 + 1, (dnT err w k).2)
theorem s_done {X : gX} {v L : Int32} (d w : Nat → Int32) (h : ∀ k, k < 6 → ¬ d k ≤ 0 ∧ ¬ d k = 0 ∧ (L / d k) - (L / d k) / 10 * 10 = w k ∧ d k / 10 = d (k + 1)) (h0 : d 0 = 100000) (h6 : d 6 = 0) : f_Mo_done X v L = some (gR.i (if nI (dnT (X.I 46 0) w 6).2 ≤ 0 then v else 0), (X.w 46 1 (nI (dnT (X.I 46 0) w 6).2)).w 46 0 0) := by
  unfold f_Mo_done
  show gI (fun s : gX × Int32 × Int32 => f_Mo_done_11 s.1 v L s.2.1 s.2.2) gK (X.w 46 1 0, (0 : Int32), (100000 : Int32)) = _
  refine gI_at (fun k => (X.w 46 1 (nI (dnT (X.I 46 0) w k).2), nI (dnT (X.I 46 0) w k).1, d k)) 6 (gK_lt (by decide)) (fun k hk => ?_) ?_ (by rw [h0]; rfl)
  · show f_Mo_done_11 (X.w 46 1 (nI (dnT (X.I 46 0) w k).2)) v L (nI (dnT (X.I 46 0) w k).1) (d k) = _
    obtain ⟨h1, h2, h3, h4⟩ := h k hk
    unfold f_Mo_done_11
    have e0 : (X.w 46 1 (nI (dnT (X.I 46 0) w k).2)).I 46 0 = X.I 46 0 := by
      rw [gX.w_at, if_pos rfl, if_neg (by decide)]
    rw [if_neg h1, if_pos h2, h3, e0]
    by_cases c0 : w k = 0
    · rw [if_pos c0]
      unfold f_Mo_done_50
      have e1 : dnT (X.I 46 0) w (k + 1) = dnT (X.I 46 0) w k := if_pos c0
      rw [e1, h4]
    · rw [if_neg c0]
      by_cases c1 : w k = X.I 46 0
      · rw [if_pos c1]
        have e1 : dnT (X.I 46 0) w (k + 1) = ((dnT (X.I 46 0) w k).1 + 1, (dnT (X.I 46 0) w k).1 + 1) := (if_neg c0).trans (if_pos c1)
        show f_Mo_done_50 ((X.w 46 1 (nI (dnT (X.I 46 0) w k).2)).w 46 1 (nI (dnT (X.I 46 0) w k).1 + 1)) v L (nI (dnT (X.I 46 0) w k).1 + 1) (d k) = _
        unfold f_Mo_done_50
        rw [gX.w_w, e1, h4, nI_1]
      · rw [if_neg c1]
        have e1 : dnT (X.I 46 0) w (k + 1) = ((dnT (X.I 46 0) w k).1 + 1, (dnT (X.I 46 0) w k).2) := (if_neg c0).trans (if_neg c1)
        unfold f_Mo_done_50
        rw [e1, h4, nI_1]
  · show f_Mo_done_11 (X.w 46 1 (nI (dnT (X.I 46 0) w 6).2)) v L (nI (dnT (X.I 46 0) w 6).1) (d 6) = _
    unfold f_Mo_done_11
    rw [h6, if_pos (by decide)]
    show (if ((X.w 46 1 (nI (dnT (X.I 46 0) w 6).2)).w 46 0 0).I 46 1 ≤ 0 then _ else _) = _
    have e1 : ((X.w 46 1 (nI (dnT (X.I 46 0) w 6).2)).w 46 0 0).I 46 1 = nI (dnT (X.I 46 0) w 6).2 := by
      rw [gX.w_at, if_pos rfl, if_neg (by decide), gX.w_at, if_pos rfl, if_pos rfl]
    rw [e1]
    by_cases c : nI (dnT (X.I 46 0) w 6).2 ≤ 0
    · rw [if_pos c, if_pos c]
      rfl
    · rw [if_neg c, if_neg c]
      rfl
def dnD : Nat → Int32 := fun k => ([100000, 10000, 1000, 100, 10, 1] : List Int32).getD k 0
def dnW (l : List Int32) : Nat → Int32 := fun k => l.getD k 0
theorem s_done_0 {X : gX} {v : Int32} : f_Mo_done X v 0 = some (gR.i (if nI (dnT (X.I 46 0) (dnW [0, 0, 0, 0, 0, 0]) 6).2 ≤ 0 then v else 0), (X.w 46 1 (nI (dnT (X.I 46 0) (dnW [0, 0, 0, 0, 0, 0]) 6).2)).w 46 0 0) := s_done dnD (dnW [0, 0, 0, 0, 0, 0]) (by decide +kernel) rfl rfl
theorem s_done_1 {X : gX} {v : Int32} : f_Mo_done X v 1 = some (gR.i (if nI (dnT (X.I 46 0) (dnW [0, 0, 0, 0, 0, 1]) 6).2 ≤ 0 then v else 0), (X.w 46 1 (nI (dnT (X.I 46 0) (dnW [0, 0, 0, 0, 0, 1]) 6).2)).w 46 0 0) := s_done dnD (dnW [0, 0, 0, 0, 0, 1]) (by decide +kernel) rfl rfl
theorem s_done_2 {X : gX} {v : Int32} : f_Mo_done X v 2 = some (gR.i (if nI (dnT (X.I 46 0) (dnW [0, 0, 0, 0, 0, 2]) 6).2 ≤ 0 then v else 0), (X.w 46 1 (nI (dnT (X.I 46 0) (dnW [0, 0, 0, 0, 0, 2]) 6).2)).w 46 0 0) := s_done dnD (dnW [0, 0, 0, 0, 0, 2]) (by decide +kernel) rfl rfl
theorem s_done_3 {X : gX} {v : Int32} : f_Mo_done X v 3 = some (gR.i (if nI (dnT (X.I 46 0) (dnW [0, 0, 0, 0, 0, 3]) 6).2 ≤ 0 then v else 0), (X.w 46 1 (nI (dnT (X.I 46 0) (dnW [0, 0, 0, 0, 0, 3]) 6).2)).w 46 0 0) := s_done dnD (dnW [0, 0, 0, 0, 0, 3]) (by decide +kernel) rfl rfl
theorem s_done_13 {X : gX} {v : Int32} : f_Mo_done X v 13 = some (gR.i (if nI (dnT (X.I 46 0) (dnW [0, 0, 0, 0, 1, 3]) 6).2 ≤ 0 then v else 0), (X.w 46 1 (nI (dnT (X.I 46 0) (dnW [0, 0, 0, 0, 1, 3]) 6).2)).w 46 0 0) := s_done dnD (dnW [0, 0, 0, 0, 1, 3]) (by decide +kernel) rfl rfl
theorem s_done_23 {X : gX} {v : Int32} : f_Mo_done X v 23 = some (gR.i (if nI (dnT (X.I 46 0) (dnW [0, 0, 0, 0, 2, 3]) 6).2 ≤ 0 then v else 0), (X.w 46 1 (nI (dnT (X.I 46 0) (dnW [0, 0, 0, 0, 2, 3]) 6).2)).w 46 0 0) := s_done dnD (dnW [0, 0, 0, 0, 2, 3]) (by decide +kernel) rfl rfl
theorem s_done_26 {X : gX} {v : Int32} : f_Mo_done X v 26 = some (gR.i (if nI (dnT (X.I 46 0) (dnW [0, 0, 0, 0, 2, 6]) 6).2 ≤ 0 then v else 0), (X.w 46 1 (nI (dnT (X.I 46 0) (dnW [0, 0, 0, 0, 2, 6]) 6).2)).w 46 0 0) := s_done dnD (dnW [0, 0, 0, 0, 2, 6]) (by decide +kernel) rfl rfl
theorem s_done_123 {X : gX} {v : Int32} : f_Mo_done X v 123 = some (gR.i (if nI (dnT (X.I 46 0) (dnW [0, 0, 0, 1, 2, 3]) 6).2 ≤ 0 then v else 0), (X.w 46 1 (nI (dnT (X.I 46 0) (dnW [0, 0, 0, 1, 2, 3]) 6).2)).w 46 0 0) := s_done dnD (dnW [0, 0, 0, 1, 2, 3]) (by decide +kernel) rfl rfl
theorem s_done_124 {X : gX} {v : Int32} : f_Mo_done X v 124 = some (gR.i (if nI (dnT (X.I 46 0) (dnW [0, 0, 0, 1, 2, 4]) 6).2 ≤ 0 then v else 0), (X.w 46 1 (nI (dnT (X.I 46 0) (dnW [0, 0, 0, 1, 2, 4]) 6).2)).w 46 0 0) := s_done dnD (dnW [0, 0, 0, 1, 2, 4]) (by decide +kernel) rfl rfl
theorem s_done_1256 {X : gX} {v : Int32} : f_Mo_done X v 1256 = some (gR.i (if nI (dnT (X.I 46 0) (dnW [0, 0, 1, 2, 5, 6]) 6).2 ≤ 0 then v else 0), (X.w 46 1 (nI (dnT (X.I 46 0) (dnW [0, 0, 1, 2, 5, 6]) 6).2)).w 46 0 0) := s_done dnD (dnW [0, 0, 1, 2, 5, 6]) (by decide +kernel) rfl rfl
theorem s_done_12356 {X : gX} {v : Int32} : f_Mo_done X v 12356 = some (gR.i (if nI (dnT (X.I 46 0) (dnW [0, 1, 2, 3, 5, 6]) 6).2 ≤ 0 then v else 0), (X.w 46 1 (nI (dnT (X.I 46 0) (dnW [0, 1, 2, 3, 5, 6]) 6).2)).w 46 0 0) := s_done dnD (dnW [0, 1, 2, 3, 5, 6]) (by decide +kernel) rfl rfl
theorem s_done_123456 {X : gX} {v : Int32} : f_Mo_done X v 123456 = some (gR.i (if nI (dnT (X.I 46 0) (dnW [1, 2, 3, 4, 5, 6]) 6).2 ≤ 0 then v else 0), (X.w 46 1 (nI (dnT (X.I 46 0) (dnW [1, 2, 3, 4, 5, 6]) 6).2)).w 46 0 0) := s_done dnD (dnW [1, 2, 3, 4, 5, 6]) (by decide +kernel) rfl rfl
theorem s_wrong {X : gX} {a c : Int32} : f_Mo_wrong X a c = (if a = 0 then (if X.I 46 0 = 0 then some (gR.i 0, X) else some (gR.i 1, X)) else if X.I 46 0 = 0 then (if c = 0 then some (gR.i 0, X.w 46 0 c) else some (gR.i 1, X.w 46 0 c)) else some (gR.i 1, X)) := by
  unfold f_Mo_wrong f_Mo_wrong_16
  by_cases c1 : a = 0
  · rw [if_pos c1, if_pos c1]
  · rw [if_neg c1, if_neg c1]
    by_cases c2 : X.I 46 0 = 0
    · rw [if_pos c2, if_pos c2]
      show (if (X.w 46 0 c).I 46 0 = 0 then _ else _) = _
      have e1 : (X.w 46 0 c).I 46 0 = c := by rw [gX.w_at, if_pos rfl, if_pos rfl]
      rw [e1]
    · rw [if_neg c2, if_neg c2, if_neg c2]
/-- place: the binary search finds the number where it stands -/
theorem s_place {X : gX} {ft p : Nat} {num : Nat → Nat} (hft : X.I 46 10 = nI ft) (h6 : ft ≤ 60000) (hn : ∀ i, i < ft → X.I 50 i = nI (num i)) (hb : ∀ i, i < ft → num i < 2 ^ 31) (hs : ∀ i j, i < j → j < ft → num i < num j) (hp : p < ft) : f_Mo_place X (nI (num p)) = some (gR.i (nI p), X) := by
  unfold f_Mo_place
  have key := gI_wf (body := fun s : Int32 × Int32 => f_Mo_place_7 X (nI (num p)) s.1 s.2) (fun s => ∃ lo hi : Nat, s = (nI lo, nI hi) ∧ lo ≤ p ∧ p ≤ hi ∧ hi ≤ ft ∧ (lo = hi → p = lo) ∧ (p = hi → hi < ft)) (fun r => r = (gR.i (nI p), X)) (fun s => gn s.2 - gn s.1) (s0 := (0, X.I 46 10)) (by
      rw [hft]
      show gn (nI ft) - gn 0 ≤ 100000
      rw [gn_nI (by omega)]
      omega) ⟨0, ft, by rw [hft]; rfl, by omega, by omega, by omega, by omega, by omega⟩ (fun s hI => by
    obtain ⟨lo, hi, rfl, h1, h2, h3, h4, h5⟩ := hI
    show (∃ s', f_Mo_place_7 X (nI (num p)) (nI lo) (nI hi) = _ ∧ _) ∨ (∃ r, f_Mo_place_7 X (nI (num p)) (nI lo) (nI hi) = _ ∧ _)
    unfold f_Mo_place_7
    by_cases c : hi ≤ lo
    · right
      have e1 : lo = p := by omega
      have e2 : hi = p := by omega
      subst e1
      rw [if_pos (nI_le c (by omega)), hft, if_neg (nI_ge hp (by omega)), if_pos (gIn_nI (by omega) (by omega)), gn_nI (by omega), hn _ hp, if_pos rfl]
      exact ⟨_, rfl, rfl⟩
    · left
      have em : (nI lo + nI hi) / 2 = nI ((lo + hi) / 2) := by
        rw [nI_add]
        exact pk_div (d := 2) (by omega) (by decide) (by decide)
      have hm : (lo + hi) / 2 < ft := by omega
      rw [if_neg (nI_ge (by omega) (by omega)), em, if_pos (gIn_nI (by omega) (by omega)), gn_nI (by omega), hn _ hm]
      by_cases c2 : num p ≤ num ((lo + hi) / 2)
      · rw [if_pos ((nI_leI (hb _ hp) (hb _ hm)).mpr c2)]
        have c3 : p ≤ (lo + hi) / 2 := by
          rcases Nat.lt_or_ge ((lo + hi) / 2) p with h | h
          · have := hs _ _ h hp
            omega
          · exact h
        refine ⟨_, rfl, ⟨lo, (lo + hi) / 2, rfl, h1, c3, by omega, by omega, by omega⟩, ?_⟩
        show gn (nI ((lo + hi) / 2)) - gn (nI lo) < gn (nI hi) - gn (nI lo)
        rw [gn_nI (by omega), gn_nI (by omega), gn_nI (by omega)]
        omega
      · rw [if_neg (fun h => c2 ((nI_leI (hb _ hp) (hb _ hm)).mp h))]
        have c3 : (lo + hi) / 2 < p := by
          rcases Nat.lt_or_ge ((lo + hi) / 2) p with h | h
          · exact h
          · exfalso
            by_cases c4 : p = (lo + hi) / 2
            · rw [← c4] at c2
              omega
            · have := hs p ((lo + hi) / 2) (by omega) hm
              omega
        refine ⟨_, rfl, ⟨(lo + hi) / 2 + 1, hi, by rw [nI_1], by omega, h2, h3, by omega, h5⟩, ?_⟩
        show gn (nI hi) - gn (nI ((lo + hi) / 2) + 1) < gn (nI hi) - gn (nI lo)
        rw [nI_1, gn_nI (by omega), gn_nI (by omega), gn_nI (by omega)]
        omega)
  obtain ⟨r, h1, h2⟩ := key
  rw [h1, h2]
