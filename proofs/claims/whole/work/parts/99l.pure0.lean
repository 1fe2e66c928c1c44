/-! THE PURE SIDE, first rows: loops whose turns are known, numbers, counting -/
theorem gI_from {σ ρ : Type} {body : σ → Option (σ ⊕ ρ)} (st : Nat → σ) (N : Nat) (h : ∀ k, k < N → body (st k) = some (Sum.inl (st (k + 1)))) {r : ρ} (he : body (st N) = some (Sum.inr r)) : ∀ (m j : Nat), j + m = N → ∀ f : Nat, gI body (m + 1 + f) (st j) = some r := by
  intro m
  induction m with
  | zero =>
    intro j hj f
    have e9 : j = N := by omega
    subst e9
    rw [show 0 + 1 + f = f + 1 by omega]
    exact gI_r he
  | succ m ih =>
    intro j hj f
    rw [show m + 1 + 1 + f = (m + 1 + f) + 1 by omega, gI_l (h j (by omega))]
    exact ih (j + 1) (by omega) f
/-- a loop of N turns: st k is its state at the k-th -/
theorem gI_at {σ ρ : Type} {body : σ → Option (σ ⊕ ρ)} (st : Nat → σ) (N : Nat) (hN : N < gK) (h : ∀ k, k < N → body (st k) = some (Sum.inl (st (k + 1)))) {r : ρ} (he : body (st N) = some (Sum.inr r)) {s0 : σ} (h0 : s0 = st 0) : gI body gK s0 = some r := by
  have h1 := gI_from st N h he N 0 (by omega) (gK - (N + 1))
  rw [show N + 1 + (gK - (N + 1)) = gK by omega] at h1
  rw [h0]
  exact h1
theorem gK_lt {n : Nat} (h : n ≤ 100000) : n < gK := by
  have h1 : gK = 1000000 := rfl
  omega
theorem gn_nI {k : Nat} (h : k < 2 ^ 31) : gn (nI k) = k := nI_clamp h
theorem gIn_nI {k n : Nat} (h : k < n) (hn : n < 2 ^ 31) : gIn (nI k) n = true := by
  have h1 := nI_in h hn
  unfold gIn
  by_cases c1 : nI k < 0
  · exact absurd (Or.inl c1) h1
  · by_cases c2 : n ≤ (nI k).toNatClampNeg
    · exact absurd (Or.inr c2) h1
    · simp [c1, c2]
/-- how many of the n places from s on hold -/
def cnt (p : Nat → Bool) (s : Nat) : Nat → Nat
  | 0 => 0
  | n + 1 => cnt p s n + (if p (s + n) then 1 else 0)
theorem cnt_t {p : Nat → Bool} {s n : Nat} (h : p (s + n) = true) : cnt p s (n + 1) = cnt p s n + 1 := by
  show cnt p s n + (if p (s + n) then 1 else 0) = _
  rw [if_pos h]
theorem cnt_f {p : Nat → Bool} {s n : Nat} (h : ¬ p (s + n) = true) : cnt p s (n + 1) = cnt p s n := by
  show cnt p s n + (if p (s + n) then 1 else 0) = _
  rw [if_neg h, Nat.add_zero]
theorem cnt_le {p : Nat → Bool} {s : Nat} : ∀ n, cnt p s n ≤ n
  | 0 => Nat.le_refl _
  | n + 1 => by
    have h := cnt_le (p := p) (s := s) n
    by_cases c : p (s + n) = true
    · rw [cnt_t c]; omega
    · rw [cnt_f c]; omega
theorem cnt_add {p : Nat → Bool} {s a : Nat} : ∀ b, cnt p s (a + b) = cnt p s a + cnt p (s + a) b
  | 0 => rfl
  | b + 1 => by
    have h := cnt_add (p := p) (s := s) (a := a) b
    show cnt p s (a + b) + (if p (s + (a + b)) then 1 else 0) = cnt p s a + (cnt p (s + a) b + (if p (s + a + b) then 1 else 0))
    rw [h, Nat.add_assoc s a b]
    omega
theorem cnt_eq {p q : Nat → Bool} {s : Nat} : ∀ n, (∀ i, i < n → p (s + i) = q (s + i)) → cnt p s n = cnt q s n
  | 0, _ => rfl
  | n + 1, h => by
    show cnt p s n + (if p (s + n) then 1 else 0) = cnt q s n + (if q (s + n) then 1 else 0)
    rw [cnt_eq n (fun i hi => h i (by omega)), h n (by omega)]
theorem cnt_0 {p : Nat → Bool} {s : Nat} : ∀ n, (∀ i, i < n → p (s + i) = false) → cnt p s n = 0
  | 0, _ => rfl
  | n + 1, h => by
    rw [cnt_f (by rw [h n (by omega)]; simp), cnt_0 n (fun i hi => h i (by omega))]
/-- THE SAME COUNT on both sides: d is an increasing way from the n places behind t into the m places behind s, and every place behind s that holds is met -/
theorem cnt_bij {p q : Nat → Bool} {d : Nat → Nat} {s t : Nat} : ∀ (n m : Nat), (∀ i, i < n → s ≤ d (t + i) ∧ d (t + i) < s + m) → (∀ i j, i < j → j < n → d (t + i) < d (t + j)) → (∀ i, i < n → q (t + i) = p (d (t + i))) → (∀ e, s ≤ e → e < s + m → p e = true → ∃ i, i < n ∧ d (t + i) = e) → cnt p s m = cnt q t n
  | 0, m, _, _, _, hc => by
    rw [cnt_0 m (fun i hi => by
      cases hp : p (s + i) with
      | false => rfl
      | true =>
        obtain ⟨j, hj, -⟩ := hc (s + i) (by omega) (by omega) hp
        omega)]
    rfl
  | n + 1, m, hr, hm, hq, hc => by
    have hl := hr n (by omega)
    have h1 : cnt p s (d (t + n) - s) = cnt q t n := cnt_bij n (d (t + n) - s) (fun i hi => ⟨(hr i (by omega)).1, by have := hm i n hi (by omega); omega⟩) (fun i j h1 h2 => hm i j h1 (by omega)) (fun i hi => hq i (by omega)) (fun e h1 h2 h3 => by
      obtain ⟨i, hi, he⟩ := hc e h1 (by omega) h3
      refine ⟨i, ?_, he⟩
      by_cases c : i = n
      · subst c
        omega
      · omega)
    have h2 : cnt p (s + (d (t + n) - s) + 1) (m - (d (t + n) - s) - 1) = 0 := cnt_0 _ (fun i hi => by
      cases hp : p (s + (d (t + n) - s) + 1 + i) with
      | false => rfl
      | true =>
        obtain ⟨j, hj, he⟩ := hc (s + (d (t + n) - s) + 1 + i) (by omega) (by omega) hp
        by_cases c : j = n
        · subst c
          omega
        · have := hm j n (by omega) (by omega)
          omega)
    have e1 : m = (d (t + n) - s) + (1 + (m - (d (t + n) - s) - 1)) := by omega
    rw [e1, cnt_add, cnt_add, h1]
    have e2 : s + (d (t + n) - s) = d (t + n) := by omega
    rw [e2] at h2 ⊢
    rw [h2]
    show cnt q t n + (0 + (if p (d (t + n) + 0) then 1 else 0) + 0) = cnt q t n + (if q (t + n) then 1 else 0)
    rw [hq n (by omega), Nat.add_zero, Nat.zero_add, Nat.add_zero]
/-- a place of an array of booleans is true -/
def lvb (r : Nat → Int32) (e : Nat) : Bool := decide (¬ r e = 0)
theorem lvb_t {r : Nat → Int32} {e : Nat} (h : ¬ r e = 0) : lvb r e = true := decide_eq_true h
theorem lvb_f {r : Nat → Int32} {e : Nat} (h : r e = 0) : ¬ lvb r e = true := fun q => (of_decide_eq_true q) h
theorem s_liveBetween {X : gX} {n a z : Nat} (ha : a ≤ z) (hz : z ≤ 4096) : f_Vi_liveBetween X n (nI a) (nI z) = some (gR.i (nI (cnt (lvb (X.I (n + 3))) a (z - a))), X) := by
  unfold f_Vi_liveBetween
  refine gI_at (fun k => (nI (cnt (lvb (X.I (n + 3))) a k), nI (a + k))) (z - a) (gK_lt (by omega)) (fun k hk => ?_) ?_ rfl
  · show f_Vi_liveBetween_5 X n (nI z) (nI (cnt (lvb (X.I (n + 3))) a k)) (nI (a + k)) = _
    unfold f_Vi_liveBetween_5
    rw [if_neg (nI_ge (by omega) (by omega)), if_pos (gIn_nI (by omega) (by omega)), gn_nI (by omega)]
    by_cases c : X.I (n + 3) (a + k) = 0
    · rw [if_pos c]
      unfold f_Vi_liveBetween_24
      rw [cnt_f (lvb_f c), nI_1]
      rfl
    · rw [if_neg c]
      unfold f_Vi_liveBetween_24
      rw [cnt_t (lvb_t c), nI_1, nI_1]
      rfl
  · show f_Vi_liveBetween_5 X n (nI z) (nI (cnt (lvb (X.I (n + 3))) a (z - a))) (nI (a + (z - a))) = _
    unfold f_Vi_liveBetween_5
    rw [show a + (z - a) = z by omega, if_pos (nI_le (Nat.le_refl _) (by omega))]
    rfl
theorem s_Vi_liveIn {X : gX} {v f a z : Nat} (hf : gFile X.N f = true) (h5 : X.I f 5 = nI a) (h6 : X.I f 6 = nI z) (ha : a ≤ z) (hz : z ≤ 4096) : f_Vi_liveIn X v (some f) = some (gR.i (nI (cnt (lvb (X.I (v + 3))) a (z - a))), X) := by
  unfold f_Vi_liveIn
  show (if gFile X.N f = true then _ else none) = _
  rw [if_pos hf]
  show (if gFile X.N f = true then _ else none) = _
  rw [if_pos hf, h5, h6, s_liveBetween ha hz]
  rfl
theorem s_Ve_docs {X : gX} {n g : Nat} (hg : X.I n 7 = nI g) (h : g < 4098) : f_Ve_docs X n = some (gR.i (X.I (n + 3) g), X) := by
  unfold f_Ve_docs
  rw [hg, if_pos (gIn_nI h (by omega)), gn_nI (by omega)]
theorem s_Ve_liveIn {X : gX} {n s a z : Nat} (h1 : s < 4097) (ha : X.I (n + 3) s = nI a) (hz : X.I (n + 3) (s + 1) = nI z) (haz : a ≤ z) (hz2 : z ≤ 4096) : f_Ve_liveIn X n (nI s) = some (gR.i (nI (cnt (lvb (X.I (n + 6))) a (z - a))), X) := by
  unfold f_Ve_liveIn
  rw [if_pos (gIn_nI (by omega) (by omega)), gn_nI (by omega), ha]
  refine gI_at (fun k => (nI (cnt (lvb (X.I (n + 6))) a k), nI (a + k))) (z - a) (gK_lt (by omega)) (fun k hk => ?_) ?_ rfl
  · show f_Ve_liveIn_9 X n (nI s) (nI (cnt (lvb (X.I (n + 6))) a k)) (nI (a + k)) = _
    unfold f_Ve_liveIn_9
    rw [nI_1, if_pos (gIn_nI (by omega) (by omega)), gn_nI (by omega), hz, if_neg (nI_ge (by omega) (by omega)), if_pos (gIn_nI (by omega) (by omega)), gn_nI (by omega)]
    by_cases c : X.I (n + 6) (a + k) = 0
    · rw [if_pos c]
      unfold f_Ve_liveIn_33
      rw [cnt_f (lvb_f c), nI_1]
      rfl
    · rw [if_neg c]
      unfold f_Ve_liveIn_33
      rw [cnt_t (lvb_t c), nI_1, nI_1]
      rfl
  · show f_Ve_liveIn_9 X n (nI s) (nI (cnt (lvb (X.I (n + 6))) a (z - a))) (nI (a + (z - a))) = _
    unfold f_Ve_liveIn_9
    rw [nI_1, if_pos (gIn_nI (by omega) (by omega)), gn_nI (by omega), hz, show a + (z - a) = z by omega, if_pos (nI_le (Nat.le_refl _) (by omega))]
    rfl
