/-! THE THIRD LAYER, lists: the array of a list is made anew (grow); rows by hand -/
theorem gF_c {D : va_G} {t : Nat → ClassId} {b b' : Nat → Nat} {a : Nat} {r : Nat → Int32} {g : Nat → Option Nat} {L L' : Nat → Nat} {N : Nat} (hs : ∀ k, k < 129 → b' k = b k) (hg : ∀ i, (g i).map b' = (g i).map b) (h6 : a ≠ 6 ∨ (L' 130 = L 130 ∧ b' 130 = b 130)) (h7 : a ≠ 7 ∨ (L' 131 = L 131 ∧ b' 131 = b 131)) (hl : 129 ≤ a → a ≤ 131 → L' a = L a) : gF D t b' a r g L' N = gF D t b a r g L N := by
  by_cases a6 : a = 6
  · subst a6
    rcases h6 with h6 | ⟨e1, e2⟩
    · exact absurd rfl h6
    · rw [gF_6, gF_6, e1, e2]
  by_cases a7 : a = 7
  · subst a7
    rcases h7 with h7 | ⟨e1, e2⟩
    · exact absurd rfl h7
    · rw [gF_7, gF_7, e1, e2]
  by_cases a3 : a = 129 ∨ a = 130 ∨ a = 131
  · have hf : (fun i => (g i).map b') = fun i => (g i).map b := funext hg
    rcases a3 with e | e | e
    · subst e
      have e1 := hl (by decide) (by decide)
      show (if L' 129 = 0 then none else some (Sum.inl (t 7, L' 129, Sum.inr (Sum.inr (Sum.inr (Sum.inr (fun i => (g i).map b'))))))) = (if L 129 = 0 then none else some (Sum.inl (t 7, L 129, Sum.inr (Sum.inr (Sum.inr (Sum.inr (fun i => (g i).map b)))))))
      rw [e1, hf]
    · subst e
      have e1 := hl (by decide) (by decide)
      show (if L' 130 = 0 then none else some (Sum.inl (t 7, L' 130, Sum.inr (Sum.inr (Sum.inr (Sum.inr (fun i => (g i).map b'))))))) = (if L 130 = 0 then none else some (Sum.inl (t 7, L 130, Sum.inr (Sum.inr (Sum.inr (Sum.inr (fun i => (g i).map b)))))))
      rw [e1, hf]
    · subst e
      have e1 := hl (by decide) (by decide)
      show (if L' 131 = 0 then none else some (Sum.inl (t 7, L' 131, Sum.inr (Sum.inr (Sum.inr (Sum.inr (fun i => (g i).map b'))))))) = (if L 131 = 0 then none else some (Sum.inl (t 7, L 131, Sum.inr (Sum.inr (Sum.inr (Sum.inr (fun i => (g i).map b)))))))
      rw [e1, hf]
  have hr1 : ∀ i, (gRd 84 8 i).map b' = (gRd 84 8 i).map b := fun i => by
    unfold gRd
    by_cases q : i < 4
    · rw [if_pos q]
      exact congrArg some (hs _ (by omega))
    · rw [if_neg q]
      rfl
  have hr2 : ∀ i, (gRd 26 5 i).map b' = (gRd 26 5 i).map b := fun i => by
    unfold gRd
    by_cases q : i < 4
    · rw [if_pos q]
      exact congrArg some (hs _ (by omega))
    · rw [if_neg q]
      rfl
  unfold gF gF0 gF1 gF2 gF3 gF4 gF5 gF6 gF7 gF8 gF9 gF10
  simp only [a6, a7, a3, if_false, hg, hr1, hr2, hs 1 (by decide), hs 2 (by decide), hs 3 (by decide), hs 4 (by decide), hs 5 (by decide), hs 6 (by decide), hs 7 (by decide), hs 8 (by decide), hs 9 (by decide), hs 10 (by decide), hs 11 (by decide), hs 13 (by decide), hs 14 (by decide), hs 15 (by decide), hs 17 (by decide), hs 18 (by decide), hs 19 (by decide), hs 20 (by decide), hs 25 (by decide), hs 27 (by decide), hs 28 (by decide), hs 29 (by decide), hs 30 (by decide), hs 32 (by decide), hs 33 (by decide), hs 34 (by decide), hs 35 (by decide), hs 37 (by decide), hs 38 (by decide), hs 39 (by decide), hs 40 (by decide), hs 42 (by decide), hs 43 (by decide), hs 44 (by decide), hs 45 (by decide), hs 47 (by decide), hs 48 (by decide), hs 49 (by decide), hs 50 (by decide), hs 51 (by decide), hs 52 (by decide), hs 53 (by decide), hs 54 (by decide), hs 55 (by decide), hs 56 (by decide), hs 57 (by decide), hs 58 (by decide), hs 59 (by decide), hs 60 (by decide), hs 61 (by decide), hs 62 (by decide), hs 63 (by decide), hs 64 (by decide), hs 65 (by decide), hs 66 (by decide), hs 67 (by decide), hs 68 (by decide), hs 69 (by decide), hs 70 (by decide), hs 71 (by decide), hs 72 (by decide), hs 73 (by decide), hs 74 (by decide), hs 75 (by decide), hs 76 (by decide), hs 77 (by decide), hs 78 (by decide), hs 79 (by decide), hs 80 (by decide), hs 81 (by decide), hs 82 (by decide), hs 83 (by decide), hs 85 (by decide), hs 86 (by decide), hs 87 (by decide), hs 88 (by decide), hs 89 (by decide), hs 90 (by decide), hs 91 (by decide), hs 93 (by decide), hs 94 (by decide), hs 95 (by decide), hs 96 (by decide), hs 97 (by decide), hs 98 (by decide), hs 99 (by decide), hs 101 (by decide), hs 102 (by decide), hs 103 (by decide), hs 104 (by decide), hs 105 (by decide), hs 106 (by decide), hs 107 (by decide), hs 109 (by decide), hs 110 (by decide), hs 111 (by decide), hs 112 (by decide), hs 113 (by decide), hs 114 (by decide), hs 115 (by decide), hs 121 (by decide)]
/-- the thing named 132 becomes k -/
def gm_mv (h : gm_M) (k : Nat) : gm_M := fun a => if a = k then h 132 else if a = 132 then none else h a
theorem gm_S.mv {h : gm_M} {ws : va_W} {k : Nat} (hS : gm_S h ws) (hk : k ≠ 132) : gm_S (gm_mv h k) ws := by
  have key : ∀ (n : Nat) (x : Nat × va_E), gm_mv h k n = some x → n ≠ 132 ∧ h (if n = k then 132 else n) = some x := fun n x hx => by
    unfold gm_mv at hx
    by_cases e : n = k
    · rw [if_pos e] at hx
      rw [if_pos e]
      exact ⟨fun e9 => hk (e.symm.trans e9), hx⟩
    · rw [if_neg e] at hx
      rw [if_neg e]
      by_cases e2 : n = 132
      · rw [if_pos e2] at hx
        cases hx
      · rw [if_neg e2] at hx
        exact ⟨e2, hx⟩
  refine ⟨fun n x hx => hS.1 _ x (key n x hx).2, fun n n' x x' hx hx' e => ?_⟩
  obtain ⟨h1, h2⟩ := key n x hx
  obtain ⟨h3, h4⟩ := key n' x' hx'
  have h5 := hS.2 _ _ x x' h2 h4 e
  by_cases e1 : n = k
  · by_cases e2 : n' = k
    · rw [e1, e2]
    · rw [if_pos e1, if_neg e2] at h5
      exact absurd h5.symm h3
  · by_cases e2 : n' = k
    · rw [if_neg e1, if_pos e2] at h5
      exact absurd h5 h1
    · rw [if_neg e1, if_neg e2] at h5
      exact h5
theorem gLis.or {n : Nat} (h : gLis n = true) : n = 6 ∨ n = 7 := by
  unfold gLis at h
  simp only [decide_eq_true_eq, List.mem_cons, List.mem_nil_iff, or_false] at h
  exact h
theorem gF_132 {D : va_G} {t : Nat → ClassId} {b : Nat → Nat} {r : Nat → Int32} {g : Nat → Option Nat} {L : Nat → Nat} {N : Nat} : gF D t b 132 r g L N = none := rfl
theorem gw.gr {D : va_G} {t : Nat → ClassId} {b : Nat → Nat} {X : gX} {h h2 : gm_M} (hw : gw D t b X h) {n q c : Nat} (hn : gLis n = true) (hc : ¬ c = 0) (e_n : h2 n = some (b n, Sum.inr (3, [Value.ref q, Value.int (X.I n 1), Value.int (X.I n 2)]))) (e_q : h2 132 = some (q, Sum.inl (t 7, c, Sum.inr (Sum.inr (Sum.inr (Sum.inr (fun i => if i < X.L (n + 124) then (X.G (n + 124) i).map b else none))))))) (e_o : ∀ a, a ≠ n → a ≠ 132 → h2 a = h a) : gw D t (fun a => if a = n + 124 then q else b a) (X.gr (n + 124) c) (gm_mv h2 (n + 124)) := by
  have hn2 := gLis.or hn
  obtain ⟨b1, hb1⟩ : ∃ b1 : Nat → Nat, b1 = fun a => if a = n + 124 then q else b a := ⟨_, rfl⟩
  rw [← hb1]
  have hbq : b1 (n + 124) = q := by rw [hb1]; exact if_pos rfl
  have hbo : ∀ m, m ≠ n + 124 → b1 m = b m := fun m hm => by rw [hb1]; exact if_neg hm
  have hbn : ∀ m, gNm X.N m → b1 m = b m := fun m hm => hbo m (by have := hm.2; omega)
  have hGn : (X.gr (n + 124) c).G (n + 124) = fun i => if i < X.L (n + 124) then X.G (n + 124) i else none := if_pos rfl
  have hGo : ∀ a, a ≠ n + 124 → (X.gr (n + 124) c).G a = X.G a := fun a ha => if_neg ha
  have hLn : (X.gr (n + 124) c).L (n + 124) = c := if_pos rfl
  have hLo : ∀ a, a ≠ n + 124 → (X.gr (n + 124) c).L a = X.L a := fun a ha => if_neg ha
  have hmap : ∀ a i, (X.G a i).map b1 = (X.G a i).map b := fun a i => by
    cases hg : X.G a i with
    | none => rfl
    | some m => exact congrArg some (hbn m (hw.2 a i m hg))
  refine ⟨fun a e ha => ?_, fun a i m hm => ?_⟩
  · by_cases an : a = n + 124
    · subst an
      rw [gF_LA hn (by rw [hLn]; exact hc)] at ha
      have he := Option.some.inj ha
      show gm_mv h2 (n + 124) (n + 124) = some (b1 (n + 124), e)
      rw [← he, hbq, hLn, hGn]
      refine (show gm_mv h2 (n + 124) (n + 124) = h2 132 from if_pos rfl).trans ?_
      rw [e_q]
      have hfun : (fun i => if i < X.L (n + 124) then (X.G (n + 124) i).map b else none) = fun i => Option.map b1 (if i < X.L (n + 124) then X.G (n + 124) i else none) := by
        funext i
        by_cases q9 : i < X.L (n + 124)
        · rw [if_pos q9, if_pos q9, hmap]
        · rw [if_neg q9, if_neg q9]
          rfl
      rw [hfun]
    · by_cases a0 : a = n
      · subst a0
        rw [gF_LiA hn (by rw [hLn]; exact hc)] at ha
        have he := Option.some.inj ha
        show gm_mv h2 (a + 124) a = some (b1 a, e)
        rw [← he, hbq, hbo a (by omega)]
        refine (show gm_mv h2 (a + 124) a = h2 a from (if_neg (by omega)).trans (if_neg (by omega))).trans ?_
        exact e_n
      · by_cases a1 : a = 132
        · subst a1
          rw [gF_132] at ha
          cases ha
        · rw [hGo a an] at ha
          have h3 : gF D t b a (X.I a) (X.G a) X.L X.N = some e := by
            rw [← gF_c (b' := b1) (L' := (X.gr (n + 124) c).L) (fun k hk => hbo k (by omega)) (fun i => hmap a i) ?_ ?_ (fun h1 h2 => hLo a an)]
            · exact ha
            · by_cases e6 : a = 6
              · exact Or.inr ⟨hLo _ (by omega), hbo _ (by omega)⟩
              · exact Or.inl e6
            · by_cases e7 : a = 7
              · exact Or.inr ⟨hLo _ (by omega), hbo _ (by omega)⟩
              · exact Or.inl e7
          refine (show gm_mv h2 (n + 124) a = h2 a from (if_neg an).trans (if_neg a1)).trans ?_
          rw [e_o a a0 a1, hbo a an]
          exact hw.1 a e h3
  · by_cases an : a = n + 124
    · subst an
      rw [hGn] at hm
      have hm : (if i < X.L (n + 124) then X.G (n + 124) i else none) = some m := hm
      by_cases q9 : i < X.L (n + 124)
      · rw [if_pos q9] at hm
        exact hw.2 _ i m hm
      · rw [if_neg q9] at hm
        cases hm
    · rw [hGo a an] at hm
      exact hw.2 a i m hm
