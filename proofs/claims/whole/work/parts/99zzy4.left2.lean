/-! THE PURE SIDE: committing with files left over -/
def cN (E : List Nat) (r : Nat × zA) : Nat × zA := (r.1, if r.1 = 0 then r.2 else xE E r.2)
theorem cP_1 {E : List Nat} {r : Bool × zA} (c : r.1 = true) : (cP E r).2 = xE E r.2 := if_pos c
theorem cP_0 {E : List Nat} {r : Bool × zA} (c : ¬ r.1 = true) : (cP E r).2 = r.2 := if_neg c
theorem GE_inV {E : List Nat} {B : zA} {u : Nat} (g : GE E B) (hu : u ∈ E) : inV true (aV B 54).1 u = false := by
  cases h : inV true (aV B 54).1 u with
  | false => rfl
  | true =>
    unfold inV at h
    obtain ⟨x, x1, x2⟩ := List.any_eq_true.mp h
    simp only [Bool.or_eq_true, Bool.and_eq_true, decide_eq_true_eq, true_and] at x2
    rcases x2 with x2 | x2
    · rw [x2] at hu
      exact absurd hu (g.2.2.1 x x1).1
    · exact absurd hu ((g.2.2.1 x x1).2 u x2)
theorem prO_TB {E : List Nat} {B : zA} {k i : Nat} (hm : MidE E B k i) (hk : k ≤ 600) (hw : wr B + 1 ≤ 10000 * k) : (prO B).1 = true → TB (aT (prO B).2) := by
  have hB : nwB B (aOwn B) [] (fun _ => false) 0 0 0 := nwB_of hm.2.1.1.2.2.1
  obtain ⟨fw, fd, fb, j1, ⟨jt, jt'⟩, j3, ⟨x1, x2, x3⟩, j5, hn⟩ := nw_okE hm hB hw hk
  have hav_w : hav (aT (aOwn B)) (wr B) := ⟨(wr B, false, false), by rw [hB.2.2.2.2.2]; simp, rfl⟩
  unfold prO
  by_cases d : aS B 13 = 0
  · rw [if_pos d]
    intro q
    cases q
  · rw [if_neg d]
    by_cases c : (sy1 (wr B) (aOwn B)).1 = true
    · rw [if_pos c]
      intro _
      obtain ⟨k1, _⟩ := sy1_K hav_w c
      exact k1.2.2.2.2.2.2.1 jt
    · rw [if_neg c]
      exact fun q => absurd q c
theorem prT_xE {E E' : List Nat} {B : zA} {k : Nat} (hm : MidE E' B k 0) (hw : wr B + 4097 ≤ 10000 * k) (hk : k ≤ 600) (g : GE E B) : prT (xE E B) = cN E (prT B) ∧ (¬ (prT B).1 = 0 → GE E (prT B).2 ∧ (aV (prT B).2 70).1 = (aV (prT B).2 54).1 ∧ ¬ (aV (prT B).2 70).2.2.1 ∈ E ∧ TB (aT (prT B).2)) := by
  have hlen : (aV B 54).1.length ≤ 4096 := (VB_of hm.2.2.2.2.1.1.1 (show dc B - bf B ≤ 4096 by have := hm.2.1.1.1.2; omega)).1.1
  have w1 := wlF_okE hk (aV B 54).1.length 0 B hm (by omega)
  obtain ⟨v1, v2⟩ := wlF_xE (E := E) hk (aV B 54).1.length 0 B hm (by omega) g
  unfold prT
  rw [show aV (xE E B) 54 = aV B 54 from rfl, v1]
  generalize wlF (aV B 54).1.length 0 B = W at w1 v2 ⊢
  by_cases c : W.1 = true
  · rw [if_pos c, if_pos (show (cP E W).1 = true from c), cP_1 c]
    obtain ⟨m1, m2, m3, m4⟩ := w1 c
    have s1 := syF_okE (aV W.2 54).1.length 0 W.2 m1 (by omega)
    obtain ⟨t1, t2⟩ := syF_xE (E := E) (aV W.2 54).1.length 0 W.2 (v2 c)
    rw [show aV (xE E W.2) 54 = aV W.2 54 from rfl, t1]
    generalize syF (aV W.2 54).1.length 0 W.2 = S at s1 t2 ⊢
    by_cases d : S.1 = true
    · rw [if_pos d, if_pos (show (cP E S).1 = true from d), cP_1 d]
      obtain ⟨n1, n2, n3⟩ := s1 d
      have hw2 : wr S.2 + 1 ≤ 10000 * k := by rw [show wr S.2 = wr W.2 from congrArg gn (n2.2.2.2.1 11 (by decide) (by decide))]; omega
      obtain ⟨o1, o2⟩ := prO_xE n1 hk hw2 (t2 d)
      have o3 := prO_TB n1 hk hw2
      rw [o1]
      by_cases e : (prO S.2).1 = true
      · refine ⟨?_, fun _ => ⟨(o2 e).1, (o2 e).2.1, (o2 e).2.2, o3 e⟩⟩
        show ((if (prO S.2).1 = true then 2 else 0), (cP E (prO S.2)).2) = cN E ((if (prO S.2).1 = true then 2 else 0), (prO S.2).2)
        rw [if_pos e, cP_1 e]
        rfl
      · refine ⟨?_, fun q => absurd (if_neg e) q⟩
        show ((if (prO S.2).1 = true then 2 else 0), (cP E (prO S.2)).2) = cN E ((if (prO S.2).1 = true then 2 else 0), (prO S.2).2)
        rw [if_neg e, cP_0 e]
        rfl
    · rw [if_neg d, if_neg (show ¬ (cP E S).1 = true from d), cP_0 d]
      exact ⟨rfl, fun q => absurd rfl q⟩
  · rw [if_neg c, if_neg (show ¬ (cP E W).1 = true from c), cP_0 c]
    exact ⟨rfl, fun q => absurd rfl q⟩
theorem prR_xE {E E' : List Nat} {B : zA} {k : Nat} (hm : MidE E' B k 0) (hw : wr B + 4098 ≤ 10000 * k) (hk : k ≤ 600) (g : GE E B) : prR (xE E B) = cN E (prR B) ∧ (¬ (prR B).1 = 0 → GE E (prR B).2 ∧ TB (aT (prR B).2)) ∧ ((prR B).1 = 2 → (aV (prR B).2 70).1 = (aV (prR B).2 54).1 ∧ ¬ (aV (prR B).2 70).2.2.1 ∈ E) := by
  have f1 := Mid_flRE hm hk (by omega)
  obtain ⟨v1, v2⟩ := flR_xE hm hk (by omega) g
  unfold prR
  rw [v1]
  generalize flR B = F at f1 v2 ⊢
  by_cases c : F.1 = true
  · rw [if_pos c, if_pos (show (cP E F).1 = true from c), cP_1 c, show nnw (xE E F.2) = nnw F.2 from rfl]
    obtain ⟨m1, m2, m3⟩ := f1 c
    by_cases d : nnw F.2 = true
    · rw [if_pos d, if_pos d]
      exact ⟨rfl, fun _ => ⟨v2 c, m1.2.2.1.1⟩, fun q => absurd q (by show ¬ (1 : Nat) = 2; omega)⟩
    · rw [if_neg d, if_neg d]
      obtain ⟨p1, p2⟩ := prT_xE m1 (by omega) hk (v2 c)
      exact ⟨p1, fun q => ⟨(p2 q).1, (p2 q).2.2.2⟩, fun q => ⟨(p2 (by omega)).2.1, (p2 (by omega)).2.2.1⟩⟩
  · rw [if_neg c, if_neg (show ¬ (cP E F).1 = true from c), cP_0 c]
    exact ⟨rfl, fun q => absurd rfl q, fun q => absurd q (by show ¬ (0 : Nat) = 2; omega)⟩
theorem coR_xE {E E' : List Nat} {B : zA} {k : Nat} (hm : MidE E' B k 0) (hw : wr B + 4098 ≤ 10000 * k) (hk : k ≤ 600) (g : GE E B) (c : aS B 19 = 0) : coR (xE E B) = cN E (coR B) ∧ (¬ (coR B).1 = 0 → TB (aT (coR B).2) ∧ ∀ e, e ∈ E → nd1 (coR B).2 e = false ∧ nd5 (coR B).2 4 e = false) := by
  obtain ⟨p1, p2, p3⟩ := prR_xE hm hw hk g
  unfold coR
  rw [show aS (xE E B) 19 = aS B 19 from rfl, if_pos c, if_pos c, p1]
  generalize prR B = R at p2 p3 ⊢
  by_cases d : R.1 = 2
  · rw [if_pos d, if_pos (show (cN E R).1 = 2 from d), show (cN E R).2 = xE E R.2 from if_neg (by omega)]
    obtain ⟨q1, q2⟩ := p2 (by omega)
    obtain ⟨r1, r2⟩ := p3 d
    unfold coS cmR
    rw [show aS (xE E R.2) 13 = aS R.2 13 from rfl]
    by_cases e : aS R.2 13 = 0
    · rw [if_pos e, if_pos e, xE_lose q1]
      exact ⟨rfl, fun q => absurd rfl q⟩
    · rw [if_neg e, if_neg e]
      refine ⟨rfl, fun _ => ⟨q2, fun u hu => ⟨?_, ?_⟩⟩⟩
      · have i1 : inV true (aV R.2 70).1 u = false := by rw [r1]; exact GE_inV q1 hu
        have i2 : ¬ u = (aV R.2 70).2.2.1 := fun e => r2 (by rw [← e]; exact hu)
        have i3 : nd1 (aRen (aActd R.2)) u = (!decide (aS (aRen (aActd R.2)) 20 ≤ 0) && (inV true (aV R.2 70).1 u || decide (u = (aV R.2 70).2.2.1))) := rfl
        show nd1 (aRen (aActd R.2)) u = false
        rw [i3, i1]
        simp [i2]
      · rw [show nd5 (aRen (aActd R.2)) 4 u = nd5 R.2 4 u from nd5_V (fun n hn => if_neg (by omega))]
        exact (q1.2.2.2 u hu).2
  · rw [if_neg d, if_neg (show ¬ (cN E R).1 = 2 from d)]
    exact ⟨rfl, fun q => ⟨(p2 q).2, fun u hu => (p2 q).1.2.2.2 u hu⟩⟩
theorem z_coSE {X : gX} {A : zA} (h : RM X A) (hT : TB (aT A)) (hB : VB (aD A) (aV A 70)) : ((coS A).1 = 0 ∧ ∃ Y, f_Mo_committing_28 X = some (gR.i 0, Y) ∧ RM Y (coS A).2 ∧ frM X Y ∧ Y.I 46 0 = 6) ∨ ((coS A).1 = 2 ∧ ∃ Y, f_Mo_committing_28 X = some (gR.i (aS (coS A).2 20), Y) ∧ RM Y (coS A).2 ∧ frM X Y ∧ Y.I 46 0 = X.I 46 0) := by
  unfold coS cmR f_Mo_committing_28
  by_cases c : aS A 13 = 0
  · left
    obtain ⟨Y, y1, y2, y3, y4⟩ := z_act0 h hT c
    rw [if_pos c, y1, gCi_i, if_pos rfl]
    exact ⟨rfl, Y, rfl, y2, y3, y4⟩
  · right
    obtain ⟨Y, y1, y2, y3, y4⟩ := z_act1 h c
    obtain ⟨Z, z1, z2, z3, z4⟩ := z_ren y2 (show VB (aD (aActd A)) (aV (aActd A) 70) from hB)
    rw [if_neg c, y1, gCi_i, if_neg (show ¬ (1 : Int32) = 0 by decide), z1]
    exact ⟨rfl, Z, rfl, z2, y3.tr z3, by rw [z4, y4]⟩
theorem z_coE {E : List Nat} {X : gX} {A : zA} {k : Nat} (h : RM X A) (h0 : X.I 46 0 = 0) (hm : MidE E A k 0) (c : aS A 19 = 0) (hw : wr A + 4098 ≤ 10000 * k) (hk : k ≤ 600) (hq : (prR A).1 = 2 → TB (aT (prR A).2) ∧ ¬ aS (prR A).2 20 + 1 = 0 ∧ VB (aD (prR A).2) (aV (prR A).2 70)) : ((coR A).1 = 0 ∧ ∃ Y v, f_Mo_committing X = some (gR.i v, Y) ∧ RM Y (coR A).2 ∧ frM X Y ∧ Y.I 46 0 = 6) ∨ (¬ (coR A).1 = 0 ∧ ∃ Y, f_Mo_committing X = some (gR.i (aS (coR A).2 20), Y) ∧ RM Y (coR A).2 ∧ frM X Y ∧ Y.I 46 0 = 0) := by
  unfold coR f_Mo_committing
  rw [RM_S h 19 (by decide) (by decide) (by decide), if_pos c, if_pos c]
  rcases z_preparing h hm hk hw with ⟨d, Y, y1, y2, y3, y4⟩ | ⟨d, Y, y1, y2, y3, y4⟩ | ⟨d, Y, y1, y2, y3, y4⟩
  · rw [if_neg (by omega), y1, gCi_i, if_neg (by rw [y4]; decide)]
    exact Or.inl ⟨d, Y, _, rfl, y2, y3, y4⟩
  · rw [if_neg (by omega), y1, gCi_i, if_pos (by rw [y4]; exact h0), if_pos rfl]
    refine Or.inr ⟨by omega, Y, ?_, y2, y3, by rw [y4]; exact h0⟩
    unfold f_Mo_committing_23
    rw [RM_S y2 20 (by decide) (by decide) (by decide)]
  · obtain ⟨q1, q2, q3⟩ := hq d
    rw [if_pos d, y1, gCi_i, if_pos (by rw [y4]; exact h0), if_neg q2]
    rcases z_coSE y2 q1 q3 with ⟨r, Z, z1, z2, z3, z4⟩ | ⟨r, Z, z1, z2, z3, z4⟩
    · rw [z1]
      exact Or.inl ⟨r, Z, _, rfl, z2, y3.tr z3, z4⟩
    · rw [z1]
      exact Or.inr ⟨by omega, Z, rfl, z2, y3.tr z3, by rw [z4, y4]; exact h0⟩
