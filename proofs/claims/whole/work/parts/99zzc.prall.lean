/-! THE PURE SIDE: prepare, both sides -/
def ownC (X : gX) : Option (gR × gX) := gCvt (f_Le_act X) (fun E X => some (gR.t E, X)) (fun X5 => gCa (f_Di_newFile X5 0) (fun x6 X6 => (if gOk X6.N x6 then gCvt (f_Le_syncIfNeeded X6 x6) (fun E X => some (gR.t E, X)) (fun X7 => gM (X7.G 0 6) (fun n9 => (if gVie n9 then gCv (f_Vi_copyFrom X7 n9 8) (fun X11 => gM (X11.G 0 6) (fun n12 => (if gVie n12 then (if gOk X11.N x6 then gB (X11.g n12 3 x6) (fun X14 => gB (X14.w 0 8 1) (fun X15 => some (gR.i 1, X15))) else none) else none))) else none))) else none)))
theorem prAll27 (X : gX) : f_Le_prepareAll_27 X = gCvt (f_Le_writeLists X) (fun E X => some (gR.t E, X)) (fun X3 => gCvt (f_Le_syncSegments X3) (fun E X => some (gR.t E, X)) ownC) := rfl
theorem C_own {X : gX} {S : zA} {nm : Nat → Nat} {k k' p : Nat} (h : RC X S nm k') (hm : Mid S k p) (hk : k ≤ 600) (hk' : k' ≤ 600) (hw : wr S + 1 ≤ 10000 * k) : ((prO S).1 = true ∧ ∃ Y nm', ownC X = some (gR.i 1, Y) ∧ RC Y (prO S).2 nm' k' ∧ frC X Y) ∨ ((prO S).1 = false ∧ ∃ Y nm', ownC X = some (gR.t "java/lang/ArithmeticException", Y) ∧ RC Y (prO S).2 nm' k' ∧ frC X Y) := by
  have hTB := hm.2.2.1.1
  unfold ownC prO
  by_cases c : aS S 13 = 0
  · right
    obtain ⟨Y, y1, y2, y3⟩ := C_act0 h hTB hk' c
    rw [if_pos c, y1, gCvt_t]
    exact ⟨rfl, Y, nm, rfl, y2, y3⟩
  obtain ⟨Y, y1, y2, y3⟩ := C_act1 h c
  have ew : wr (aActd S) = wr S := congrArg gn (aActd_S (by decide) (by decide))
  obtain ⟨W, q, w1, w2, w3, w4, w5, w6, w7⟩ := C_new (tl := 0) [] (fun _ => false) y2 (NW_act (NW_mid hm)) (fun f hf => by rw [ew]; exact hm.2.2.1.2.1 f hf) (by rw [ew, aActd_S (by decide) (by decide)]; exact hm.2.1.1.2.2.1) (by have := hm.2.2.1.2.2; show (aT S).length < 59000; omega) hk'
  rw [ew] at w3
  have w3' : RC W (aOwn S) (nmu nm (wr S) q) k' := w3
  have w1' : f_Di_newFile Y 0 = some (gR.a (some q), W) := w1
  have hB : nwB S (aOwn S) [] (fun _ => false) 0 0 0 := nwB_of hm.2.1.1.2.2.1
  obtain ⟨fw, fd, fb, j1, ⟨jt, jt'⟩, j3, ⟨x1, x2, x3⟩, j5, hn⟩ := nw_ok hm hB hw hk
  have hav_w : hav (aT (aOwn S)) (wr S) := ⟨(wr S, false, false), by rw [hB.2.2.2.2.2]; simp, rfl⟩
  have o18 : ¬ aS (aOwn S) 18 = 0 := by rw [hB.1 18 (by decide) (by decide) (by decide)]; exact hm.1
  have eq : some q = some (nmu nm (wr S) q (wr S)) := by rw [nmu_w]
  have fC : frC X W := (y3.C).tr w4
  rw [if_neg c, y1, gCvt_v, w1', gCa_a, if_pos (gOk_f w2)]
  rcases C_sync w3' jt hk' hav_w with ⟨b, Z, z1, z2, z3⟩ | ⟨b, Z, z1, z2, z3⟩
  · left
    rw [if_pos b]
    obtain ⟨k1, k2⟩ := sy1_K hav_w b
    have t1 := (cT_at (RC_T z2) (k1.2.2.2.2.2.2.1 jt) (k1.2.2.2.2.2.1 _ hav_w)).1
    have o18' : ¬ aS (sy1 (wr S) (aOwn S)).2 18 = 0 := by rw [k1.2.2.2.1 18 (by decide) (by decide)]; exact o18
    have hlen : (aV (sy1 (wr S) (aOwn S)).2 54).1.length ≤ 4096 := by
      rw [k1.1]
      exact (VB_of x1.1 (show dc (aOwn S) - bf (aOwn S) ≤ 4096 by have := j1.1.1.2; omega)).1.1
    have hv : hvV true (aT (sy1 (wr S) (aOwn S)).2) (aV (sy1 (wr S) (aOwn S)).2 54) := by
      rw [k1.1]
      have g1 := j5.1.2.2.1 o18
      exact fun x hx => ⟨k1.2.2.2.2.2.1 _ (g1 x hx).1, fun r l hl' => k1.2.2.2.2.2.1 _ ((g1 x hx).2 r l hl')⟩
    obtain ⟨U, u1, u2, u3⟩ := C_prp (w := wr S) z2 o18' hlen (okN_l (RC_T z2) (k1.2.2.2.2.2.2.1 jt) hv) t1
    rw [← eq] at z1 u1
    rw [z1, gCvt_v, u1]
    exact ⟨rfl, U, _, rfl, u2, (fC.tr z3).tr u3⟩
  · right
    rw [← eq] at z1
    rw [if_neg (by rw [b]; simp), z1, gCvt_t]
    exact ⟨b, Z, _, rfl, z2, fC.tr z3⟩
/-- the reference: the end of the loop -/
theorem z_own {E : List Nat} {X : gX} {S : zA} {k p : Nat} (h : RM X S) (hm : MidE E S k p) (hk : k ≤ 600) (hw : wr S + 1 ≤ 10000 * k) : ((prO S).1 = true ∧ ∃ Y, f_Mo_preparing_29 X (nI (aV S 54).1.length) = some (Sum.inr (gR.i (aS (prO S).2 20 + 1), Y)) ∧ RM Y (prO S).2 ∧ frM X Y ∧ Y.I 46 0 = X.I 46 0) ∨ ((prO S).1 = false ∧ ∃ Y, f_Mo_preparing_29 X (nI (aV S 54).1.length) = some (Sum.inr (gR.i 0, Y)) ∧ RM Y (prO S).2 ∧ frM X Y ∧ Y.I 46 0 = 6) := by
  have hTB := hm.2.2.1.1
  have hlen : (aV S 54).1.length ≤ 4096 := (VB_of hm.2.2.2.2.1.1.1 (show dc S - bf S ≤ 4096 by have := hm.2.1.1.1.2; omega)).1.1
  unfold f_Mo_preparing_29 prO
  rw [(RM_V h 54 rfl).1.1, if_pos (nI_le (Nat.le_refl _) (by omega))]
  by_cases c : aS S 13 = 0
  · right
    obtain ⟨Y, y1, y2, y3, y4⟩ := z_write0 h hTB c
    rw [if_pos c, y1, gCi_i, if_pos (by decide)]
    exact ⟨rfl, Y, rfl, y2, y3, y4⟩
  have hp3 := hm.2.1.1.2.2.1
  obtain ⟨W, w1, w2, w3, w4⟩ := z_write1 (H := hU (aH S) (wr S) [] (fun _ => false) 0 0 0) h c (by have := hm.2.2.1.2.2; omega) hp3 (by omega) (GH_of (NW_mid hm) hm.1)
  have w2' : RM W (aOwn S) := w2
  have hB : nwB S (aOwn S) [] (fun _ => false) 0 0 0 := nwB_of hm.2.1.1.2.2.1
  obtain ⟨fw, fd, fb, j1, ⟨jt, jt'⟩, j3, ⟨x1, x2, x3⟩, j5, hn⟩ := nw_okE hm hB hw hk
  have hav_w : hav (aT (aOwn S)) (wr S) := ⟨(wr S, false, false), by rw [hB.2.2.2.2.2]; simp, rfl⟩
  rw [if_neg c, w1, gCi_i, if_neg (nI_pos (by omega))]
  rcases z_sync w2' jt hav_w with ⟨b, Z, z1, z2, z3, z4⟩ | ⟨b, Z, z1, z2, z3, z4⟩
  · left
    rw [if_pos b]
    obtain ⟨k1, k2⟩ := sy1_K hav_w b
    have hB4 : VB (aD (sy1 (wr S) (aOwn S)).2) (aV (sy1 (wr S) (aOwn S)).2 54) := by
      show VB (aH (sy1 (wr S) (aOwn S)).2).1 _
      rw [k1.1, k1.2.2.1]
      exact (VB_of x1.1 (show dc (aOwn S) - bf (aOwn S) ≤ 4096 by have := j1.1.1.2; omega)).1
    obtain ⟨U, u1, u2, u3, u4⟩ := z_prp (w := wr S) z2 hB4
    rw [z1, gCi_i, if_neg (by decide), u1]
    exact ⟨rfl, U, rfl, u2, (w3.tr z3).tr u3, by rw [u4, z4, w4]⟩
  · right
    rw [if_neg (by rw [b]; simp), z1, gCi_i, if_pos rfl]
    exact ⟨b, Z, rfl, z2, w3.tr z3, z4⟩
def prT (A : zA) : Nat × zA := if (wlF (aV A 54).1.length 0 A).1 = true then (if (syF (aV (wlF (aV A 54).1.length 0 A).2 54).1.length 0 (wlF (aV A 54).1.length 0 A).2).1 = true then (if (prO (syF (aV (wlF (aV A 54).1.length 0 A).2 54).1.length 0 (wlF (aV A 54).1.length 0 A).2).2).1 = true then 2 else 0, (prO (syF (aV (wlF (aV A 54).1.length 0 A).2 54).1.length 0 (wlF (aV A 54).1.length 0 A).2).2).2) else (0, (syF (aV (wlF (aV A 54).1.length 0 A).2 54).1.length 0 (wlF (aV A 54).1.length 0 A).2).2)) else (0, (wlF (aV A 54).1.length 0 A).2)
def prR (A : zA) : Nat × zA := if (flR A).1 = true then (if nnw (flR A).2 = true then (1, (flR A).2) else prT (flR A).2) else (0, (flR A).2)
theorem wlF_20 : ∀ (n i : Nat) (A : zA), (wlF n i A).1 = true → aS (wlF n i A).2 20 = aS A 20
  | 0, _, _, _ => rfl
  | n + 1, i, A, h => by
    cases hx : (aV A 54).1[i]? with
    | none => rw [wlF_n hx]
    | some x =>
      rw [wlF_s hx] at h ⊢
      by_cases c1 : lRt (aH A) (aV A 54) x = true
      · rw [if_pos c1] at h ⊢
        exact wlF_20 n (i + 1) A h
      · rw [if_neg c1] at h ⊢
        by_cases c2 : aS A 13 = 0
        · rw [if_pos c2] at h
          cases h
        · rw [if_neg c2] at h ⊢
          rw [wlF_20 n (i + 1) _ h]
          show upd (aS (aActd A)) 11 (aS (aActd A) 11 + 1) 20 = _
          rw [upd_at, if_neg (by decide)]
          exact aActd_S (by decide) (by decide)
theorem prT_ok {A : zA} {k : Nat} (h : Mid A k 0) (hw : wr A + 4097 ≤ 10000 * k) (hk : k ≤ 600) (h19 : aS A 19 = 0) (hb : bf A = 0) : Inv (prT A).2 k ∧ ((prT A).1 = 0 ∨ ((prT A).1 = 2 ∧ ¬ aS (prT A).2 18 = 0 ∧ aS (prT A).2 19 = 1 ∧ aS (prT A).2 20 = aS A 20)) := by
  have hlen : (aV A 54).1.length ≤ 4096 := (VB_of h.2.2.2.2.1.1.1 (show dc A - bf A ≤ 4096 by have := h.2.1.1.1.2; omega)).1.1
  obtain ⟨w1, w2⟩ := wlF_ok hk (aV A 54).1.length 0 A h (by omega)
  have w3 := wlF_20 (aV A 54).1.length 0 A
  unfold prT
  generalize wlF (aV A 54).1.length 0 A = W at w1 w2 w3 ⊢
  by_cases c : W.1 = true
  · obtain ⟨m1, m2, m3, m4⟩ := w1 c
    rw [if_pos c]
    obtain ⟨s1, s2⟩ := syF_ok (aV W.2 54).1.length 0 W.2 m1 (by omega)
    generalize syF (aV W.2 54).1.length 0 W.2 = S at s1 s2 ⊢
    by_cases c2 : S.1 = true
    · obtain ⟨n1, n2, n3⟩ := s1 c2
      rw [if_pos c2]
      have eS := n2.2.2.2.1
      obtain ⟨p1, p2⟩ := prO_ok n1 (by rw [show wr S.2 = wr W.2 from congrArg gn (eS 11 (by decide) (by decide))]; omega) hk (by rw [eS 19 (by decide) (by decide), m4]; exact h19) (by rw [show bf S.2 = bf W.2 from congrArg gn (eS 23 (by decide) (by decide)), m3]; exact hb) (fun x hx => by
        rw [n2.1] at hx
        obtain ⟨t, ht⟩ := List.getElem?_of_mem hx
        exact n3 t x (Nat.zero_le _) ht)
      refine ⟨p1, ?_⟩
      by_cases c3 : (prO S.2).1 = true
      · right
        obtain ⟨a, b, d⟩ := p2 c3
        exact ⟨if_pos c3, a, b, by show aS (prO S.2).2 20 = _; rw [d, eS 20 (by decide) (by decide), w3 c]⟩
      · left
        exact if_neg c3
    · rw [if_neg c2]
      exact ⟨s2 (by simpa using c2), Or.inl rfl⟩
  · rw [if_neg c]
    exact ⟨w2 (by simpa using c), Or.inl rfl⟩
theorem prR_ok {A : zA} {k : Nat} (h : Mid A k 0) (hw : wr A + 4098 ≤ 10000 * k) (hk : k ≤ 600) (h19 : aS A 19 = 0) : Inv (prR A).2 k ∧ ((prR A).1 = 0 ∨ ((prR A).1 = 1 ∧ ¬ aS (prR A).2 18 = 0) ∨ ((prR A).1 = 2 ∧ ¬ aS (prR A).2 18 = 0 ∧ aS (prR A).2 19 = 1 ∧ aS (prR A).2 20 = aS A 20)) := by
  obtain ⟨f1, f2⟩ := Mid_flR h hk (by omega)
  have f3 : (flR A).1 = true → aS (flR A).2 19 = aS A 19 ∧ aS (flR A).2 20 = aS A 20 := fun q => ⟨flR_S q (by decide) (by decide) (by decide) (by decide), flR_S q (by decide) (by decide) (by decide) (by decide)⟩
  unfold prR
  generalize flR A = F at f1 f2 f3 ⊢
  by_cases c : F.1 = true
  · obtain ⟨m1, m2, m3⟩ := f1 c
    rw [if_pos c]
    by_cases c2 : nnw F.2 = true
    · rw [if_pos c2]
      exact ⟨Mid_inv m1, Or.inr (Or.inl ⟨rfl, m1.1⟩)⟩
    · rw [if_neg c2]
      obtain ⟨t1, t2⟩ := prT_ok m1 (by omega) hk (by rw [(f3 c).1]; exact h19) m3
      refine ⟨t1, t2.elim Or.inl (fun q => Or.inr (Or.inr ⟨q.1, q.2.1, q.2.2.1, by rw [q.2.2.2, (f3 c).2]⟩))⟩
  · rw [if_neg c]
    exact ⟨f2 (by simpa using c), Or.inl rfl⟩
