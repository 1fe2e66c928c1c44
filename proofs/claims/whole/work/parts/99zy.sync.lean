/-! THE PURE SIDE: files are synced, both sides -/
def sy1 (j : Nat) (A : zA) : Bool × zA := if syn (aT A) j = true then (true, A) else if aS A 13 = 0 then (false, aLose A) else (true, aSyn (aActd A) j)
def syO : Option Nat → zA → Bool × zA
  | none, A => (true, A)
  | some l, A => sy1 l A
def syX (x : zS) (A : zA) : Bool × zA := if (sy1 x.1 A).1 = true then syO x.2.1 (sy1 x.1 A).2 else sy1 x.1 A
/-- only flags have changed, and what acts cost -/
def syK (A B : zA) : Prop := aV B = aV A ∧ aM B = aM A ∧ aH B = aH A ∧ (∀ j, j ≠ 12 → j ≠ 13 → aS B j = aS A j) ∧ (∀ j, syn (aT A) j = true → syn (aT B) j = true) ∧ (∀ j, hav (aT A) j → hav (aT B) j) ∧ (TB (aT A) → TB (aT B)) ∧ (aT B).map Prod.fst = (aT A).map Prod.fst
theorem syK.rf {A : zA} : syK A A := ⟨rfl, rfl, rfl, fun _ _ _ => rfl, fun _ h => h, fun _ h => h, id, rfl⟩
theorem syK.tr {A B C : zA} (h : syK A B) (h' : syK B C) : syK A C := ⟨h'.1.trans h.1, h'.2.1.trans h.2.1, h'.2.2.1.trans h.2.2.1, fun j j1 j2 => (h'.2.2.2.1 j j1 j2).trans (h.2.2.2.1 j j1 j2), fun j q => h'.2.2.2.2.1 j (h.2.2.2.2.1 j q), fun j q => h'.2.2.2.2.2.1 j (h.2.2.2.2.2.1 j q), fun q => h'.2.2.2.2.2.2.1 (h.2.2.2.2.2.2.1 q), h'.2.2.2.2.2.2.2.trans h.2.2.2.2.2.2.2⟩
theorem aSyn_map {A : zA} {j : Nat} : aSyn (aActd A) j = sT (aActd A) ((aT (aActd A)).map (syG j)) := rfl
theorem syn_self {t : List zF} {j : Nat} (h : hav t j) : syn (t.map (syG j)) j = true := by
  obtain ⟨f, f1, rfl⟩ := h
  unfold syn
  refine List.any_eq_true.mpr ⟨syG f.1 f, List.mem_map.mpr ⟨f, f1, rfl⟩, ?_⟩
  unfold syG
  rw [if_pos rfl]
  simp
theorem sy1_K {A : zA} {j : Nat} (hj : hav (aT A) j) (h : (sy1 j A).1 = true) : syK A (sy1 j A).2 ∧ syn (aT (sy1 j A).2) j = true := by
  unfold sy1 at h ⊢
  by_cases c : syn (aT A) j = true
  · rw [if_pos c]
    exact ⟨syK.rf, c⟩
  · rw [if_neg c] at h ⊢
    by_cases c0 : aS A 13 = 0
    · rw [if_pos c0] at h
      cases h
    · rw [if_neg c0]
      refine ⟨⟨rfl, rfl, rfl, fun i j1 j2 => aActd_S j1 j2, fun i q => syn_map (syG_fl j) q, fun i q => hav_map (syG_fl j) q, fun q => TB_map (syG_fl j) q, ?_⟩, syn_self hj⟩
      show ((aT A).map (syG j)).map Prod.fst = _
      rw [List.map_map]
      exact List.map_congr_left (fun f _ => (syG_fl j f).1)
theorem sy1_ok {A : zA} {k i j : Nat} (h : Mid A k i) : ((sy1 j A).1 = true → Mid (sy1 j A).2 k i) ∧ ((sy1 j A).1 = false → Inv (sy1 j A).2 k) := by
  unfold sy1
  by_cases c : syn (aT A) j = true
  · rw [if_pos c]
    exact ⟨fun _ => h, fun q => absurd q (by simp)⟩
  · rw [if_neg c]
    by_cases c0 : aS A 13 = 0
    · rw [if_pos c0]
      exact ⟨fun q => absurd q (by simp), fun _ => Mid_lose h⟩
    · rw [if_neg c0]
      exact ⟨fun _ => Mid_map (syG_fl j) (Mid_act h), fun q => absurd q (by simp)⟩
theorem sy1_okE {E : List Nat} {A : zA} {k i j : Nat} (h : MidE E A k i) : (sy1 j A).1 = true → MidE E (sy1 j A).2 k i := by
  unfold sy1
  by_cases c : syn (aT A) j = true
  · rw [if_pos c]
    exact fun _ => h
  · rw [if_neg c]
    by_cases c0 : aS A 13 = 0
    · rw [if_pos c0]
      exact fun q => absurd q (by simp)
    · rw [if_neg c0]
      exact fun _ => Mid_map (syG_fl j) (Mid_act h)
theorem C_sync {X : gX} {A : zA} {nm : Nat → Nat} {k j : Nat} (h : RC X A nm k) (hb : TB (aT A)) (hk : k ≤ 600) (hj : hav (aT A) j) : ((sy1 j A).1 = true ∧ ∃ Y, f_Le_syncIfNeeded X (some (nm j)) = some (gR.v, Y) ∧ RC Y (sy1 j A).2 nm k ∧ frC X Y) ∨ ((sy1 j A).1 = false ∧ ∃ Y, f_Le_syncIfNeeded X (some (nm j)) = some (gR.t "java/lang/ArithmeticException", Y) ∧ RC Y (sy1 j A).2 nm k ∧ frC X Y) := by
  obtain ⟨t1, -, t2, -⟩ := cT_at (RC_T h) hb hj
  have hlo := gFile.lo t1
  have hhi := gFile.hi t1
  unfold f_Le_syncIfNeeded sy1
  rw [gO_s, if_pos t1, t2]
  by_cases c : syn (aT A) j = true
  · left
    rw [if_pos c, c, if_neg (by decide)]
    exact ⟨rfl, X, rfl, h, frC.rf⟩
  · have c' : syn (aT A) j = false := by simpa using c
    have okq : gOk X.N (some (nm j)) = true := by
      unfold gOk
      simp only [Bool.and_eq_true, Bool.or_eq_true, decide_eq_true_eq]
      omega
    rw [if_neg c, c', if_pos b2i_f, if_pos okq]
    by_cases c0 : aS A 13 = 0
    · right
      obtain ⟨Y, y1, y2⟩ := C_act0 h hb hk c0
      rw [if_pos c0, y1, gCvt_t]
      exact ⟨rfl, Y, rfl, y2⟩
    · left
      obtain ⟨Y, y1, y2, y3⟩ := C_act1 h c0
      have t1' : gFile Y.N (nm j) = true := by rw [y3.2.2.2.2.2.1]; exact t1
      have q := RC_sy (A := aActd A) (j := j) y2 hb hj
      rw [if_neg c0, y1, gCvt_v, if_pos t1', gB_b]
      exact ⟨rfl, _, rfl, q, y3.C.w (by omega)⟩
theorem z_sync {X : gX} {A : zA} {j : Nat} (h : RM X A) (hb : TB (aT A)) (hj : hav (aT A) j) : ((sy1 j A).1 = true ∧ ∃ Y, f_Mo_sync X (nI j) = some (gR.i 1, Y) ∧ RM Y (sy1 j A).2 ∧ frM X Y ∧ Y.I 46 0 = X.I 46 0) ∨ ((sy1 j A).1 = false ∧ ∃ Y, f_Mo_sync X (nI j) = some (gR.i 0, Y) ∧ RM Y (sy1 j A).2 ∧ frM X Y ∧ Y.I 46 0 = 6) := by
  unfold sy1
  by_cases c : syn (aT A) j = true
  · left
    rw [if_pos c]
    exact ⟨rfl, X, z_sync1 h hb hj c, h, frM.rf, rfl⟩
  · have c' : syn (aT A) j = false := by simpa using c
    rw [if_neg c]
    by_cases c0 : aS A 13 = 0
    · right
      rw [if_pos c0]
      obtain ⟨Y, y1, y2⟩ := z_sync0 h hb hj c' c0
      exact ⟨rfl, Y, y1, y2⟩
    · left
      rw [if_neg c0]
      obtain ⟨Y, y1, y2⟩ := z_sync2 h hb hj c' c0
      exact ⟨rfl, Y, y1, y2⟩
/-- all segments' files and lists -/
def syF : Nat → Nat → zA → Bool × zA
  | 0, _, A => (true, A)
  | n + 1, i, A => match (aV A 54).1[i]? with
    | none => (true, A)
    | some x => if (syX x A).1 = true then syF n (i + 1) (syX x A).2 else syX x A
theorem syF_s {n i : Nat} {A : zA} {x : zS} (hx : (aV A 54).1[i]? = some x) : syF (n + 1) i A = if (syX x A).1 = true then syF n (i + 1) (syX x A).2 else syX x A := by
  show (match (aV A 54).1[i]? with | none => (true, A) | some x => if (syX x A).1 = true then syF n (i + 1) (syX x A).2 else syX x A) = _
  rw [hx]
theorem syX_K {A : zA} {x : zS} (hx : hav (aT A) x.1) (hl : ∀ l, x.2.1 = some l → hav (aT A) l) (h : (syX x A).1 = true) : syK A (syX x A).2 ∧ syn (aT (syX x A).2) x.1 = true ∧ ∀ l, x.2.1 = some l → syn (aT (syX x A).2) l = true := by
  unfold syX at h ⊢
  by_cases c : (sy1 x.1 A).1 = true
  · obtain ⟨k1, k2⟩ := sy1_K hx c
    rw [if_pos c] at h ⊢
    cases hl9 : x.2.1 with
    | none => exact ⟨k1, k2, fun l hl' => by cases hl'⟩
    | some l =>
      rw [hl9] at h
      obtain ⟨k3, k4⟩ := sy1_K (A := (sy1 x.1 A).2) (j := l) (k1.2.2.2.2.2.1 l (hl l hl9)) h
      exact ⟨k1.tr k3, k3.2.2.2.2.1 _ k2, fun l' hl' => by rw [← Option.some.inj hl']; exact k4⟩
  · rw [if_neg c] at h
    exact absurd h c
theorem syX_ok {A : zA} {k i : Nat} {x : zS} (h : Mid A k i) : ((syX x A).1 = true → Mid (syX x A).2 k i) ∧ ((syX x A).1 = false → Inv (syX x A).2 k) := by
  obtain ⟨s1, s2⟩ := sy1_ok (j := x.1) h
  unfold syX
  by_cases c : (sy1 x.1 A).1 = true
  · rw [if_pos c]
    cases x.2.1 with
    | none => exact ⟨fun _ => s1 c, fun q => absurd q (by simp [syO])⟩
    | some l => exact sy1_ok (s1 c)
  · rw [if_neg c]
    exact ⟨s1, s2⟩
theorem syF_ok {k p : Nat} : ∀ (n i : Nat) (A : zA), Mid A k p → i + n = (aV A 54).1.length → ((syF n i A).1 = true → Mid (syF n i A).2 k p ∧ syK A (syF n i A).2 ∧ ∀ t x, i ≤ t → (aV A 54).1[t]? = some x → syn (aT (syF n i A).2) x.1 = true ∧ ∀ l, x.2.1 = some l → syn (aT (syF n i A).2) l = true) ∧ ((syF n i A).1 = false → Inv (syF n i A).2 k)
  | 0, i, A, h, hi => ⟨fun _ => ⟨h, syK.rf, fun t x ht hx => by have := vs_lt hx; omega⟩, fun q => absurd q (by simp [syF])⟩
  | n + 1, i, A, h, hi => by
    obtain ⟨x, hx⟩ := vs_at (l := (aV A 54).1) (s := i) (by omega)
    rw [syF_s hx]
    obtain ⟨b1, b2⟩ := h.2.2.2.2.2.1.1.2.2.1 h.1 x (vs_mem hx)
    obtain ⟨x1, x2⟩ := syX_ok (x := x) h
    by_cases c : (syX x A).1 = true
    · rw [if_pos c]
      obtain ⟨k1, k2, k3⟩ := syX_K b1 (fun l hl => b2 rfl l hl) c
      have q := syF_ok (k := k) (p := p) n (i + 1) (syX x A).2 (x1 c) (by rw [k1.1]; omega)
      refine ⟨fun b => ?_, q.2⟩
      obtain ⟨q1, q2, q3⟩ := q.1 b
      refine ⟨q1, k1.tr q2, fun t y ht hy => ?_⟩
      by_cases ct : t = i
      · subst ct
        have : y = x := Option.some.inj (hy.symm.trans hx)
        subst this
        exact ⟨q2.2.2.2.2.1 _ k2, fun l hl => q2.2.2.2.2.1 _ (k3 l hl)⟩
      · exact q3 t y (by omega) (by rw [k1.1]; exact hy)
    · rw [if_neg c]
      exact ⟨fun q => absurd q c, x2⟩
theorem syX_okE {E : List Nat} {A : zA} {k i : Nat} {x : zS} (h : MidE E A k i) : (syX x A).1 = true → MidE E (syX x A).2 k i := by
  have s1 := sy1_okE (j := x.1) h
  unfold syX
  by_cases c : (sy1 x.1 A).1 = true
  · rw [if_pos c]
    cases x.2.1 with
    | none => exact fun _ => s1 c
    | some l => exact sy1_okE (s1 c)
  · rw [if_neg c]
    exact s1
theorem syF_okE {E : List Nat} {k p : Nat} : ∀ (n i : Nat) (A : zA), MidE E A k p → i + n = (aV A 54).1.length → ((syF n i A).1 = true → MidE E (syF n i A).2 k p ∧ syK A (syF n i A).2 ∧ ∀ t x, i ≤ t → (aV A 54).1[t]? = some x → syn (aT (syF n i A).2) x.1 = true ∧ ∀ l, x.2.1 = some l → syn (aT (syF n i A).2) l = true)
  | 0, i, A, h, hi => fun _ => ⟨h, syK.rf, fun t x ht hx => by have := vs_lt hx; omega⟩
  | n + 1, i, A, h, hi => by
    obtain ⟨x, hx⟩ := vs_at (l := (aV A 54).1) (s := i) (by omega)
    rw [syF_s hx]
    obtain ⟨b1, b2⟩ := h.2.2.2.2.2.1.1.2.2.1 h.1 x (vs_mem hx)
    have x1 := syX_okE (x := x) h
    by_cases c : (syX x A).1 = true
    · rw [if_pos c]
      obtain ⟨k1, k2, k3⟩ := syX_K b1 (fun l hl => b2 rfl l hl) c
      have q := syF_okE (k := k) (p := p) n (i + 1) (syX x A).2 (x1 c) (by rw [k1.1]; omega)
      refine fun b => ?_
      obtain ⟨q1, q2, q3⟩ := q b
      refine ⟨q1, k1.tr q2, fun t y ht hy => ?_⟩
      by_cases ct : t = i
      · subst ct
        have : y = x := Option.some.inj (hy.symm.trans hx)
        subst this
        exact ⟨q2.2.2.2.2.1 _ k2, fun l hl => q2.2.2.2.2.1 _ (k3 l hl)⟩
      · exact q3 t y (by omega) (by rw [k1.1]; exact hy)
    · rw [if_neg c]
      exact fun q => absurd q c
theorem C_syLoop {X : gX} {A : zA} {nm : Nat → Nat} {k k' p : Nat} (h : RC X A nm k') (hk' : k' ≤ 600) (hm : Mid A k p) : ((syF (aV A 54).1.length 0 A).1 = true ∧ ∃ Y, f_Le_syncSegments X = some (gR.v, Y) ∧ RC Y (syF (aV A 54).1.length 0 A).2 nm k' ∧ frC X Y) ∨ ((syF (aV A 54).1.length 0 A).1 = false ∧ ∃ Y, f_Le_syncSegments X = some (gR.t "java/lang/ArithmeticException", Y) ∧ RC Y (syF (aV A 54).1.length 0 A).2 nm k' ∧ frC X Y) := by
  unfold f_Le_syncSegments
  have hlA : (aV A 54).1.length ≤ 4096 := (VB_of hm.2.2.2.2.1.1.1 (show dc A - bf A ≤ 4096 by have := hm.2.1.1.1.2; omega)).1.1
  have key9 := gI_wf (body := fun s : gX × Int32 => f_Le_syncSegments_2 s.1 s.2) (fun s => ∃ Z B i, s = (Z, nI i) ∧ i ≤ (aV A 54).1.length ∧ aV B 54 = aV A 54 ∧ syF ((aV A 54).1.length - i) i B = syF (aV A 54).1.length 0 A ∧ RC Z B nm k' ∧ frC X Z ∧ Mid B k p) (fun r => ((syF (aV A 54).1.length 0 A).1 = true ∧ ∃ Y, r = (gR.v, Y) ∧ RC Y (syF (aV A 54).1.length 0 A).2 nm k' ∧ frC X Y) ∨ ((syF (aV A 54).1.length 0 A).1 = false ∧ ∃ Y, r = (gR.t "java/lang/ArithmeticException", Y) ∧ RC Y (syF (aV A 54).1.length 0 A).2 nm k' ∧ frC X Y)) (fun s => (aV A 54).1.length - gn s.2) (s0 := (X, 0)) (by show (aV A 54).1.length - gn 0 ≤ 100000; omega) ⟨X, A, 0, rfl, by omega, rfl, by rw [Nat.sub_zero], h, frC.rf, hm⟩ (fun s hI => by
    obtain ⟨Z, B, i, rfl, i1, il, i2, i3, i4, i5⟩ := hI
    show (∃ s', f_Le_syncSegments_2 Z (nI i) = _ ∧ _) ∨ (∃ r, f_Le_syncSegments_2 Z (nI i) = _ ∧ _)
    have hCV := (RC_W i3).1.1 i5.1
    rw [il] at hCV
    unfold f_Le_syncSegments_2
    rw [hCV.1]
    by_cases c : (aV A 54).1.length ≤ i
    · right
      have e : (aV A 54).1.length - i = 0 := by omega
      rw [e] at i2
      have i2' : (true, B) = syF (aV A 54).1.length 0 A := i2
      rw [if_pos (nI_le (by omega) (by omega)), gLf_s]
      refine ⟨_, rfl, Or.inl ⟨by rw [← i2'], Z, rfl, ?_, i4⟩⟩
      rw [← i2']; exact i3
    · obtain ⟨m, hmm⟩ : ∃ m, (aV A 54).1.length - i = m + 1 := ⟨(aV A 54).1.length - i - 1, by omega⟩
      rw [hmm] at i2
      obtain ⟨x, hx⟩ := vs_at (l := (aV A 54).1) (s := i) (by omega)
      rw [syF_s (by rw [il]; exact hx)] at i2
      obtain ⟨b1, b2⟩ := i5.2.2.2.2.2.1.1.2.2.1 i5.1 x (by rw [il]; exact vs_mem hx)
      obtain ⟨x1, x2⟩ := hCV.2.2.1 i x hx
      obtain ⟨o1, o2⟩ := syX_ok (x := x) i5
      have hmeas : (aV A 54).1.length - gn (nI (i + 1)) < (aV A 54).1.length - gn (nI i) := by
        rw [gn_nI (by omega), gn_nI (by omega)]
        omega
      have j1 : gIn (nI i) 4096 = true := gIn_nI (by omega) (by omega)
      have g9 : Z.G 9 (gn (nI i)) = some (nm x.1) := by rw [gn_nI (by omega)]; exact x1
      rw [if_neg (nI_ge (by omega) (by omega)), if_pos j1, g9]
      rcases C_sync i3 i5.2.2.1.1 hk' b1 with ⟨c1, Y, y1, y2, y3⟩ | ⟨c1, Y, y1, y2, y3⟩
      · obtain ⟨k1, k2⟩ := sy1_K b1 c1
        have hm1 := (sy1_ok (j := x.1) i5).1 c1
        have hCY := (RC_W y2).1.1 hm1.1
        rw [k1.1, il] at hCY
        have g10 : Y.G 10 (gn (nI i)) = x.2.1.map nm := by rw [gn_nI (by omega)]; exact (hCY.2.2.1 i x hx).2
        have eX : syX x B = syO x.2.1 (sy1 x.1 B).2 := by unfold syX; rw [if_pos c1]
        rw [y1, gCvt_v, if_pos j1, g10, nI_1]
        cases hl9 : x.2.1 with
        | none =>
          left
          rw [hl9] at eX
          have eX' : syX x B = (true, (sy1 x.1 B).2) := eX
          rw [eX', if_pos rfl] at i2
          rw [Option.map_none]
          refine ⟨(Y, nI (i + 1)), rfl, ⟨Y, (sy1 x.1 B).2, i + 1, rfl, by omega, by rw [k1.1]; exact il, by rw [show (aV A 54).1.length - (i + 1) = m by omega]; exact i2, y2, i4.tr y3, hm1⟩, hmeas⟩
        | some l =>
          rw [hl9] at eX
          have eX' : syX x B = sy1 l (sy1 x.1 B).2 := eX
          rw [eX'] at i2
          rw [Option.map_some]
          rcases C_sync y2 hm1.2.2.1.1 hk' (k1.2.2.2.2.2.1 l (b2 rfl l hl9)) with ⟨c2, W, w1, w2, w3⟩ | ⟨c2, W, w1, w2, w3⟩
          · left
            obtain ⟨k3, k4⟩ := sy1_K (k1.2.2.2.2.2.1 l (b2 rfl l hl9)) c2
            rw [if_pos c2] at i2
            rw [w1, gCvt_v]
            exact ⟨_, rfl, ⟨W, (sy1 l (sy1 x.1 B).2).2, i + 1, rfl, by omega, by rw [k3.1, k1.1]; exact il, by rw [show (aV A 54).1.length - (i + 1) = m by omega]; exact i2, w2, (i4.tr y3).tr w3, (sy1_ok (j := l) hm1).1 c2⟩, hmeas⟩
          · right
            rw [if_neg (by rw [c2]; simp)] at i2
            rw [w1, gCvt_t, gLf_s]
            refine ⟨_, rfl, Or.inr ⟨by rw [← i2]; exact c2, W, rfl, ?_, (i4.tr y3).tr w3⟩⟩
            rw [← i2]; exact w2
      · right
        have eX : syX x B = sy1 x.1 B := by unfold syX; rw [if_neg (by rw [c1]; simp)]
        rw [eX, if_neg (by rw [c1]; simp)] at i2
        rw [y1, gCvt_t, gLf_s]
        refine ⟨_, rfl, Or.inr ⟨by rw [← i2]; exact c1, Y, rfl, ?_, i4.tr y3⟩⟩
        rw [← i2]; exact y2)
  obtain ⟨r, k1, k2⟩ := key9
  rcases k2 with ⟨b, Y, rfl, q⟩ | ⟨b, Y, rfl, q⟩
  · exact Or.inl ⟨b, Y, k1, q⟩
  · exact Or.inr ⟨b, Y, k1, q⟩
/-- one turn of the reference's syncing -/
theorem z_syTurn {E : List Nat} {X : gX} {A : zA} {k p i : Nat} {x : zS} (h : RM X A) (hm : MidE E A k p) (hx : (aV A 54).1[i]? = some x) (hl : (aV A 54).1.length ≤ 4096) : ((syX x A).1 = true ∧ ∃ Y, f_Mo_preparing_29 X (nI i) = some (Sum.inl (Y, nI (i + 1))) ∧ RM Y (syX x A).2 ∧ frM X Y ∧ Y.I 46 0 = X.I 46 0) ∨ ((syX x A).1 = false ∧ ∃ Y, f_Mo_preparing_29 X (nI i) = some (Sum.inr (gR.i 0, Y)) ∧ RM Y (syX x A).2 ∧ frM X Y ∧ Y.I 46 0 = 6) := by
  have hV := RM_V h 54 rfl
  have hlt := vs_lt hx
  have j1 : gIn (nI i) 4097 = true := gIn_nI (by omega) (by omega)
  obtain ⟨b1, b2⟩ := hm.2.2.2.2.2.1.1.2.2.1 hm.1 x (vs_mem hx)
  have q55 : X.I 55 i = nI x.1 := hl_m (g := fun x : zS => nI x.1) hV.2.1.1 hx
  unfold f_Mo_preparing_29 f_Mo_preparing_88
  rw [hV.1.1, if_neg (nI_ge hlt (by omega)), if_pos j1, gn_nI (by omega), q55]
  rcases z_sync h hm.2.2.1.1 b1 with ⟨c1, Y, y1, y2, y3, y4⟩ | ⟨c1, Y, y1, y2, y3, y4⟩
  · obtain ⟨k1, k2⟩ := sy1_K b1 c1
    have hm1 := sy1_okE (j := x.1) hm c1
    have q56 : Y.I 56 i = li x.2.1 := hl_m (g := fun x : zS => li x.2.1) (RM_V y2 54 rfl).2.1.2.1 (by rw [k1.1]; exact hx)
    have eX : syX x A = syO x.2.1 (sy1 x.1 A).2 := by unfold syX; rw [if_pos c1]
    rw [y1, gCi_i, if_neg (by decide), if_pos j1, q56, nI_1]
    cases hl9 : x.2.1 with
    | none =>
      left
      rw [hl9] at eX
      have eX' : syX x A = (true, (sy1 x.1 A).2) := eX
      rw [eX', show li none = -1 from rfl, if_pos (by decide)]
      exact ⟨rfl, Y, rfl, y2, y3, y4⟩
    | some l =>
      rw [hl9] at eX
      have eX' : syX x A = sy1 l (sy1 x.1 A).2 := eX
      have hal := k1.2.2.2.2.2.1 l (b2 rfl l hl9)
      have hl9' := hav_lt hm1.2.2.1.1 hal
      rw [eX', show li (some l) = nI l from rfl, if_neg (nI_pos (by omega)), if_pos j1]
      rcases z_sync y2 hm1.2.2.1.1 hal with ⟨c2, W, w1, w2, w3, w4⟩ | ⟨c2, W, w1, w2, w3, w4⟩
      · left
        rw [w1, gCi_i, if_neg (by decide)]
        exact ⟨c2, W, rfl, w2, y3.tr w3, w4.trans y4⟩
      · right
        rw [w1, gCi_i, if_pos rfl, gLf_s]
        exact ⟨c2, W, rfl, w2, y3.tr w3, w4⟩
  · right
    have eX : syX x A = sy1 x.1 A := by unfold syX; rw [if_neg (by rw [c1]; simp)]
    rw [eX, y1, gCi_i, if_pos rfl, gLf_s]
    exact ⟨c1, Y, rfl, y2, y3, y4⟩
theorem z_syLoop {E : List Nat} {X : gX} {A : zA} {k p : Nat} (h : RM X A) (hm : MidE E A k p) (P : gR × gX → Prop) (hend : (syF (aV A 54).1.length 0 A).1 = true → ∀ Y, RM Y (syF (aV A 54).1.length 0 A).2 → frM X Y → Y.I 46 0 = X.I 46 0 → ∃ r, f_Mo_preparing_29 Y (nI (aV A 54).1.length) = some (Sum.inr r) ∧ P r) (hlost : (syF (aV A 54).1.length 0 A).1 = false → ∀ Y, RM Y (syF (aV A 54).1.length 0 A).2 → frM X Y → Y.I 46 0 = 6 → P (gR.i 0, Y)) : ∃ r, gI (fun s : gX × Int32 => f_Mo_preparing_29 s.1 s.2) gK (X, 0) = some r ∧ P r := by
  have hlA : (aV A 54).1.length ≤ 4096 := (VB_of hm.2.2.2.2.1.1.1 (show dc A - bf A ≤ 4096 by have := hm.2.1.1.1.2; omega)).1.1
  exact gI_wf (body := fun s : gX × Int32 => f_Mo_preparing_29 s.1 s.2) (fun s => ∃ Z B i, s = (Z, nI i) ∧ i ≤ (aV A 54).1.length ∧ aV B 54 = aV A 54 ∧ syF ((aV A 54).1.length - i) i B = syF (aV A 54).1.length 0 A ∧ RM Z B ∧ frM X Z ∧ Z.I 46 0 = X.I 46 0 ∧ MidE E B k p) P (fun s => (aV A 54).1.length - gn s.2) (s0 := (X, 0)) (by show (aV A 54).1.length - gn 0 ≤ 100000; omega) ⟨X, A, 0, rfl, by omega, rfl, by rw [Nat.sub_zero], h, frM.rf, rfl, hm⟩ (fun s hI => by
    obtain ⟨Z, B, i, rfl, i1, il, i2, i3, i4, i40, i5⟩ := hI
    show (∃ s', f_Mo_preparing_29 Z (nI i) = _ ∧ _) ∨ (∃ r, f_Mo_preparing_29 Z (nI i) = _ ∧ _)
    by_cases c : (aV A 54).1.length ≤ i
    · right
      have e : (aV A 54).1.length - i = 0 := by omega
      rw [e] at i2
      have i2' : (true, B) = syF (aV A 54).1.length 0 A := i2
      have ei : i = (aV A 54).1.length := by omega
      rw [ei]
      exact hend (by rw [← i2']) Z (by rw [← i2']; exact i3) i4 i40
    · obtain ⟨m, hmm⟩ : ∃ m, (aV A 54).1.length - i = m + 1 := ⟨(aV A 54).1.length - i - 1, by omega⟩
      rw [hmm] at i2
      obtain ⟨x, hx⟩ := vs_at (l := (aV A 54).1) (s := i) (by omega)
      have hxB : (aV B 54).1[i]? = some x := by rw [il]; exact hx
      rw [syF_s hxB] at i2
      have hmeas : (aV A 54).1.length - gn (nI (i + 1)) < (aV A 54).1.length - gn (nI i) := by
        rw [gn_nI (by omega), gn_nI (by omega)]
        omega
      obtain ⟨b1, b2⟩ := i5.2.2.2.2.2.1.1.2.2.1 i5.1 x (vs_mem hxB)
      rcases z_syTurn i3 i5 hxB (by rw [il]; exact hlA) with ⟨c1, Y, e, y2, y3, y4⟩ | ⟨c1, Y, e, y2, y3, y4⟩
      · left
        obtain ⟨k1, -⟩ := syX_K b1 (fun l hl => b2 rfl l hl) c1
        rw [if_pos c1] at i2
        rw [e]
        exact ⟨_, rfl, ⟨Y, (syX x B).2, i + 1, rfl, by omega, by rw [k1.1]; exact il, by rw [show (aV A 54).1.length - (i + 1) = m by omega]; exact i2, y2, i4.tr y3, y4.trans i40, syX_okE i5 c1⟩, hmeas⟩
      · right
        rw [if_neg (by rw [c1]; simp)] at i2
        rw [e]
        exact ⟨_, rfl, hlost (by rw [← i2]; exact c1) Y (by rw [← i2]; exact y2) (i4.tr y3) y4⟩)
