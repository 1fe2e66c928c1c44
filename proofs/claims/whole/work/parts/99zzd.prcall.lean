/-! THE PURE SIDE: prepare and commit -/
theorem C_prT {X : gX} {A : zA} {nm : Nat → Nat} {k k' : Nat} (h : RC X A nm k') (hm : Mid A k 0) (hk : k ≤ 600) (hk' : k' ≤ 600) (hw : wr A + 4097 ≤ 10000 * k) : ((prT A).1 = 2 ∧ ∃ Y nm', f_Le_prepareAll_27 X = some (gR.i 1, Y) ∧ RC Y (prT A).2 nm' k' ∧ frC X Y) ∨ ((prT A).1 = 0 ∧ ∃ Y nm', f_Le_prepareAll_27 X = some (gR.t "java/lang/ArithmeticException", Y) ∧ RC Y (prT A).2 nm' k' ∧ frC X Y) := by
  have hlen : (aV A 54).1.length ≤ 4096 := (VB_of hm.2.2.2.2.1.1.1 (show dc A - bf A ≤ 4096 by have := hm.2.1.1.1.2; omega)).1.1
  obtain ⟨w1, -⟩ := wlF_ok hk (aV A 54).1.length 0 A hm (by omega)
  have cW := C_wlLoop h hk hk' hm (by omega)
  rw [prAll27]
  unfold prT
  generalize wlF (aV A 54).1.length 0 A = W at w1 cW ⊢
  rcases cW with ⟨c, Y, nm1, y1, y2, y3⟩ | ⟨c, Y, nm1, y1, y2, y3⟩
  · obtain ⟨m1, m2, m3, m4⟩ := w1 c
    rw [if_pos c, y1, gCvt_v]
    obtain ⟨s1, -⟩ := syF_ok (aV W.2 54).1.length 0 W.2 m1 (by omega)
    have cS := C_syLoop y2 hk' m1
    generalize syF (aV W.2 54).1.length 0 W.2 = S at s1 cS ⊢
    rcases cS with ⟨c2, Z, z1, z2, z3⟩ | ⟨c2, Z, z1, z2, z3⟩
    · obtain ⟨n1, n2, n3⟩ := s1 c2
      rw [if_pos c2, z1, gCvt_v]
      have hw2 : wr S.2 + 1 ≤ 10000 * k := by rw [show wr S.2 = wr W.2 from congrArg gn (n2.2.2.2.1 11 (by decide) (by decide))]; omega
      rcases C_own z2 n1 hk hk' hw2 with ⟨c3, U, nm2, u1, u2, u3⟩ | ⟨c3, U, nm2, u1, u2, u3⟩
      · left
        exact ⟨if_pos c3, U, nm2, u1, u2, (y3.tr z3).tr u3⟩
      · right
        exact ⟨if_neg (by rw [c3]; simp), U, nm2, u1, u2, (y3.tr z3).tr u3⟩
    · right
      rw [if_neg (by rw [c2]; simp), z1, gCvt_t]
      exact ⟨rfl, Z, nm1, rfl, z2, y3.tr z3⟩
  · right
    rw [if_neg (by rw [c]; simp), y1, gCvt_t]
    exact ⟨rfl, Y, nm1, rfl, y2, y3⟩
theorem C_prepareAll {X : gX} {A : zA} {nm : Nat → Nat} {k k' : Nat} (h : RC X A nm k') (hm : Mid A k 0) (hk : k ≤ 600) (hk' : k' ≤ 600) (hw : wr A + 4098 ≤ 10000 * k) : ((prR A).1 = 0 ∧ ∃ Y nm', f_Le_prepareAll X = some (gR.t "java/lang/ArithmeticException", Y) ∧ RC Y (prR A).2 nm' k' ∧ frC X Y) ∨ ((prR A).1 = 1 ∧ ∃ Y nm', f_Le_prepareAll X = some (gR.i 0, Y) ∧ RC Y (prR A).2 nm' k' ∧ frC X Y) ∨ ((prR A).1 = 2 ∧ ∃ Y nm', f_Le_prepareAll X = some (gR.i 1, Y) ∧ RC Y (prR A).2 nm' k' ∧ frC X Y) := by
  obtain ⟨f1, -⟩ := Mid_flR hm hk (by omega)
  have cF := C_flush h hm hk hk'
  unfold f_Le_prepareAll prR
  generalize flR A = F at f1 cF ⊢
  rcases cF with ⟨c, Y, nm1, y1, y2, y3⟩ | ⟨c, Y, y1, y2, y3⟩
  · obtain ⟨m1, m2, m3⟩ := f1 c
    rw [if_pos c, y1, gCvt_v, cS_20 y2.1]
    have key : nnw F.2 = false → ((prT F.2).1 = 0 ∧ ∃ Z nm', f_Le_prepareAll_27 Y = some (gR.t "java/lang/ArithmeticException", Z) ∧ RC Z (prT F.2).2 nm' k' ∧ frC X Z) ∨ ((prT F.2).1 = 1 ∧ ∃ Z nm', f_Le_prepareAll_27 Y = some (gR.i 0, Z) ∧ RC Z (prT F.2).2 nm' k' ∧ frC X Z) ∨ ((prT F.2).1 = 2 ∧ ∃ Z nm', f_Le_prepareAll_27 Y = some (gR.i 1, Z) ∧ RC Z (prT F.2).2 nm' k' ∧ frC X Z) := fun _ => by
      rcases C_prT y2 m1 hk hk' (by omega) with ⟨d, Z, nm2, z1, z2, z3⟩ | ⟨d, Z, nm2, z1, z2, z3⟩
      · exact Or.inr (Or.inr ⟨d, Z, nm2, z1, z2, y3.tr z3⟩)
      · exact Or.inl ⟨d, Z, nm2, z1, z2, y3.tr z3⟩
    by_cases g : aS F.2 20 ≤ 0
    · have e : nnw F.2 = false := by unfold nnw; simp [g]
      rw [if_neg (by rw [e]; simp), if_pos g]
      exact key e
    · obtain ⟨⟨h1, h2⟩, ⟨cc, pp, k1, k2, k3, k4, k5⟩, h4⟩ := RC_W y2
      have eN : nnw F.2 = smV (aV F.2 54) (aV F.2 62) := by unfold nnw; simp [g]
      have hd := m1.2.1.1.1.2
      have l54 : (aV F.2 54).1.length ≤ 4096 := (VB_of m1.2.2.2.2.1.1.1 (show dc F.2 - bf F.2 ≤ 4096 by omega)).1.1
      have l62 : (aV F.2 62).1.length ≤ 4096 := (VB_of (m1.2.2.2.1 62 rfl (by decide)).1 hd).1.1
      have hs := C_same (h1 m1.1) (k4 g).1 (RC_T y2) m1.2.2.1.1 l54 l62 (fun x hx => (m1.2.2.2.2.2.1.1.2.2.1 m1.1 x hx).1) (fun x hx => ((m1.2.2.2.2.2.1.1.1 g).1 x hx).1)
      rw [if_neg g, k2, gM_s, if_pos (cpq_v k1).1, hs, gCi_i, eN]
      cases e : smV (aV F.2 54) (aV F.2 62) with
      | false =>
        rw [if_neg (by simp), if_pos b2i_f]
        exact key (by rw [eN]; exact e)
      | true =>
        rw [if_pos rfl, if_neg (show ¬ b2i true = 0 by decide)]
        exact Or.inr (Or.inl ⟨rfl, Y, nm1, rfl, y2, y3⟩)
  · left
    rw [if_neg (by rw [c]; simp), y1, gCvt_t]
    exact ⟨rfl, Y, nm, rfl, y2, y3⟩
theorem z_prT {E : List Nat} {X : gX} {A : zA} {k : Nat} (h : RM X A) (hm : MidE E A k 0) (hk : k ≤ 600) (hw : wr A + 4097 ≤ 10000 * k) : ((prT A).1 = 2 ∧ ∃ Y, gCi (f_Mo_writeLists X) (fun x5 X5 => (if x5 = (0 : Int32) then some (gR.i 0, X5) else gI (fun s : gX × Int32 => f_Mo_preparing_29 s.1 s.2) gK (X5, 0))) = some (gR.i (aS (prT A).2 20 + 1), Y) ∧ RM Y (prT A).2 ∧ frM X Y ∧ Y.I 46 0 = X.I 46 0) ∨ ((prT A).1 = 0 ∧ ∃ Y, gCi (f_Mo_writeLists X) (fun x5 X5 => (if x5 = (0 : Int32) then some (gR.i 0, X5) else gI (fun s : gX × Int32 => f_Mo_preparing_29 s.1 s.2) gK (X5, 0))) = some (gR.i 0, Y) ∧ RM Y (prT A).2 ∧ frM X Y ∧ Y.I 46 0 = 6) := by
  have hlen : (aV A 54).1.length ≤ 4096 := (VB_of hm.2.2.2.2.1.1.1 (show dc A - bf A ≤ 4096 by have := hm.2.1.1.1.2; omega)).1.1
  have w1 := wlF_okE hk (aV A 54).1.length 0 A hm (by omega)
  have cW := z_wlLoop h hk hm (by omega)
  unfold prT
  generalize wlF (aV A 54).1.length 0 A = W at w1 cW ⊢
  rcases cW with ⟨c, Y, y1, y2, y3, y4⟩ | ⟨c, Y, y1, y2, y3, y4⟩
  · obtain ⟨m1, m2, m3, m4⟩ := w1 c
    rw [if_pos c, y1, gCi_i, if_neg (show ¬ (1 : Int32) = 0 by decide)]
    have s1 := syF_okE (aV W.2 54).1.length 0 W.2 m1 (by omega)
    have cS := z_syLoop y2 m1 (fun r => ((if (syF (aV W.2 54).1.length 0 W.2).1 = true then ((if (prO (syF (aV W.2 54).1.length 0 W.2).2).1 = true then 2 else 0), (prO (syF (aV W.2 54).1.length 0 W.2).2).2) else (0, (syF (aV W.2 54).1.length 0 W.2).2) : Nat × zA).1 = 2 ∧ ∃ Z, r = (gR.i (aS (if (syF (aV W.2 54).1.length 0 W.2).1 = true then ((if (prO (syF (aV W.2 54).1.length 0 W.2).2).1 = true then 2 else 0), (prO (syF (aV W.2 54).1.length 0 W.2).2).2) else (0, (syF (aV W.2 54).1.length 0 W.2).2) : Nat × zA).2 20 + 1), Z) ∧ RM Z (if (syF (aV W.2 54).1.length 0 W.2).1 = true then ((if (prO (syF (aV W.2 54).1.length 0 W.2).2).1 = true then 2 else 0), (prO (syF (aV W.2 54).1.length 0 W.2).2).2) else (0, (syF (aV W.2 54).1.length 0 W.2).2) : Nat × zA).2 ∧ frM X Z ∧ Z.I 46 0 = X.I 46 0) ∨ ((if (syF (aV W.2 54).1.length 0 W.2).1 = true then ((if (prO (syF (aV W.2 54).1.length 0 W.2).2).1 = true then 2 else 0), (prO (syF (aV W.2 54).1.length 0 W.2).2).2) else (0, (syF (aV W.2 54).1.length 0 W.2).2) : Nat × zA).1 = 0 ∧ ∃ Z, r = (gR.i 0, Z) ∧ RM Z (if (syF (aV W.2 54).1.length 0 W.2).1 = true then ((if (prO (syF (aV W.2 54).1.length 0 W.2).2).1 = true then 2 else 0), (prO (syF (aV W.2 54).1.length 0 W.2).2).2) else (0, (syF (aV W.2 54).1.length 0 W.2).2) : Nat × zA).2 ∧ frM X Z ∧ Z.I 46 0 = 6)) (fun c2 Z z1 z2 z3 => ?_) (fun c2 Z z1 z2 z3 => ?_)
    · obtain ⟨r, r1, r2⟩ := cS
      rw [r1]
      rcases r2 with ⟨a, Z, b, d⟩ | ⟨a, Z, b, d⟩
      · exact Or.inl ⟨a, Z, congrArg some b, d⟩
      · exact Or.inr ⟨a, Z, congrArg some b, d⟩
    · obtain ⟨n1, n2, n3⟩ := s1 c2
      have hw2 : wr (syF (aV W.2 54).1.length 0 W.2).2 + 1 ≤ 10000 * k := by rw [show wr (syF (aV W.2 54).1.length 0 W.2).2 = wr W.2 from congrArg gn (n2.2.2.2.1 11 (by decide) (by decide))]; omega
      have hl5 : (aV W.2 54).1.length = (aV (syF (aV W.2 54).1.length 0 W.2).2 54).1.length := by rw [n2.1]
      rcases z_own z1 n1 hk hw2 with ⟨c3, U, u1, u2, u3, u4⟩ | ⟨c3, U, u1, u2, u3, u4⟩
      · refine ⟨_, by rw [← hl5] at u1; exact u1, Or.inl ?_⟩
        rw [if_pos c2]
        exact ⟨if_pos c3, U, rfl, u2, (y3.tr z2).tr u3, by rw [u4, z3, y4]⟩
      · refine ⟨_, by rw [← hl5] at u1; exact u1, Or.inr ?_⟩
        rw [if_pos c2]
        exact ⟨if_neg (by rw [c3]; simp), U, rfl, u2, (y3.tr z2).tr u3, u4⟩
    · refine Or.inr ?_
      rw [if_neg (by rw [c2]; simp)]
      exact ⟨rfl, Z, rfl, z1, y3.tr z2, z3⟩
  · right
    rw [if_neg (by rw [c]; simp), y1, gCi_i, if_pos rfl]
    exact ⟨rfl, Y, rfl, y2, y3, y4⟩
theorem z_preparing {E : List Nat} {X : gX} {A : zA} {k : Nat} (h : RM X A) (hm : MidE E A k 0) (hk : k ≤ 600) (hw : wr A + 4098 ≤ 10000 * k) : ((prR A).1 = 0 ∧ ∃ Y, f_Mo_preparing X = some (gR.i 0, Y) ∧ RM Y (prR A).2 ∧ frM X Y ∧ Y.I 46 0 = 6) ∨ ((prR A).1 = 1 ∧ ∃ Y, f_Mo_preparing X = some (gR.i 0, Y) ∧ RM Y (prR A).2 ∧ frM X Y ∧ Y.I 46 0 = X.I 46 0) ∨ ((prR A).1 = 2 ∧ ∃ Y, f_Mo_preparing X = some (gR.i (aS (prR A).2 20 + 1), Y) ∧ RM Y (prR A).2 ∧ frM X Y ∧ Y.I 46 0 = X.I 46 0) := by
  have f1 := Mid_flRE hm hk (by omega)
  have cF := z_flush h hm hk
  unfold f_Mo_preparing prR
  generalize flR A = F at f1 cF ⊢
  rcases cF with ⟨c, Y, y1, y2, y3, y4⟩ | ⟨c, Y, y1, y2, y3, y4⟩
  · obtain ⟨m1, m2, m3⟩ := f1 c
    rw [if_pos c, y1, gCi_i, if_neg (show ¬ (1 : Int32) = 0 by decide), z_nothingNew y2 m1 m3 hk, gCi_i]
    cases e : nnw F.2 with
    | true =>
      rw [if_pos rfl, if_neg (show ¬ b2i true = 0 by decide)]
      exact Or.inr (Or.inl ⟨rfl, Y, rfl, y2, y3, y4⟩)
    | false =>
      rw [if_neg (by simp), if_pos b2i_f]
      rcases z_prT y2 m1 hk (by omega) with ⟨d, Z, z1, z2, z3, z4⟩ | ⟨d, Z, z1, z2, z3, z4⟩
      · exact Or.inr (Or.inr ⟨d, Z, z1, z2, y3.tr z3, by rw [z4, y4]⟩)
      · exact Or.inl ⟨d, Z, z1, z2, y3.tr z3, z4⟩
  · left
    rw [if_neg (by rw [c]; simp), y1, gCi_i, if_pos rfl]
    exact ⟨rfl, Y, rfl, y2, y3, y4⟩
