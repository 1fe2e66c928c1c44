/-! THE PURE SIDE: the calls prepare and commit -/
theorem Pre_ren {A : zA} {k : Nat} (h : Inv A k) (o : ¬ aS A 18 = 0) (o19 : ¬ aS A 19 = 0) (h20 : gn (aS A 20) + 1 ≤ k) (hk : k ≤ 600) : Pre (aRen A) k := by
  obtain ⟨⟨⟨a1, a2, a3⟩, ⟨b1, b2, b3, b4⟩, c1, ⟨d1, d2, d3⟩⟩, ⟨t1, t2, t3⟩, h3, h4, ⟨⟨e1, e2, e3, e4, e5⟩, f1, f2⟩, g1, g2, g3, g4⟩ := h
  obtain ⟨w1, w2, w3, w4⟩ := h4 o
  have eS : ∀ j, j ≠ 19 → j ≠ 20 → aS (aRen A) j = aS A j := fun j j1 j2 => by
    show upd (upd (aS A) 19 0) 20 (aS A 20 + 1) j = _
    rw [upd_at, if_neg j2, upd_at, if_neg j1]
  have s20 : aS (aRen A) 20 = nI (gn (aS A 20) + 1) := by
    show upd (upd (aS A) 19 0) 20 (aS A 20 + 1) 20 = _
    rw [upd_at, if_pos rfl]
    conv => lhs; rw [b2.1]
    rw [nI_1]
  have s19 : aS (aRen A) 19 = 0 := rfl
  have eV : ∀ n, n ≠ 62 → aV (aRen A) n = aV A n := fun n hn => if_neg hn
  have e62 : aV (aRen A) 62 = ((aV A 70).1, (aV A 70).2.1, (aV A 70).2.2.1, (aV A 70).2.2.2.1, (aV A 62).2.2.2.2) := rfl
  have eH : aH (aRen A) = aH A := rfl
  have eM : aM (aRen A) = aM A := rfl
  have eT : aT (aRen A) = aT A := rfl
  generalize aRen A = B at eS s20 s19 eV e62 eH eM eT ⊢
  have ed : dc B = dc A := congrArg gn (eS 5 (by decide) (by decide))
  have eb : bf B = bf A := congrArg gn (eS 23 (by decide) (by decide))
  have ew : wr B = wr A := congrArg gn (eS 11 (by decide) (by decide))
  refine ⟨⟨⟨?_, ?_, ?_⟩, ⟨?_, ?_, ?_, ?_⟩, ?_, ?_⟩, ⟨by rw [eT]; exact t1, fun f hf => by rw [ew]; rw [eT] at hf; exact t2 f hf⟩, fun n hn hn' => ?_, fun _ => ⟨⟨?_, ?_⟩, ?_, ⟨fun m hm => ?_, ?_, ?_⟩, fun x hx l hl' => Or.inr ⟨s19, ?_, ?_⟩⟩, ⟨⟨fun _ => ⟨?_, ?_⟩, fun q => absurd s19 q, fun _ => ?_, fun m hm => ?_, fun i hi q => ?_⟩, fun _ => ?_, fun q => absurd s19 q⟩, fun q => ?_, fun q => ?_, fun i hi => ?_⟩
  · rw [ed, eS 5 (by decide) (by decide)]; exact a1
  · rw [eb, ed, eS 23 (by decide) (by decide)]; exact a2
  · rw [ew, eS 11 (by decide) (by decide)]; exact a3
  · rw [eS 25 (by decide) (by decide)]; exact b1
  · rw [s20, gn_nI (by omega)]; exact ⟨rfl, h20⟩
  · rw [eS 34 (by decide) (by decide)]; exact b3
  · rw [eS 32 (by decide) (by decide)]; exact b4
  · rw [eS 30 (by decide) (by decide), eM]; exact c1
  · rw [eS 18 (by decide) (by decide), eS 14 (by decide) (by decide), s19]; exact ⟨d1, Or.inl rfl, d3⟩
  · rw [ed, ew, eH]
    by_cases cn : n = 62
    · subst cn
      rw [e62]
      have q := h3 70 rfl (by decide)
      exact ⟨⟨q.1.1, q.1.2⟩, q.2⟩
    · rw [eV n cn]; exact h3 n hn hn'
  · rw [eH, ed, eb, ew, eV 54 (by decide)]; exact w1.1
  · intro e he
    rw [eV 54 (by decide)] at he ⊢
    rw [ed, eb]
    show e ∈ fl (aH B).1 (aV A 54).1 ∨ _
    rw [eH]
    exact w1.2 e he
  · intro x hx
    rw [eV 54 (by decide)] at hx ⊢
    show kp (aH B).1 (aV A 54) x = true
    rw [eH]
    exact w2 x hx
  · rw [eM] at hm
    exact MI_d (w3.1 m hm) (eS 34 (by decide) (by decide)) eH (eV 54 (by decide)) ew (by rw [ed, eb]; exact Nat.le_refl _)
  · rw [eM]; exact w3.2.1
  · intro x hx hx2
    rw [eV 54 (by decide)] at hx
    rw [eM]
    exact w3.2.2 x hx hx2
  · rw [s20]; exact nI_nle (by omega) (by omega)
  · rw [eV 54 (by decide)] at hx
    rcases w4 x hx l hl' with ⟨_, y, y1, y2⟩ | ⟨q, _⟩
    · exact ⟨y, by rw [e62]; exact y1, y2⟩
    · exact absurd q o19
  · rw [eT, e62]; exact (e2 o19).1
  · rw [eT, e62]; exact (e2 o19).2
  · rw [eT, eV 54 (by decide)]; exact e3 o
  · rw [eM] at hm
    rw [eT]
    exact e4 m hm
  · rw [eV (84 + 8 * i) (by omega)] at q ⊢
    rw [eT]
    exact e5 i hi q
  · rw [eT, e62]; exact f2 o19
  · rw [eS 18 (by decide) (by decide)] at q
    exact absurd q o
  · rw [eS 14 (by decide) (by decide)] at q
    exact absurd (g2 q) o
  · rw [eV (84 + 8 * i) (by omega)]; exact g4 i hi
def cmR (A : zA) : Bool × zA := if aS A 13 = 0 then (false, aLose A) else (true, aRen (aActd A))
def coS (A : zA) : Nat × zA := (if (cmR A).1 = true then 2 else 0, (cmR A).2)
def coR (A : zA) : Nat × zA := if aS A 19 = 0 then (if (prR A).1 = 2 then coS (prR A).2 else prR A) else coS A
theorem Inv_act {A : zA} {k : Nat} (h : Inv A k) (o : ¬ aS A 18 = 0) : Inv (aActd A) k := Mid_inv (Mid_act (Mid_of h o))
theorem coS_ok {A : zA} {k : Nat} (h : Inv A k) (o : ¬ aS A 18 = 0) (o19 : ¬ aS A 19 = 0) (h20 : gn (aS A 20) + 1 ≤ k) (hk : k ≤ 600) : ((coS A).1 = 0 ∧ Inv (coS A).2 k) ∨ ((coS A).1 = 2 ∧ Pre (coS A).2 k) := by
  unfold coS cmR
  by_cases c : aS A 13 = 0
  · rw [if_pos c]
    exact Or.inl ⟨rfl, Mid_lose (Mid_of h o)⟩
  · rw [if_neg c]
    refine Or.inr ⟨rfl, Pre_ren (Inv_act h o) ?_ ?_ ?_ hk⟩
    · rw [aActd_S (by decide) (by decide)]; exact o
    · rw [aActd_S (by decide) (by decide)]; exact o19
    · rw [aActd_S (by decide) (by decide)]; exact h20
theorem coR_ok {A : zA} {k : Nat} (h : Inv A k) (o : ¬ aS A 18 = 0) (h20 : gn (aS A 20) + 1 ≤ k) (hw : wr A + 4098 ≤ 10000 * k) (hk : k ≤ 600) : ((coR A).1 = 0 ∧ Inv (coR A).2 k) ∨ ((coR A).1 = 1 ∧ Inv (coR A).2 k) ∨ ((coR A).1 = 2 ∧ Pre (coR A).2 k) := by
  unfold coR
  by_cases c : aS A 19 = 0
  · rw [if_pos c]
    obtain ⟨p1, p2⟩ := prR_ok (Mid_of h o) hw hk c
    rcases p2 with q | ⟨q, _⟩ | ⟨q, q2, q3, q4⟩
    · rw [if_neg (by omega)]
      exact Or.inl ⟨q, p1⟩
    · rw [if_neg (by omega)]
      exact Or.inr (Or.inl ⟨q, p1⟩)
    · rw [if_pos q]
      rcases coS_ok p1 q2 (by rw [q3]; decide) (by rw [q4]; exact h20) hk with r | r
      · exact Or.inl r
      · exact Or.inr (Or.inr r)
  · rw [if_neg c]
    rcases coS_ok h o c h20 hk with r | r
    · exact Or.inl r
    · exact Or.inr (Or.inr r)
theorem C_coS {X : gX} {A : zA} {nm : Nat → Nat} {k k' : Nat} (h : RC X A nm k') (hi : Inv A k) (o : ¬ aS A 18 = 0) (o19 : ¬ aS A 19 = 0) (h20 : gn (aS A 20) + 1 ≤ k) (hk : k ≤ 600) (hk' : k' ≤ 600) : ((coS A).1 = 0 ∧ ∃ Y, f_Le_renamePrepared X = some (gR.t "java/lang/ArithmeticException", Y) ∧ RC Y (coS A).2 nm k' ∧ frC X Y) ∨ ((coS A).1 = 2 ∧ ∃ Y, f_Le_renamePrepared X = some (gR.v, Y) ∧ RC Y (aTf (coS A).2) nm k' ∧ frC X Y) := by
  have hP := coS_ok hi o o19 h20 hk
  unfold coS cmR at hP ⊢
  unfold f_Le_renamePrepared
  by_cases c : aS A 13 = 0
  · left
    obtain ⟨Y, y1, y2, y3⟩ := C_act0 h hi.2.1.1 hk' c
    rw [if_pos c, y1, gCvt_t]
    exact ⟨rfl, Y, rfl, y2, y3⟩
  · right
    rw [if_neg c] at hP
    rcases hP with ⟨q, _⟩ | ⟨_, hP⟩
    · exact absurd q (by show ¬ (2 : Nat) = 0; decide)
    obtain ⟨Y, y1, y2, y3⟩ := C_act1 h c
    obtain ⟨r1, r2, r3⟩ := C_ren y2 (by rw [aActd_S (by decide) (by decide)]; exact o19)
    rw [if_neg c, y1, gCvt_v, if_pos r2, gB_b, if_pos (show gOk (Y.g 0 5 (Y.G 0 6)).N (Y.G 0 5) = true from r3), gB_b, gB_b, gB_b]
    have e15 : (((Y.g 0 5 (Y.G 0 6)).g 0 6 (Y.G 0 5)).w 0 8 0).I 0 15 + 1 = aS (aActd A) 20 + 1 := by
      rw [w_oth (Or.inr (by decide))]
      show Y.I 0 15 + 1 = _
      rw [cS_20 y2.1]
    rw [e15]
    obtain ⟨Z, z1, z2, z3⟩ := C_dropF r1 (Tw_pre hP) hk'
    rw [z1, gCv_v]
    exact ⟨rfl, Z, rfl, z2, ((((y3.C).g (by decide)).g (by decide)).w (by omega)).w (by omega) |>.tr z3⟩
theorem C_co {X : gX} {A : zA} {nm : Nat → Nat} {k k' : Nat} {ρ : Type} {th : String → gX → Option ρ} {K : gX → Option ρ} (h : RC X A nm k') (hi : Inv A k) (o : ¬ aS A 18 = 0) (h20 : gn (aS A 20) + 1 ≤ k) (hw : wr A + 4098 ≤ 10000 * k) (hk : k ≤ 600) (hk' : k' ≤ 600) (G : Option ρ) (hG0 : aS A 19 = 0 → G = gCit (f_Le_prepareAll X) th (fun x4 X4 => if x4 = (0 : Int32) then K X4 else gCvt (f_Le_renamePrepared X4) th K)) (hG1 : ¬ aS A 19 = 0 → G = gCvt (f_Le_renamePrepared X) th K) : ((coR A).1 = 0 ∧ ∃ Y nm', G = th "java/lang/ArithmeticException" Y ∧ RC Y (coR A).2 nm' k' ∧ frC X Y) ∨ (¬ (coR A).1 = 0 ∧ ∃ Y nm', G = K Y ∧ RC Y (aTf (coR A).2) nm' k' ∧ frC X Y) := by
  unfold coR
  by_cases c : aS A 19 = 0
  · rw [if_pos c, hG0 c]
    have hm := Mid_of hi o
    obtain ⟨p1, p2⟩ := prR_ok hm hw hk c
    rcases C_prepareAll h hm hk hk' hw with ⟨d, Y, nm1, y1, y2, y3⟩ | ⟨d, Y, nm1, y1, y2, y3⟩ | ⟨d, Y, nm1, y1, y2, y3⟩
    · rw [if_neg (by omega), y1, gCit_t]
      exact Or.inl ⟨d, Y, nm1, rfl, y2, y3⟩
    · rw [if_neg (by omega), y1, gCit_i, if_pos rfl]
      refine Or.inr ⟨by omega, Y, nm1, rfl, ?_, y3⟩
      rw [aTf_inv p1]
      exact y2
    · rcases p2 with q | ⟨q, _⟩ | ⟨q, q2, q3, q4⟩
      · omega
      · omega
      · rw [if_pos d, y1, gCit_i, if_neg (show ¬ (1 : Int32) = 0 by decide)]
        rcases C_coS y2 p1 q2 (by rw [q3]; decide) (by rw [q4]; exact h20) hk hk' with ⟨r, Z, z1, z2, z3⟩ | ⟨r, Z, z1, z2, z3⟩
        · rw [z1, gCvt_t]
          exact Or.inl ⟨r, Z, nm1, rfl, z2, y3.tr z3⟩
        · rw [z1, gCvt_v]
          exact Or.inr ⟨by omega, Z, nm1, rfl, z2, y3.tr z3⟩
  · rw [if_neg c, hG1 c]
    rcases C_coS h hi o c h20 hk hk' with ⟨r, Z, z1, z2, z3⟩ | ⟨r, Z, z1, z2, z3⟩
    · rw [z1, gCvt_t]
      exact Or.inl ⟨r, Z, nm, rfl, z2, z3⟩
    · rw [z1, gCvt_v]
      exact Or.inr ⟨by omega, Z, nm, rfl, z2, z3⟩
theorem z_coS {X : gX} {A : zA} {k : Nat} (h : RM X A) (hi : Inv A k) (o : ¬ aS A 18 = 0) : ((coS A).1 = 0 ∧ ∃ Y, f_Mo_committing_28 X = some (gR.i 0, Y) ∧ RM Y (coS A).2 ∧ frM X Y ∧ Y.I 46 0 = 6) ∨ ((coS A).1 = 2 ∧ ∃ Y, f_Mo_committing_28 X = some (gR.i (aS (coS A).2 20), Y) ∧ RM Y (coS A).2 ∧ frM X Y ∧ Y.I 46 0 = X.I 46 0) := by
  unfold coS cmR f_Mo_committing_28
  by_cases c : aS A 13 = 0
  · left
    obtain ⟨Y, y1, y2, y3, y4⟩ := z_act0 h hi.2.1.1 c
    rw [if_pos c, y1, gCi_i, if_pos rfl]
    exact ⟨rfl, Y, rfl, y2, y3, y4⟩
  · right
    obtain ⟨Y, y1, y2, y3, y4⟩ := z_act1 h c
    have hB : VB (aD (aActd A)) (aV (aActd A) 70) := (VB_of (hi.2.2.1 70 rfl (by decide)).1 hi.1.1.1.2).1
    obtain ⟨Z, z1, z2, z3, z4⟩ := z_ren y2 hB
    rw [if_neg c, y1, gCi_i, if_neg (show ¬ (1 : Int32) = 0 by decide), z1]
    exact ⟨rfl, Z, rfl, z2, y3.tr z3, by rw [z4, y4]⟩
theorem z_co {X : gX} {A : zA} {k : Nat} (h : RM X A) (h0 : X.I 46 0 = 0) (hi : Inv A k) (o : ¬ aS A 18 = 0) (hw : wr A + 4098 ≤ 10000 * k) (hk : k ≤ 600) : ((coR A).1 = 0 ∧ ∃ Y v, f_Mo_committing X = some (gR.i v, Y) ∧ RM Y (coR A).2 ∧ frM X Y ∧ Y.I 46 0 = 6) ∨ (¬ (coR A).1 = 0 ∧ ∃ Y, f_Mo_committing X = some (gR.i (aS (coR A).2 20), Y) ∧ RM Y (coR A).2 ∧ frM X Y ∧ Y.I 46 0 = 0) := by
  unfold coR f_Mo_committing
  rw [RM_S h 19 (by decide) (by decide) (by decide)]
  by_cases c : aS A 19 = 0
  · rw [if_pos c, if_pos c]
    have hm := Mid_of hi o
    obtain ⟨p1, p2⟩ := prR_ok hm hw hk c
    rcases z_preparing h hm hk hw with ⟨d, Y, y1, y2, y3, y4⟩ | ⟨d, Y, y1, y2, y3, y4⟩ | ⟨d, Y, y1, y2, y3, y4⟩
    · rw [if_neg (by omega), y1, gCi_i, if_neg (by rw [y4]; decide)]
      exact Or.inl ⟨d, Y, _, rfl, y2, y3, y4⟩
    · rw [if_neg (by omega), y1, gCi_i, if_pos (by rw [y4]; exact h0), if_pos rfl]
      refine Or.inr ⟨by omega, Y, ?_, y2, y3, by rw [y4]; exact h0⟩
      unfold f_Mo_committing_23
      rw [RM_S y2 20 (by decide) (by decide) (by decide)]
    · rcases p2 with q | ⟨q, _⟩ | ⟨q, q2, q3, q4⟩
      · omega
      · omega
      · have b2 := p1.1.2.1.2.1
        have n20 : ¬ aS (prR A).2 20 + 1 = 0 := by
          rw [b2.1, nI_1]
          exact nI_ne0 (by omega) (by omega)
        rw [if_pos d, y1, gCi_i, if_pos (by rw [y4]; exact h0), if_neg n20]
        rcases z_coS y2 p1 q2 with ⟨r, Z, z1, z2, z3, z4⟩ | ⟨r, Z, z1, z2, z3, z4⟩
        · rw [z1]
          exact Or.inl ⟨r, Z, _, rfl, z2, y3.tr z3, z4⟩
        · rw [z1]
          exact Or.inr ⟨by omega, Z, rfl, z2, y3.tr z3, by rw [z4, y4]; exact h0⟩
  · rw [if_neg c, if_neg c]
    rcases z_coS h hi o with ⟨r, Z, z1, z2, z3, z4⟩ | ⟨r, Z, z1, z2, z3, z4⟩
    · rw [z1]
      exact Or.inl ⟨r, Z, _, rfl, z2, z3, z4⟩
    · rw [z1]
      exact Or.inr ⟨by omega, Z, rfl, z2, z3, by rw [z4]; exact h0⟩
