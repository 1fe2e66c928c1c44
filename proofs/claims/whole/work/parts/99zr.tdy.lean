/-! THE PURE SIDE: dead segments go, on both sides -/
theorem RM_V54 {X Y : gX} {A : zA} {V : zV} (h : RM X A) (e : frI (sVe 54) X Y) (hV : VR Y.I 54 (aD A) (aL A) V) (hB : ∀ k, k < bf A → V.2.1 (dc A - bf A + k) = (aV A 54).2.1 (dc A - bf A + k)) : RM Y (sV1 A 54 V) ∧ frM X Y ∧ Y.I 46 0 = X.I 46 0 := by
  obtain ⟨h1, h2, h3, h4, h5, h6⟩ := h
  have fI : ∀ a, (a < 54 ∨ 61 < a) → Y.I a = X.I a := fun a ha => e.1 a (sVe_f (by omega))
  refine ⟨⟨mS_fr h1 (fI 46 (by omega)), mE_fr (A := sV1 A 54 V) h2 (fI 47 (by omega)) (fI 48 (by omega)) (fI 49 (by omega)), mT_fr h3 (by rw [fI 46 (by omega)]) (fI 50 (by omega)) (fI 51 (by omega)) (fI 52 (by omega)), fun n hn => ?_, fun k hk => ?_, mM_fr (A := sV1 A 54 V) h6 (fun a a1 a2 => fI a (by omega)) (fun a a1 a2 => fI a (by omega)) (by rw [e.2.1])⟩, frM.of e (fun a ha => ?_), by rw [fI 46 (by omega)]⟩
  · by_cases c : n = 54
    · subst c
      exact hV
    · have hr : n = 62 ∨ n = 70 ∨ 84 ≤ n := by
        unfold gVer at hn
        simp only [decide_eq_true_eq, List.mem_cons, List.mem_nil_iff, or_false] at hn
        omega
      show VR _ n (aD A) (aL A) (if n = 54 then V else aV A n)
      rw [if_neg c]
      exact VR_fr (h4 n hn) (fun a a1 a2 => fI a (by omega))
  · rw [fI 78 (by omega), fI 79 (by omega)]
    have q := h5 k hk
    refine ⟨q.1, ?_⟩
    rw [q.2]
    show _ = b2i (V.2.1 (dc A - bf A + k))
    rw [hB k hk]
  · unfold sVe at ha
    simp only [Bool.and_eq_true, decide_eq_true_eq] at ha
    omega
theorem z_tdy {X : gX} {A : zA} (h : RM X A) (hB : VB (aD A) (aV A 54)) : ∃ Y, f_Ve_tidy X 54 = some (gR.v, Y) ∧ RM Y (aTdy A) ∧ frM X Y ∧ Y.I 46 0 = X.I 46 0 := by
  obtain ⟨Y, y1, y2, y3⟩ := z_tidy (RM_V h 54 rfl) hB
  obtain ⟨r1, r2, r3⟩ := RM_V54 h y2 y3 (fun _ _ => rfl)
  exact ⟨Y, y1, r1, r2, r3⟩
/-- the writer is open; some segments may be dead, some files unneeded -/
def Mid0 (A : zA) (k : Nat) : Prop := ¬ aS A 18 = 0 ∧ J1 A k ∧ (TB (aT A) ∧ ∀ f, f ∈ aT A → f.1 < wr A) ∧ J3 A ∧ (WV A ∧ WM A ∧ WL A) ∧ J5 A ∧ (¬ aS A 14 = 0 → aS A 18 = 0) ∧ ∀ i, i < 4 → (aV A (84 + 8 * i)).2.2.2.2 = nI (gn (aV A (84 + 8 * i)).2.2.2.2) ∧ gn (aV A (84 + 8 * i)).2.2.2.2 ≤ k
theorem Mid0_of {A : zA} {k : Nat} (h : Inv A k) (o : ¬ aS A 18 = 0) : Mid0 A k := ⟨o, h.1, ⟨h.2.1.1, h.2.1.2.1⟩, h.2.2.1, ⟨(h.2.2.2.1 o).1, (h.2.2.2.1 o).2.2.1, (h.2.2.2.1 o).2.2.2⟩, h.2.2.2.2.1, h.2.2.2.2.2.2.1, h.2.2.2.2.2.2.2.2⟩
theorem Wr_0 {A : zA} {k : Nat} (h : Mid0 A k) : Wr A := ⟨h.2.1.1.1.2, h.2.2.1.1, h.2.2.2.2.1.1, h.2.2.2.2.1.2.1, h.2.2.2.2.2.1.1.2.2.1 h.1, h.2.1.2.2.1.1, h.2.1.2.2.1.2⟩
theorem VI_sub {H : zH} {d w : Nat} {V : zV} {l : List zS} (h : VI H d w V) (hs : l.Sublist V.1) : VI H d w (l, V.2) := ⟨fun x hx => h.1 x (hs.subset hx), h.2.sublist hs⟩
theorem Pre_tdy {A : zA} {k : Nat} (h : Mid0 A k) : Pre (aTdy A) k := by
  obtain ⟨o, h1, h2, h3, ⟨⟨w1, w1'⟩, ⟨m1, m2, m3⟩, w3⟩, ⟨⟨a1, a2, a3, a4, a5⟩, b1, b2⟩, h6, h6'⟩ := h
  have eV : ∀ n, n ≠ 54 → aV (aTdy A) n = aV A n := fun n hn => if_neg hn
  have e54 : aV (aTdy A) 54 = ((aV A 54).1.filter (kp (aD A) (aV A 54)), (aV A 54).2) := rfl
  have hsub : ((aV A 54).1.filter (kp (aD A) (aV A 54))).Sublist (aV A 54).1 := List.filter_sublist
  have hkp : ∀ x, x ∈ (aV A 54).1 → ¬ x.2.2 = 0 → x ∈ (aV A 54).1.filter (kp (aD A) (aV A 54)) := fun x hx hx2 => List.mem_filter.mpr ⟨hx, by simp [kp, hx2]⟩
  refine ⟨h1, h2, fun n hn hn' => by rw [eV n hn']; exact h3 n hn hn', fun _ => ⟨⟨VI_sub w1 hsub, fun e he => ?_⟩, fun x hx => ?_, ⟨fun m hm => ?_, m2, fun x hx hx2 => m3 x (hsub.subset hx) hx2⟩, fun x hx k' hk' => ?_⟩, ⟨⟨?_, ?_, fun _ x hx => a3 o x (hsub.subset hx), a4, fun i hi => ?_⟩, ?_, ?_⟩, fun q => absurd q o, fun q => absurd (h6 q) o, fun i hi => ?_⟩
  · rcases w1' e he with q | q
    · left
      obtain ⟨x, x1, x2⟩ := fl_mem.mp q
      refine fl_mem.mpr ⟨x, List.mem_filter.mpr ⟨x1, ?_⟩, x2⟩
      have he' : (aV A 54).2.1 e = true := he
      have : (aD A x.1).countP (aV A 54).2.1 ≠ 0 := by
        have := List.countP_pos_iff.mpr ⟨e, x2, he'⟩
        have h9 : 0 < (aD A x.1).countP (aV A 54).2.1 := this
        omega
      simp [kp, this]
    · exact Or.inr q
  · have := (List.mem_filter.mp hx).2
    exact this
  · obtain ⟨q1, q2, q3, q4, ⟨x, q5, q5'⟩, q6, q7⟩ := m1 m hm
    have hm0 : ¬ m.1 = 0 := by have := q1.1; omega
    refine ⟨q1, q2, fun x hx => q3 x (hsub.subset hx), fun x hx => q4 x (hsub.subset hx), ⟨x, hkp x q5 (by rw [q5'.1]; exact hm0), q5'⟩, fun e he => ?_, q7⟩
    obtain ⟨y, y1, y2, y3⟩ := q6 e he
    exact ⟨y, hkp y y1 (by rw [y2]; exact hm0), y2, y3⟩
  · rw [eV 70 (by decide), eV 62 (by decide)]
    exact w3 x (hsub.subset hx) k' hk'
  · rw [eV 62 (by decide)]; exact a1
  · rw [eV 70 (by decide)]; exact a2
  · rw [eV (84 + 8 * i) (by omega)]; exact a5 i hi
  · rw [eV 62 (by decide)]; exact b1
  · rw [eV 70 (by decide)]; exact b2
  · rw [eV (84 + 8 * i) (by omega)]; exact h6' i hi
/-- the class: dead segments and unneeded files go -/
theorem C_tidy2 {X : gX} {A : zA} {nm : Nat → Nat} {k k' : Nat} (h : RC X A nm k') (hm : Mid0 A k) (hk : k ≤ 600) (hk' : k' ≤ 600) : ∃ Y Z, f_Le_dropDeadSegments X = some (gR.v, Y) ∧ f_Le_dropUnneededFiles Y = some (gR.v, Z) ∧ RC Z (aTf (aTdy A)) nm k' ∧ frC X Z := by
  have h34 := hm.2.1.2.1.2.2.1.2
  obtain ⟨Y, y1, y2, y3⟩ := C_dropDead h (Wr_0 hm) hm.1 (by omega)
  obtain ⟨Z, z1, z2, z3⟩ := C_dropF y2 (Tw_pre (Pre_tdy hm)) hk'
  exact ⟨Y, Z, y1, z1, z2, y3.tr z3⟩
theorem VB_0 {A : zA} {k : Nat} (h : Mid0 A k) : VB (aD A) (aV A 54) := (VB_of h.2.2.2.2.1.1.1 (show dc A - bf A ≤ 4096 by have := h.2.1.1.1.2; omega)).1
