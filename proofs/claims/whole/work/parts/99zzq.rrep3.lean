/-! THE PURE SIDE: the reference puts a merged segment in: whole -/
theorem ap3 {α : Type} {p q q' r : List α} {t : Nat} (h : q'.length ≤ q.length) : (p ++ (q' ++ r))[t]? = if t < p.length then (p ++ (q ++ r))[t]? else if t < p.length + q'.length then q'[t - p.length]? else (p ++ (q ++ r))[t + (q.length - q'.length)]? := by
  rw [List.getElem?_append]
  by_cases c : t < p.length
  · rw [if_pos c, if_pos c, List.getElem?_append, if_pos c]
  · rw [if_neg c, if_neg c, List.getElem?_append]
    by_cases c2 : t < p.length + q'.length
    · rw [if_pos (by omega), if_pos c2]
    · rw [if_neg (by omega), if_neg c2, List.getElem?_append, if_neg (by omega), List.getElem?_append, if_neg (by omega)]
      congr 1
      omega
def rp38 (X Z : gX) (D : List Nat) (L : Nat → Bool) (o1 i6 : Nat) : Prop := Z.G = X.G ∧ gEq X Z ∧ (∀ b, b ≠ 59 → b ≠ 60 → b ≠ 61 → Z.I b = X.I b) ∧ (∀ t, Z.I 59 t = if o1 ≤ t ∧ t < o1 + i6 then nI (D.getD (t - o1) 0) else X.I 59 t) ∧ (∀ t, Z.I 60 t = if o1 ≤ t ∧ t < o1 + i6 then b2i (L (D.getD (t - o1) 0)) else X.I 60 t) ∧ (∀ t, Z.I 61 t = if o1 ≤ t ∧ t < o1 + i6 then 1 else X.I 61 t)
theorem z_rep38 {X : gX} {F D : List Nat} {L : Nat → Bool} {a1 a2 tt : Int32} {j r o1 o2 : Nat} (h59 : hl (X.I 59) (F.map nI)) (h60 : hl (X.I 60) (F.map (fun d => b2i (L d)))) (h80 : X.I 80 j = nI D.length) (hr : X.G 121 j = some r) (hrr : gRow r = true) (hD : hl (X.I r) (D.map nI)) (hj : j < 4) (h12 : o1 ≤ o2) (h2F : o2 ≤ F.length) (hF4 : F.length ≤ 4096) (sF : F.Pairwise (· < ·)) (sD : D.Pairwise (· < ·)) (hsub : ∀ t d : Nat, D[t]? = some d → ∃ p : Nat, o1 ≤ p ∧ p < o2 ∧ F[p]? = some d) (hbd : ∀ d, d ∈ F → d < 5000) (P : gR × gX → Prop) (hP : ∀ Z, rp38 X Z D L o1 D.length → o1 + D.length ≤ o2 → ∃ q, f_Mo_replace_138 Z a1 a2 (nI j) (nI o1) (nI D.length) (nI o2) tt = some q ∧ P q) : ∃ q, gI (fun s : gX × Int32 × Int32 => f_Mo_replace_38 s.1 a1 a2 (nI j) (nI o1) (nI o2) tt s.2.1 s.2.2) gK (X, 0, nI o1) = some q ∧ P q := by
  have hr2 : 122 ≤ r ∧ r ≤ 125 := by
    unfold gRow at hrr
    simp only [decide_eq_true_eq, List.mem_cons, List.mem_nil_iff, or_false] at hrr
    omega
  refine gI_wf (body := fun s : gX × Int32 × Int32 => f_Mo_replace_38 s.1 a1 a2 (nI j) (nI o1) (nI o2) tt s.2.1 s.2.2) (fun s => ∃ Z i6 i, s = (Z, nI i6, nI i) ∧ o1 ≤ i ∧ i ≤ o2 ∧ mat F D o1 i6 i ∧ o1 + i6 ≤ i ∧ rp38 X Z D L o1 i6) P (fun s => o2 - gn s.2.2) (by show o2 - gn (nI o1) ≤ 100000; omega) ⟨X, 0, o1, rfl, Nat.le_refl _, h12, ⟨by omega, fun t d _ => ⟨fun q => by omega, fun ⟨p, p1, p2, _⟩ => by omega⟩⟩, by omega, rfl, gEq.rf, fun _ _ _ _ => rfl, fun t => by rw [if_neg (by omega)], fun t => by rw [if_neg (by omega)], fun t => by rw [if_neg (by omega)]⟩ (fun s hI => ?_)
  obtain ⟨Z, i6, i, rfl, i1, i2, i3, i4, f1, f2, f3, f4, f5, f6⟩ := hI
  have hDl : D.length ≤ 4096 := by
    cases hD0 : D.length with
    | zero => omega
    | succ n =>
      obtain ⟨d, hd⟩ := vs_at (l := D) (s := n) (by omega)
      obtain ⟨p, p1, p2, p3⟩ := hsub n d hd
      have key : ∀ n d p : Nat, D[n]? = some d → o1 ≤ p → F[p]? = some d → n ≤ p := fun n => by
        induction n with
        | zero => intro d p _ _ _; omega
        | succ n ih =>
          intro d p hd hp hf
          obtain ⟨d', hd'⟩ := vs_at (l := D) (s := n) (by have := vs_lt hd; omega)
          obtain ⟨p', q1, q2, q3⟩ := hsub n d' hd'
          have l1 := srt_lt sD hd' hd (by omega)
          have l2 := ih d' p' hd' q1 q3
          rcases Nat.lt_trichotomy p' p with c | c | c
          · omega
          · subst c
            have := Option.some.inj (q3.symm.trans hf)
            omega
          · have := srt_lt sF hf q3 c
            omega
      have := key n d p hd p1 p3
      omega
  have fin : mat F D o1 i6 i → (i = o2 ∨ D.length ≤ i6) → i6 = D.length := fun hm hc => by
    have h1 := hm.1
    rcases hc with hc | hc
    · by_cases c : i6 = D.length
      · exact c
      · obtain ⟨d, hd⟩ := vs_at (l := D) (s := i6) (by omega)
        obtain ⟨p, p1, p2, p3⟩ := hsub i6 d hd
        have := (hm.2 i6 d hd).mpr ⟨p, p1, by omega, p3⟩
        omega
    · omega
  show (∃ s', f_Mo_replace_38 Z a1 a2 (nI j) (nI o1) (nI o2) tt (nI i6) (nI i) = _ ∧ _) ∨ (∃ q, f_Mo_replace_38 Z a1 a2 (nI j) (nI o1) (nI o2) tt (nI i6) (nI i) = _ ∧ _)
  unfold f_Mo_replace_38 f_Mo_replace_132
  by_cases ci : o2 ≤ i
  · right
    have e6 := fin i3 (Or.inl (by omega))
    subst e6
    obtain ⟨q, q1, q2⟩ := hP Z ⟨f1, f2, f3, f4, f5, f6⟩ (by omega)
    rw [if_pos (nI_le ci (by omega)), q1, gLf_s]
    exact ⟨q, rfl, q2⟩
  rw [if_neg (nI_ge (by omega) (by omega)), if_pos (gIn_nI hj (by omega)), gn_nI (k := j) (by omega), f3 80 (by decide) (by decide) (by decide), h80]
  by_cases c6 : D.length ≤ i6
  · right
    have e6 := fin i3 (Or.inr c6)
    subst e6
    obtain ⟨q, q1, q2⟩ := hP Z ⟨f1, f2, f3, f4, f5, f6⟩ (by omega)
    rw [if_pos (nI_le c6 (by omega)), q1, gLf_s]
    exact ⟨q, rfl, q2⟩
  left
  obtain ⟨d0, hd0⟩ := vs_at (l := F) (s := i) (by omega)
  obtain ⟨d1, hd1⟩ := vs_at (l := D) (s := i6) (by omega)
  have hg : Z.G 121 j = some r := by rw [f1]; exact hr
  have er : Z.I r i6 = nI d1 := by rw [f3 r (by omega) (by omega) (by omega)]; exact hl_m hD hd1
  have e59 : Z.I 59 i = nI d0 := by rw [f4, if_neg (by omega)]; exact hl_m h59 hd0
  have e60 : Z.I 60 i = b2i (L d0) := by rw [f5, if_neg (by omega)]; exact hl_m (g := fun d => b2i (L d)) h60 hd0
  have jr : gIn (nI i) 4096 = true := gIn_nI (by omega) (by omega)
  have j6 : gIn (nI i6) 4096 = true := gIn_nI (by omega) (by omega)
  have jw : gIn (nI (o1 + i6)) 4096 = true := gIn_nI (by omega) (by omega)
  have hmeas : o2 - gn (nI (i + 1)) < o2 - i := by
    rw [gn_nI (by omega)]
    omega
  have b0 := hbd d0 (vs_mem hd0)
  have b1 : d1 < 5000 := by
    obtain ⟨p, p1, p2, p3⟩ := hsub i6 d1 hd1
    exact hbd d1 (vs_mem p3)
  rw [if_neg (nI_ge (by omega) (by omega)), if_pos jr, if_pos (gIn_nI hj (by omega)), hg, gM_s, if_pos hrr, if_pos j6, gn_nI (k := i) (by omega), gn_nI (k := i6) (by omega), e59, er]
  by_cases ce : d1 = d0
  · subst ce
    have e60' : (Z.w 59 (o1 + i6) (nI d1)).I 60 i = b2i (L d1) := by rw [gX.w_ne (by decide)]; exact e60
    rw [if_pos rfl, if_pos jr, nI_add, if_pos jw, gn_nI (k := o1 + i6) (by omega), gB_b, if_pos jr, if_pos jw, e60', b2i_nar, gB_b, if_pos jw, show vp_nar .boolean (1 : Int32) = 1 from rfl, gB_b, nI_1, nI_1]
    refine ⟨_, rfl, ⟨_, i6 + 1, i + 1, rfl, by omega, by omega, mat_s1 i3 sD i1 hd0 hd1, by omega, f1, f2.w.w.w, fun b b1 b2 b3 => ?_, fun t => ?_, fun t => ?_, fun t => ?_⟩, hmeas⟩
    · rw [gX.w_ne b3, gX.w_ne b2, gX.w_ne b1]; exact f3 b b1 b2 b3
    · rw [gX.w_ne (by decide), gX.w_ne (by decide), gX.w_self]
      show upd _ _ _ t = _
      rw [upd_at, f4]
      by_cases c : t = o1 + i6
      · rw [if_pos c, if_pos (by omega), c, show o1 + i6 - o1 = i6 by omega, getD_at hd1]
      · rw [if_neg c]
        by_cases c2 : o1 ≤ t ∧ t < o1 + i6
        · rw [if_pos c2, if_pos (by omega)]
        · rw [if_neg c2, if_neg (by omega)]
    · rw [gX.w_ne (by decide), gX.w_self]
      show upd _ _ _ t = _
      rw [upd_at, gX.w_ne (by decide), f5]
      by_cases c : t = o1 + i6
      · rw [if_pos c, if_pos (by omega), c, show o1 + i6 - o1 = i6 by omega, getD_at hd1]
      · rw [if_neg c]
        by_cases c2 : o1 ≤ t ∧ t < o1 + i6
        · rw [if_pos c2, if_pos (by omega)]
        · rw [if_neg c2, if_neg (by omega)]
    · rw [gX.w_self]
      show upd _ _ _ t = _
      rw [upd_at, gX.w_ne (by decide), gX.w_ne (by decide), f6]
      by_cases c : t = o1 + i6
      · rw [if_pos c, if_pos (by omega)]
      · rw [if_neg c]
        by_cases c2 : o1 ≤ t ∧ t < o1 + i6
        · rw [if_pos c2, if_pos (by omega)]
        · rw [if_neg c2, if_neg (by omega)]
  · rw [if_neg (fun q => ce ((nI_eq (by omega) (by omega)).mp q).symm), nI_1]
    exact ⟨_, rfl, ⟨Z, i6, i + 1, rfl, by omega, by omega, mat_s2 i3 sD sF hd0 hd1 ce hsub, by omega, f1, f2, f3, f4, f5, f6⟩, hmeas⟩
