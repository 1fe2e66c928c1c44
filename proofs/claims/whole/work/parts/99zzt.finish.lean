/-! THE PURE SIDE: the call finish -/
theorem z_end84 {X : gX} {j a n : Nat} (ha : a + n ≤ 4096) (P : gR × gX → Prop) (hP : ∀ Z, frI (sVe 54) X Z → (∀ b, b ≠ 58 → Z.I b = X.I b) → (∀ t, Z.I 58 t = if a ≤ t ∧ t < a + n then nI 0 else X.I 58 t) → ∃ q, f_Mo_ending_108 Z (nI j) = some q ∧ P q) : ∃ q, gI (fun s : gX × Int32 => f_Mo_ending_84 s.1 (nI j) (nI (a + n)) s.2) gK (X, nI a) = some q ∧ P q := by
  refine gI_wf (body := fun s : gX × Int32 => f_Mo_ending_84 s.1 (nI j) (nI (a + n)) s.2) (fun s => ∃ Z i, s = (Z, nI i) ∧ a ≤ i ∧ i ≤ a + n ∧ frI (sVe 54) X Z ∧ (∀ b, b ≠ 58 → Z.I b = X.I b) ∧ ∀ t, Z.I 58 t = if a ≤ t ∧ t < i then nI 0 else X.I 58 t) P (fun s => a + n - gn s.2) (by show a + n - gn (nI a) ≤ 100000; omega) ⟨X, a, rfl, Nat.le_refl _, by omega, ⟨fun _ _ => rfl, rfl, gEq.rf⟩, fun _ _ => rfl, fun t => by rw [if_neg (by omega)]⟩ (fun s hI => ?_)
  obtain ⟨Z, i, rfl, i1, i2, i3, i4, i5⟩ := hI
  show (∃ s', f_Mo_ending_84 Z (nI j) (nI (a + n)) (nI i) = _ ∧ _) ∨ (∃ q, f_Mo_ending_84 Z (nI j) (nI (a + n)) (nI i) = _ ∧ _)
  unfold f_Mo_ending_84
  by_cases ci : a + n ≤ i
  · right
    have hi : i = a + n := by omega
    subst hi
    obtain ⟨q, q1, q2⟩ := hP Z i3 i4 i5
    rw [if_pos (nI_le ci (by omega)), q1, gLf_s]
    exact ⟨q, rfl, q2⟩
  · left
    rw [if_neg (nI_ge (by omega) (by omega)), if_pos (gIn_nI (by omega) (by omega)), gn_nI (by omega), gB_b, nI_1]
    refine ⟨_, rfl, ⟨_, i + 1, rfl, by omega, by omega, ⟨fun b hb => ?_, i3.2.1, i3.2.2.w⟩, fun b hb => ?_, fun t => ?_⟩, ?_⟩
    · have : b ≠ 58 := fun e => by subst e; exact absurd hb (by decide)
      rw [gX.w_ne this]; exact i3.1 b hb
    · rw [gX.w_ne hb]; exact i4 b hb
    · rw [gX.w_self]
      show upd _ i _ t = _
      rw [upd_at, i5]
      by_cases c : t = i
      · rw [if_pos c, if_pos (by omega)]
        rfl
      · rw [if_neg c]
        by_cases c2 : a ≤ t ∧ t < i
        · rw [if_pos c2, if_pos (by omega)]
        · rw [if_neg c2, if_neg (by omega)]
    · show a + n - gn (nI (i + 1)) < a + n - i
      rw [gn_nI (by omega)]
      omega
theorem z_ending {X : gX} {A : zA} {k j a n : Nat} {m : zM} {b : Bool} (h : RM X A) (hm : Mid0 A k) (hk : k ≤ 600) (hj : (aM A)[j]? = some m) (hp : MP A m a n) : ∃ Y, f_Mo_ending X (nI j) (b2i b) = some (gR.v, Y) ∧ RM Y (aTdy (aFn A j (fnV A m a n b))) ∧ frM X Y ∧ Y.I 46 0 = X.I 46 0 := by
  have hjl := vs_lt hj
  have h30 := hm.2.1.2.2.1.1
  have h4 := hm.2.1.2.2.1.2
  have hB := VB_0 hm
  have hlen := hB.1
  have hV := RM_V h 54 rfl
  have hmid := Mid0_fnV (b := b) hm hj hp
  obtain ⟨p1, p2, p3⟩ := hp
  have e81 : X.I 81 j = nI m.1 := (h.2.2.2.2.2.2 j m hj).1
  have hm1 : m.1 < 1000000 := by
    have := (hm.2.2.2.2.1.2.1.1 m (vs_mem hj)).1.2
    have := hm.2.1.2.1.2.2.1.2
    omega
  have e58 : ∀ i x, (aV A 54).1[i]? = some x → X.I 58 i = nI x.2.2 := fun i x hx => hl_m (g := fun x : zS => nI x.2.2) hV.2.1.2.2 hx
  have jj : gIn (nI j) 4 = true := gIn_nI (by omega) (by omega)
  have h66 : ∃ Y, f_Mo_ending_66 X (nI j) (b2i b) (nI a) (nI (a + n)) = some (gR.v, Y) ∧ RM Y (aTdy (aFn A j (fnV A m a n b))) ∧ frM X Y ∧ Y.I 46 0 = X.I 46 0 := by
    unfold f_Mo_ending_66
    unfold fnV at hmid ⊢
    cases b with
    | false =>
      rw [if_neg (show ¬ false = true by decide)] at hmid ⊢
      rw [if_pos b2i_f]
      obtain ⟨q, q1, Y, rfl, q2⟩ := z_end84 (X := X) (j := j) (a := a) (n := n) (by omega) (fun q => ∃ Y, q = (gR.v, Y) ∧ RM Y (aTdy (aFn A j (fgV A a n))) ∧ frM X Y ∧ Y.I 46 0 = X.I 46 0) (fun Z z1 z2 z3 => by
        have hZ := RM_V54 (V := fgV A a n) h z1 (VR_mk hV (fun b b1 b2 b3 => z2 b b3) z3) (fun _ _ => rfl)
        obtain ⟨Y, y1, y2, y3, y4⟩ := z_end108 hZ.1 hmid hj h30 h4
        exact ⟨_, y1, Y, rfl, y2, hZ.2.1.tr y3, by rw [y4]; exact hZ.2.2⟩)
      exact ⟨Y, q1, q2⟩
    | true =>
      rw [if_pos rfl] at hmid ⊢
      obtain ⟨Z, z1, z2, z3⟩ := z_replace h hm hj ⟨p1, p2, p3⟩
      have hZ := RM_V54 (V := fkV A m a n) h z2 z3 (fun _ _ => rfl)
      obtain ⟨Y, y1, y2, y3, y4⟩ := z_end108 hZ.1 hmid hj h30 h4
      rw [if_neg (show ¬ b2i true = 0 by decide), z1, gCv_v, y1]
      exact ⟨Y, rfl, y2, hZ.2.1.tr y3, by rw [y4]; exact hZ.2.2⟩
  obtain ⟨Y, y1, y2⟩ := h66
  have hmk : ∀ i x, (aV A 54).1[i]? = some x → (nI x.2.2 = nI m.1 ↔ (a ≤ i ∧ i < a + n)) := fun i x hx => by
    rw [nI_eq (by have := hB.2.2 x (vs_mem hx); omega) (by omega)]
    exact p3 i x hx
  have h29 : gI (fun s : Int32 => f_Mo_ending_29 X (nI j) (b2i b) (nI a) s) gK (nI a) = some (gR.v, Y) := by
    have key := gI_ex (body := fun s : Int32 => f_Mo_ending_29 X (nI j) (b2i b) (nI a) s) (fun i => nI (a + i)) (fun _ => false) (fun _ => (gR.v, Y)) (gR.v, Y) n (by omega) (fun i hi _ => ?_) (fun i hi q => by cases q) ?_ (s0 := nI a) rfl
    · rcases key with ⟨_, _, q, _⟩ | ⟨_, e⟩
      · cases q
      · exact e
    · obtain ⟨x, hx⟩ := vs_at (l := (aV A 54).1) (s := a + i) (by omega)
      show f_Mo_ending_29 X (nI j) (b2i b) (nI a) (nI (a + i)) = _
      unfold f_Mo_ending_29
      rw [hV.1.1, if_neg (nI_ge (by omega) (by omega)), if_pos (gIn_nI (by omega) (by omega)), if_pos jj, gn_nI (k := a + i) (by omega), gn_nI (k := j) (by omega), e58 _ x hx, e81, if_pos ((hmk _ x hx).mpr (by omega)), nI_1]
      rfl
    · show f_Mo_ending_29 X (nI j) (b2i b) (nI a) (nI (a + n)) = _
      unfold f_Mo_ending_29
      rw [hV.1.1, y1]
      by_cases c : (aV A 54).1.length ≤ a + n
      · rw [if_pos (nI_le c (by omega)), gLf_s]
      · obtain ⟨x, hx⟩ := vs_at (l := (aV A 54).1) (s := a + n) (by omega)
        rw [if_neg (nI_ge (by omega) (by omega)), if_pos (gIn_nI (by omega) (by omega)), if_pos jj, gn_nI (k := a + n) (by omega), gn_nI (k := j) (by omega), e58 _ x hx, e81, if_neg (fun q => by have := (hmk _ x hx).mp q; omega), gLf_s]
  unfold f_Mo_ending
  have key := gI_ex (body := fun s : Int32 => f_Mo_ending_2 X (nI j) (b2i b) s) (fun i => nI i) (fun _ => false) (fun _ => (gR.v, Y)) (gR.v, Y) a (by omega) (fun i hi _ => ?_) (fun i hi q => by cases q) ?_ (s0 := 0) rfl
  · rcases key with ⟨_, _, q, _⟩ | ⟨_, e⟩
    · cases q
    · exact ⟨Y, e, y2⟩
  · obtain ⟨x, hx⟩ := vs_at (l := (aV A 54).1) (s := i) (by omega)
    show f_Mo_ending_2 X (nI j) (b2i b) (nI i) = _
    unfold f_Mo_ending_2
    rw [if_pos (gIn_nI (by omega) (by omega)), if_pos jj, gn_nI (k := i) (by omega), gn_nI (k := j) (by omega), e58 _ x hx, e81, if_neg (fun q => by have := (hmk _ x hx).mp q; omega), nI_1]
  · obtain ⟨x, hx⟩ := vs_at (l := (aV A 54).1) (s := a) (by omega)
    show f_Mo_ending_2 X (nI j) (b2i b) (nI a) = _
    unfold f_Mo_ending_2
    rw [if_pos (gIn_nI (by omega) (by omega)), if_pos jj, gn_nI (k := a) (by omega), gn_nI (k := j) (by omega), e58 _ x hx, e81, if_pos ((hmk _ x hx).mpr (by omega)), h29, gLf_s]
/-- which merge has the number -/
theorem mg_em (A : zA) (a : Int32) : (∃ (j : Nat) (m : zM), (aM A)[j]? = some m ∧ nI m.1 = a ∧ ∀ (i : Nat) (m' : zM), i < j → (aM A)[i]? = some m' → ¬ nI m'.1 = a) ∨ (∀ m', m' ∈ aM A → ¬ nI m'.1 = a) := by
  by_cases c : ∃ (j : Nat) (m : zM), (aM A)[j]? = some m ∧ nI m.1 = a
  · left
    obtain ⟨j, m, h1, h2⟩ := c
    induction j using Nat.strongRecOn generalizing m with
    | ind j ih =>
      by_cases c2 : ∃ (i : Nat) (m' : zM), i < j ∧ (aM A)[i]? = some m' ∧ nI m'.1 = a
      · obtain ⟨i, m', i1, i2, i3⟩ := c2
        exact ih i i1 m' i2 i3
      · exact ⟨j, m, h1, h2, fun i m' hi hm' q => c2 ⟨i, m', hi, hm', q⟩⟩
  · right
    intro m' hm' q
    obtain ⟨j, hj⟩ := List.getElem?_of_mem hm'
    exact c ⟨j, m', hj, q⟩
theorem KK_fn {A : zA} {k j a n : Nat} {m : zM} {b : Bool} (hm : Mid0 A k) (hj : (aM A)[j]? = some m) (h : KK A) : KK (aFn A j (fnV A m a n b)) := by
  intro _
  obtain ⟨h1, h2, h3⟩ := h hm.1
  have m2 := hm.2.2.2.2.1.2.1.2.1
  have eS : ∀ i, i ≠ 30 → aS (aFn A j (fnV A m a n b)) i = aS A i := fun i hi => by
    show upd (aS A) 30 (aS A 30 - 1) i = _
    rw [upd_at, if_neg hi]
  have eV : ∀ v, v ≠ 54 → aV (aFn A j (fnV A m a n b)) v = aV A v := fun v hv => if_neg hv
  have e54 : (aV (aFn A j (fnV A m a n b)) 54).1 = (fnV A m a n b).1 := rfl
  have eM : aM (aFn A j (fnV A m a n b)) = (aM A).eraseIdx j := rfl
  have eT : aT (aFn A j (fnV A m a n b)) = aT A := rfl
  have mem : ∀ y, y ∈ (fnV A m a n b).1 → (∃ x, x ∈ (aV A 54).1 ∧ x.1 = y.1 ∧ x.2.1 = y.2.1) ∨ (y.1 = m.2.1 ∧ y.2.1 = none) := fun y hy => by
    unfold fnV at hy
    cases b with
    | false =>
      rw [if_neg (by decide)] at hy
      obtain ⟨i, x, i1, i2, i3⟩ := mkR_mem hy
      left
      rw [i3]
      exact ⟨x, vs_mem i1, mkR_o.1.symm, mkR_o.2.symm⟩
    | true =>
      rw [if_pos rfl] at hy
      rcases List.mem_append.mp hy with q | q
      · exact Or.inl ⟨y, List.mem_of_mem_take q, rfl, rfl⟩
      · rcases List.mem_cons.mp q with q | q
        · right
          rw [q]
          exact ⟨rfl, rfl⟩
        · exact Or.inl ⟨y, List.mem_of_mem_drop q, rfl, rfl⟩
  refine ⟨fun y hy hy2 => ?_, fun m' hm' => ?_, by rw [eM]; exact h3.sublist (List.eraseIdx_sublist _ _)⟩
  · rw [e54] at hy
    rw [eT] at hy2
    unfold KW
    rw [eS 19 (by decide), eS 20 (by decide), eV 70 (by decide), eV 62 (by decide)]
    rcases mem y hy with ⟨x, x1, x2, x3⟩ | ⟨q, _⟩
    · rw [← x2] at hy2 ⊢
      exact h1 x x1 hy2
    · rw [q, (h2 m (vs_mem hj)).1] at hy2
      cases hy2
  · rw [eM, List.mem_eraseIdx_iff_getElem?] at hm'
    obtain ⟨i, i1, i2⟩ := hm'
    rw [eT, e54]
    refine ⟨(h2 m' (vs_mem i2)).1, fun y hy => ?_⟩
    rcases mem y hy with ⟨x, x1, x2, x3⟩ | ⟨q, q2⟩
    · rw [← x2, ← x3]
      exact (h2 m' (vs_mem i2)).2 x x1
    · rw [q, q2]
      refine ⟨?_, by simp⟩
      rcases Nat.lt_trichotomy i j with c | c | c
      · exact fun e => (pw_at h3 i2 hj c) e.symm
      · exact absurd c i1
      · exact pw_at (R := fun m m' : zM => m.2.1 ≠ m'.2.1) h3 hj i2 c
theorem L_finish {X : gX} {k : Nat} {a : Int32} {b : Bool} (h : JJ X k) (hk : k < 600) : LI (f_Lw_finish X a (b2i b)) (fun Y => f_Mo_finish Y a (b2i b)) k := by
  obtain ⟨A, nm, hM, hC, hI, h0, hK⟩ := h
  have lim := RC_lim hC (by omega)
  have hI1 := Inv_mono hI (Nat.le_succ k)
  have h30 := hI.1.2.2.1.1
  have h4 := hI.1.2.2.1.2
  have scan : ∀ Y, RM Y A → ∀ q, ((∃ (j : Nat) (m : zM), (aM A)[j]? = some m ∧ nI m.1 = a ∧ (∀ (i : Nat) (m' : zM), i < j → (aM A)[i]? = some m' → ¬ nI m'.1 = a) ∧ f_Mo_finish_26 Y (b2i b) (nI j) = some q) ∨ ((∀ m', m' ∈ aM A → ¬ nI m'.1 = a) ∧ f_Mo_finish_26 Y (b2i b) (nI (aM A).length) = some q)) → f_Mo_finish Y a (b2i b) = some q := fun Y hY q hq => by
    unfold f_Mo_finish
    have e30 : Y.I 46 30 = nI (aM A).length := (RM_S hY 30 (by decide) (by decide) (by decide)).trans h30
    have step : ∀ (i : Nat) (m' : zM), (aM A)[i]? = some m' → ¬ nI m'.1 = a → f_Mo_finish_2 Y a (b2i b) (nI i) = some (Sum.inl (nI (i + 1))) := fun i m' hm' hne => by
      have hil := vs_lt hm'
      unfold f_Mo_finish_2
      rw [e30, if_neg (nI_ge hil (by omega)), if_pos (gIn_nI (by omega) (by omega)), gn_nI (by omega), (hY.2.2.2.2.2.2 i m' hm').1, if_neg hne, nI_1]
    rcases hq with ⟨j, m, j1, j2, j3, j4⟩ | ⟨j3, j4⟩
    · have hjl := vs_lt j1
      have key := gI_ex (body := fun s : Int32 => f_Mo_finish_2 Y a (b2i b) s) (fun i => nI i) (fun _ => false) (fun _ => q) q j (by omega) (fun i hi _ => ?_) (fun i hi r => by cases r) ?_ (s0 := 0) rfl
      · rcases key with ⟨_, _, r, _⟩ | ⟨_, e⟩
        · cases r
        · exact e
      · obtain ⟨m', hm'⟩ := vs_at (l := aM A) (s := i) (by omega)
        exact step i m' hm' (j3 i m' hi hm')
      · show f_Mo_finish_2 Y a (b2i b) (nI j) = _
        unfold f_Mo_finish_2
        rw [e30, if_neg (nI_ge hjl (by omega)), if_pos (gIn_nI (by omega) (by omega)), gn_nI (by omega), (hY.2.2.2.2.2.2 j m j1).1, if_pos j2, j4, gLf_s]
    · have key := gI_ex (body := fun s : Int32 => f_Mo_finish_2 Y a (b2i b) s) (fun i => nI i) (fun _ => false) (fun _ => q) q (aM A).length (by omega) (fun i hi _ => ?_) (fun i hi r => by cases r) ?_ (s0 := 0) rfl
      · rcases key with ⟨_, _, r, _⟩ | ⟨_, e⟩
        · cases r
        · exact e
      · obtain ⟨m', hm'⟩ := vs_at (l := aM A) (s := i) hi
        exact step i m' hm' (j3 m' (vs_mem hm'))
      · show f_Mo_finish_2 Y a (b2i b) (nI (aM A).length) = _
        unfold f_Mo_finish_2
        rw [e30, if_pos (nI_le (Nat.le_refl _) (by omega)), j4, gLf_s]
  by_cases o : aS A 18 = 0
  · refine LI_ref (p := 1) (e := 2) (v := 0) (by omega) hM hC hI h0 hK ?_ (fun Y hY hY0 => ?_)
    · unfold f_Lw_finish f_Le_finish f_Le_requireWriter
      rw [cS_18 hC.1, if_pos o, gCvt_t, gCit_t, if_pos rfl, if_pos lim]
      rfl
    · have q26 : ∀ j, f_Mo_finish_26 Y (b2i b) j = some (gR.i 0, Xd (Y.w 46 0 2) 1) := fun j => by
        unfold f_Mo_finish_26 f_Mo_finish_39 f_Mo_finish_67
        rw [RM_S hY 18 (by decide) (by decide) (by decide), if_pos o, s_wrong1 hY0 (by decide), gCi_i, if_neg (show ¬ (1 : Int32) = 0 by decide), z_done_23_2 (w_same rfl), gCi_i]
      refine scan Y hY _ ?_
      rcases mg_em A a with ⟨j, m, j1, j2, j3⟩ | j3
      · exact Or.inl ⟨j, m, j1, j2, j3, q26 _⟩
      · exact Or.inr ⟨j3, q26 _⟩
  have e39 : ∀ Y, RM Y A → Y.I 46 0 = 0 → ∀ j, f_Mo_finish_26 Y (b2i b) j = (if j = nI (aM A).length then f_Mo_finish_60 Y (b2i b) j 1 else f_Mo_finish_60 Y (b2i b) j 0) := fun Y hY hY0 j => by
    unfold f_Mo_finish_26 f_Mo_finish_39
    rw [RM_S hY 18 (by decide) (by decide) (by decide), if_neg o, s_wrong0 hY0, gCi_i, if_pos rfl, RM_S hY 30 (by decide) (by decide) (by decide), h30]
  rcases mg_em A a with ⟨j, m, j1, j2, j3⟩ | j3
  · have hjl := vs_lt j1
    have hm0 := Mid0_of hI1 o
    obtain ⟨p, n, hp⟩ := MP_ex hm0.2.2.2.2.1.1 (hm0.2.2.2.2.1.2.1.1 m (vs_mem j1))
    have hmid := Mid0_fnV (b := b) hm0 j1 hp
    have hPre := Pre_tdy hmid
    obtain ⟨Y, y1, y2, y3⟩ := C_endMerge (b := b) hC hm0 (by omega) (by omega) j1 hp
    have eV : (aTf (aTdy (aFn A j (fnV A m p n b)))).1 = (aTdy (aFn A j (fnV A m p n b))).1 ∧ aV (aTf (aTdy (aFn A j (fnV A m p n b)))) = aV (aTdy (aFn A j (fnV A m p n b))) := by
      unfold aTf
      split <;> exact ⟨rfl, rfl⟩
    have o' : ¬ aS (aTf (aTdy (aFn A j (fnV A m p n b)))) 18 = 0 := by
      show ¬ (aTf (aTdy (aFn A j (fnV A m p n b)))).1 18 = 0
      rw [eV.1]
      exact hmid.1
    have e84 : Y.I 8 4 = nI (aV (aTdy (aFn A j (fnV A m p n b))) 54).1.length := by
      rw [((RC_W y2).1.1 o').1, eV.2]
    have hMY : RM (Y.w 116 0 (nI (aV (aTdy (aFn A j (fnV A m p n b))) 54).1.length)) A := RM_frC hM (y3.w (by omega))
    have e0 : (Y.w 116 0 (nI (aV (aTdy (aFn A j (fnV A m p n b))) 54).1.length)).I 46 0 = 0 := by rw [gX.w_ne (by decide), y3.1 46 (by omega)]; exact h0
    obtain ⟨Z, z1, z2, z3, z4⟩ := z_ending (b := b) hMY hm0 (by omega) j1 hp
    have z0 : Z.I 46 0 = 0 := by rw [z4]; exact e0
    obtain ⟨U, u1, u2, u3⟩ := z_finT (v := nI (aV (aTdy (aFn A j (fnV A m p n b))) 54).1.length) (v' := nI (aV (aTdy (aFn A j (fnV A m p n b))) 54).1.length) (L := 23) (p := 0) z2 hPre (fun V hV => z_done_23_0 (hV.trans z0))
    refine LI_ok (X := X) (Y := X) (Y0 := Y) (v := nI (aV (aTdy (aFn A j (fnV A m p n b))) 54).1.length) ?_ y2 (Z := U) ?_ u2 (z3.tr u3) (Inv_tf hPre) (KK_tf (KK_tdy (KK_fn hm0 j1 hK)))
    · unfold f_Lw_finish f_Le_finish f_Le_requireWriter
      rw [cS_18 hC.1, if_neg o, gCvt_v, C_placeSome (RC_M hC) ((cS_30 hC.1).trans h30) h4 j1 j2 j3, gCi_i, if_pos (nI_pos' (by omega)), y1, gCv_v, gCit_i, gB_b, e84]
    · refine scan _ hMY _ (Or.inl ⟨j, m, j1, j2, j3, ?_⟩)
      rw [e39 _ hMY e0, if_neg (fun q => by have := (nI_eq (by omega) (by omega)).mp q; omega)]
      unfold f_Mo_finish_60
      rw [s_wrong0 e0, gCi_i, if_pos rfl, z1, gCv_v, (RM_V z2 54 rfl).1.1, u1, gCi_i]
  · refine LI_ref (p := 2) (e := 3) (v := 0) (by omega) hM hC hI h0 hK ?_ (fun Y hY hY0 => ?_)
    · unfold f_Lw_finish f_Le_finish f_Le_requireWriter
      rw [cS_18 hC.1, if_neg o, gCvt_v, C_placeNone (RC_M hC) ((cS_30 hC.1).trans h30) h4 j3, gCi_i, if_neg (show ¬ (0 : Int32) ≤ -1 by decide), gCit_t, if_neg (by decide), if_pos rfl, if_pos lim]
      rfl
    · refine scan Y hY _ (Or.inr ⟨j3, ?_⟩)
      rw [e39 Y hY hY0, if_pos rfl]
      unfold f_Mo_finish_60 f_Mo_finish_67
      rw [s_wrong1 hY0 (by decide), gCi_i, if_neg (show ¬ (1 : Int32) = 0 by decide), z_done_23_3 (w_same rfl), gCi_i]
