/-! THE PURE SIDE: the class's merges close up -/
theorem C_endShift {X : gX} {A : zA} {nm : Nat → Nat} {k k' j q : Nat} {V : zV} {m : zM} (h : RC X (sV1 A 54 V) nm k') (hm : Mid0 (aFn A j V) k) (hk : k ≤ 600) (hk' : k' ≤ 600) (hj : (aM A)[j]? = some m) (h30 : aS A 30 = nI (aM A).length) (h4 : (aM A).length ≤ 4) (hq : X.G 20 j = some q) (hqm : gMer q = true) : ∃ Y, f_Le_endMerge_19 X (nI j) (some q) = some (gR.v, Y) ∧ RC Y (aTf (aTdy (aFn A j V))) nm k' ∧ frC X Y := by
  have hjl := vs_lt hj
  have e12 : X.I 0 12 = nI (aM A).length := (cS_30 h.1).trans h30
  have em1 : nI (aM A).length - 1 = nI ((aM A).length - 1) := nI_m1 (by omega)
  unfold f_Le_endMerge_19
  have key : ∃ r, gI (fun s : gX × Int32 => f_Le_endMerge_22 s.1 (some q) s.2) gK (X, nI j) = some r ∧ ∃ Y, r = (gR.v, Y) ∧ RC Y (aTf (aTdy (aFn A j V))) nm k' ∧ frC X Y := by
    refine gI_wf (body := fun s : gX × Int32 => f_Le_endMerge_22 s.1 (some q) s.2) (fun s => ∃ Z i, s = (Z, nI i) ∧ j ≤ i ∧ i ≤ (aM A).length - 1 ∧ Z.I = X.I ∧ (∀ b, b ≠ 20 → Z.G b = X.G b) ∧ (∀ t, Z.G 20 t = if j ≤ t ∧ t < i then X.G 20 (t + 1) else X.G 20 t) ∧ gEq X Z) (fun r => ∃ Y, r = (gR.v, Y) ∧ RC Y (aTf (aTdy (aFn A j V))) nm k' ∧ frC X Y) (fun s => 4 - gn s.2) (by show 4 - gn (nI j) ≤ 100000; omega) ⟨X, j, rfl, Nat.le_refl _, by omega, rfl, fun _ _ => rfl, fun t => by rw [if_neg (by omega)], gEq.rf⟩ (fun s hI => ?_)
    obtain ⟨Z, i, rfl, i1, i2, i3, i4, i5, i6⟩ := hI
    show (∃ s', f_Le_endMerge_22 Z (some q) (nI i) = _ ∧ _) ∨ (∃ r, f_Le_endMerge_22 Z (some q) (nI i) = _ ∧ _)
    unfold f_Le_endMerge_22
    rw [i3, e12, em1]
    by_cases ci : (aM A).length - 1 ≤ i
    · right
      have hi : i = (aM A).length - 1 := by omega
      have om : gOm (some q) = true := hqm
      rw [if_pos (nI_le ci (by omega)), if_pos (gIn_nI (by omega) (by omega)), if_pos om, gn_nI (by omega), gB_b, gB_b]
      have e12' : (Z.g 20 ((aM A).length - 1) (some q)).I 0 12 - 1 = nI ((aM A).length - 1) := by
        show Z.I 0 12 - 1 = _
        rw [i3, e12, em1]
      rw [e12']
      have yG : ∀ t, ((Z.g 20 ((aM A).length - 1) (some q)).w 0 12 (nI ((aM A).length - 1))).G 20 t = if t = (aM A).length - 1 then some q else if j ≤ t ∧ t < (aM A).length - 1 then X.G 20 (t + 1) else X.G 20 t := fun t => by
        rw [w_G]
        by_cases c : t = (aM A).length - 1
        · rw [if_pos c, g_same c]
        · rw [if_neg c, g_oth (Or.inr c), i5, hi]
      have yGo : ∀ b, b ≠ 20 → ((Z.g 20 ((aM A).length - 1) (some q)).w 0 12 (nI ((aM A).length - 1))).G b = X.G b := fun b hb => by rw [w_G, gX.g_ne hb]; exact i4 b hb
      have yI : ∀ b, b ≠ 0 → ((Z.g 20 ((aM A).length - 1) (some q)).w 0 12 (nI ((aM A).length - 1))).I b = X.I b := fun b hb => by rw [gX.w_ne hb]; show Z.I b = _; rw [i3]
      have y0 : ∀ t, t ≠ 12 → ((Z.g 20 ((aM A).length - 1) (some q)).w 0 12 (nI ((aM A).length - 1))).I 0 t = X.I 0 t := fun t ht => by rw [w_oth (Or.inr ht)]; show Z.I 0 t = _; rw [i3]
      have y12 : ((Z.g 20 ((aM A).length - 1) (some q)).w 0 12 (nI ((aM A).length - 1))).I 0 12 = nI ((aM A).length - 1) := w_same rfl
      have yE : gEq X ((Z.g 20 ((aM A).length - 1) (some q)).w 0 12 (nI ((aM A).length - 1))) := i6.g.w
      generalize (Z.g 20 ((aM A).length - 1) (some q)).w 0 12 (nI ((aM A).length - 1)) = Y at yG yGo yI y0 y12 yE ⊢
      have hRC : RC Y (aFn A j V) nm k' := by
        obtain ⟨q1, q2, q3, q4, q5, q6, q7⟩ := h
        have cSS : aS (aFn A j V) = upd (aS A) 30 (nI ((aM A).length - 1)) := by
          show upd (aS A) 30 (aS A 30 - 1) = _
          rw [h30, em1]
        refine ⟨?_, ?_, ?_, ?_, ?_, ?_, RR_fr q7 yE⟩
        · intro p hp
          rw [cSS]
          have hb := q1 p hp
          unfold cTab at hp
          simp only [List.mem_cons, List.mem_nil_iff, or_false] at hp
          rcases hp with rfl | rfl | rfl | rfl | rfl | rfl | rfl | rfl | rfl | rfl | rfl | rfl | rfl <;> first | (rw [yI _ (by decide)]; exact hb) | (rw [y0 _ (by decide)]; exact hb) | exact y12
        · intro r
          rw [cSS] at r ⊢
          rw [y0 9 (by decide)]
          exact q2 r
        · unfold cE at q3 ⊢
          rw [yI 2 (by omega), yI 3 (by omega), yI 4 (by omega)]
          exact q3
        · exact cT_fr q4 (by rw [yI 6 (by omega)]) (by rw [yI 7 (by omega)]) (yGo 130 (by omega)) (yGo 131 (by omega)) yE (fun b t hb _ => by rw [yI b (by omega)])
        · obtain ⟨⟨h1, h2⟩, ⟨c, p, k1, k2, k3, k4, k5⟩, h4'⟩ := q5
          obtain ⟨v5, v6, v7, v8, v1, v2, v3, v4⟩ := cpq_v k1
          have fr : ∀ v U, 8 ≤ v → (v ≤ 17 ∨ 20 ≤ v) → CV X v nm U → CV Y v nm U := fun v U hv hv2 r => CV_fr r (yI _ (by omega)) (yGo _ (by omega)) (yGo _ (by omega)) (yI _ (by omega))
          refine ⟨⟨fun r => ?_, ?_⟩, ⟨c, p, k1, ?_, ?_, fun r => ?_, fun r => ?_⟩, fun i hi => ?_⟩
          · rw [cSS] at r
            exact fr 8 _ (by omega) (by omega) (h1 r)
          · rw [yGo 8 (by omega)]; exact h2
          · rw [yGo 0 (by omega)]; exact k2
          · rw [yGo 0 (by omega)]; exact k3
          · rw [cSS] at r
            rw [yGo c (by omega)]
            exact ⟨fr c _ (by omega) (by omega) (k4 r).1, (k4 r).2⟩
          · rw [cSS] at r
            rw [yGo p (by omega)]
            exact ⟨fr p _ (by omega) (by omega) (k5 r).1, (k5 r).2⟩
          · have r := h4' i hi
            show cR Y i nm (aV (sV1 A 54 V) (84 + 8 * i))
            unfold cR at r ⊢
            rw [yI (26 + 5 * i) (by omega)]
            rcases r with r | ⟨r1, r2, r3, r4⟩
            · exact Or.inl r
            · exact Or.inr ⟨r1, r2, r3, fr _ _ (by omega) (by omega) r4⟩
        · obtain ⟨⟨m1, m2⟩, m3⟩ := q6
          have rot : ∀ t, t < 4 → ∃ t', t' < 4 ∧ Y.G 20 t = X.G 20 t' ∧ ((t < j ∧ t' = t) ∨ (j ≤ t ∧ t < (aM A).length - 1 ∧ t' = t + 1) ∨ (t = (aM A).length - 1 ∧ t' = j) ∨ ((aM A).length ≤ t ∧ t' = t)) := fun t ht => by
            rw [yG]
            by_cases c : t = (aM A).length - 1
            · rw [if_pos c]
              exact ⟨j, by omega, hq.symm, by omega⟩
            · rw [if_neg c]
              by_cases c2 : j ≤ t ∧ t < (aM A).length - 1
              · rw [if_pos c2]
                exact ⟨t + 1, by omega, rfl, by omega⟩
              · rw [if_neg c2]
                exact ⟨t, ht, rfl, by omega⟩
          refine ⟨⟨fun t ht => ?_, fun t t' ht ht' e => ?_⟩, fun i m' hi hm' => ?_⟩
          · obtain ⟨u, u1, u2, -⟩ := rot t ht
            rw [u2]
            exact m1 u u1
          · obtain ⟨u, u1, u2, u3⟩ := rot t ht
            obtain ⟨u', u1', u2', u3'⟩ := rot t' ht'
            rw [u2, u2'] at e
            have := m2 u u' u1 u1' e
            omega
          · have hm'' : ((aM A).eraseIdx j)[i]? = some m' := hm'
            rw [List.getElem?_eraseIdx] at hm''
            by_cases c : i < j
            · rw [if_pos c] at hm''
              obtain ⟨n', r1, r2, r3, r4, r5, r6⟩ := m3 i m' hi hm''
              have hr := gMer_r r2
              refine ⟨n', by rw [yG, if_neg (by omega), if_neg (by omega)]; exact r1, r2, ?_, ?_, ?_, ?_⟩
              · rw [yI n' (by omega)]; exact r3
              · rw [yI n' (by omega)]; exact r4
              · rw [yI n' (by omega)]; exact r5
              · rw [yGo n' (by omega)]; exact r6
            · rw [if_neg c] at hm''
              have hil := vs_lt hm''
              obtain ⟨n', r1, r2, r3, r4, r5, r6⟩ := m3 (i + 1) m' (by omega) hm''
              have hr := gMer_r r2
              refine ⟨n', by rw [yG, if_neg (by omega), if_pos (by omega)]; exact r1, r2, ?_, ?_, ?_, ?_⟩
              · rw [yI n' (by omega)]; exact r3
              · rw [yI n' (by omega)]; exact r4
              · rw [yI n' (by omega)]; exact r5
              · rw [yGo n' (by omega)]; exact r6
      have hfr : frC X Y := ⟨fun b hb => yI b (by omega), yGo 121 (by omega)⟩
      obtain ⟨U, T, u1, u2, u3, u4⟩ := C_tidy2 hRC hm hk hk'
      rw [u1, gCv_v, u2, gCv_v, gLf_s]
      exact ⟨_, rfl, T, rfl, u3, hfr.tr u4⟩
    · left
      obtain ⟨q', r1, r2⟩ := h.2.2.2.2.2.1.1.1 (i + 1) (by omega)
      have e20 : Z.G 20 (i + 1) = some q' := by rw [i5, if_neg (by omega)]; exact r1
      rw [if_neg (nI_ge (by omega) (by omega)), nI_1, if_pos (gIn_nI (by omega) (by omega)), if_pos (gIn_nI (by omega) (by omega)), gn_nI (k := i + 1) (by omega), gn_nI (k := i) (by omega), e20, if_pos (show gOm (some q') = true from r2), gB_b]
      refine ⟨_, rfl, ⟨_, i + 1, rfl, by omega, by omega, i3, fun b hb => ?_, fun t => ?_, i6.g⟩, ?_⟩
      · rw [gX.g_ne hb]; exact i4 b hb
      · by_cases c : t = i
        · rw [g_same c, if_pos (by omega), c, r1]
        · rw [g_oth (Or.inr c), i5]
          by_cases c2 : j ≤ t ∧ t < i
          · rw [if_pos c2, if_pos (by omega)]
          · rw [if_neg c2, if_neg (by omega)]
      · show 4 - gn (nI (i + 1)) < 4 - _
        rw [gn_nI (by omega)]
        omega
  obtain ⟨r, r1, Y, rfl, r2, r3⟩ := key
  exact ⟨Y, r1, r2, r3⟩
def fnV (A : zA) (m : zM) (a n : Nat) (b : Bool) : zV := if b = true then fkV A m a n else fgV A a n
theorem Mid0_fnV {A : zA} {k j a n : Nat} {m : zM} {b : Bool} (h : Mid0 A k) (hj : (aM A)[j]? = some m) (hp : MP A m a n) : Mid0 (aFn A j (fnV A m a n b)) k := by
  unfold fnV
  cases b with
  | true => rw [if_pos rfl]; exact Mid0_keep h hj hp
  | false => rw [if_neg (by decide)]; exact Mid0_give h hj hp
theorem C_endMerge {X : gX} {A : zA} {nm : Nat → Nat} {k k' j a n : Nat} {m : zM} {b : Bool} (h : RC X A nm k') (hm : Mid0 A k) (hk : k ≤ 600) (hk' : k' ≤ 600) (hj : (aM A)[j]? = some m) (hp : MP A m a n) : ∃ Y, f_Le_endMerge X (nI j) (b2i b) = some (gR.v, Y) ∧ RC Y (aTf (aTdy (aFn A j (fnV A m a n b)))) nm k' ∧ frC X Y := by
  have hjl := vs_lt hj
  have h30 := hm.2.1.2.2.1.1
  have h4 := hm.2.1.2.2.1.2
  obtain ⟨q, r1, r2, r3, r4, r5, r6⟩ := (RC_M h).2 j m (by omega) hj
  have hq' := gMer_r r2
  have hmid := Mid0_fnV (b := b) hm hj hp
  unfold f_Le_endMerge
  rw [if_pos (gIn_nI (show j < 4 by omega) (by omega)), gn_nI (by omega), r1]
  unfold fnV at hmid ⊢
  cases b with
  | false =>
    rw [if_neg (show ¬ false = true by decide)] at hmid ⊢
    rw [if_pos b2i_f]
    have hRC : RC X (sV1 A 54 (fgV A a n)) nm k' := RC_V54 h frV.rf (fun o => CV_mk ((RC_W h).1.1 o))
    exact C_endShift hRC hmid hk hk' hj h30 h4 r1 r2
  | true =>
    rw [if_pos rfl] at hmid ⊢
    obtain ⟨Y, y1, y2, y3⟩ := C_replace h hm hp (vs_mem hj) r4 r5 r6 r2
    rw [if_neg (show ¬ b2i true = 0 by decide), gM_s, if_pos r2, y1, gCv_v]
    obtain ⟨Z, z1, z2, z3⟩ := C_endShift y2 hmid hk hk' hj h30 h4 (show Y.G 20 j = some q by rw [y3.2.1 20 (by omega) (by omega)]; exact r1) r2
    exact ⟨Z, z1, z2, (y3.C (by omega)).tr z3⟩
