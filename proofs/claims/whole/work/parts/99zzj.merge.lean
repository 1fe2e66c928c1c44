/-! THE PURE SIDE: the call merge -/
theorem z_mg215 {Y : gX} {a n v c w d : Nat} (h33 : Y.I 46 33 = nI n) (h30 : Y.I 46 30 = nI c) (h34 : Y.I 46 34 = nI v) (hc : c < 4) (han : a + n ≤ 4096) (P : gR × gX → Prop) (hP : ∀ Z, (∀ b, b ≠ 58 → b ≠ 46 → b ≠ 80 → b ≠ 81 → b ≠ 82 → Z.I b = Y.I b) → Z.G = Y.G → gEq Y Z → (∀ j, Z.I 46 j = if j = 30 then nI (c + 1) else Y.I 46 j) → (∀ j, Z.I 58 j = if a ≤ j ∧ j < a + n then nI v else Y.I 58 j) → (∀ j, Z.I 80 j = if j = c then nI d else Y.I 80 j) → (∀ j, Z.I 81 j = if j = c then nI v else Y.I 81 j) → (∀ j, Z.I 82 j = if j = c then nI w else Y.I 82 j) → ∃ r, gCi (ρ := (gX × Int32) ⊕ (gR × gX)) (f_Mo_finished Z (nI v) 12356) (fun x26 X26 => gLf (some (gR.i x26, X26))) = some (Sum.inr r) ∧ P r) : ∃ r, gI (fun s : gX × Int32 => f_Mo_merge_215 s.1 (nI a) (nI w) (nI d) s.2) gK (Y, nI a) = some r ∧ P r := by
  refine gI_wf (body := fun s : gX × Int32 => f_Mo_merge_215 s.1 (nI a) (nI w) (nI d) s.2) (fun s => ∃ Z i, s = (Z, nI i) ∧ a ≤ i ∧ i ≤ a + n ∧ (∀ b, b ≠ 58 → Z.I b = Y.I b) ∧ Z.G = Y.G ∧ gEq Y Z ∧ ∀ j, Z.I 58 j = if a ≤ j ∧ j < i then nI v else Y.I 58 j) P (fun s => a + n - gn s.2) (by show a + n - gn (nI a) ≤ 100000; omega) ⟨Y, a, rfl, Nat.le_refl _, by omega, fun _ _ => rfl, rfl, gEq.rf, fun j => by rw [if_neg (by omega)]⟩ (fun s hI => ?_)
  obtain ⟨Z, i, rfl, i1, i2, i3, i4, i5, i6⟩ := hI
  show (∃ s', f_Mo_merge_215 Z (nI a) (nI w) (nI d) (nI i) = _ ∧ _) ∨ (∃ r, f_Mo_merge_215 Z (nI a) (nI w) (nI d) (nI i) = _ ∧ _)
  unfold f_Mo_merge_215
  rw [i3 46 (by decide), h33, h30, h34, nI_add]
  by_cases ci : a + n ≤ i
  · right
    have hi : i = a + n := by omega
    have e1 : (Z.w 80 c (nI d)).I 46 30 = nI c := by rw [gX.w_ne (by decide), i3 46 (by decide), h30]
    have e2 : (Z.w 80 c (nI d)).I 46 34 = nI v := by rw [gX.w_ne (by decide), i3 46 (by decide), h34]
    have e3 : ((Z.w 80 c (nI d)).w 81 c (nI v)).I 46 30 = nI c := by rw [gX.w_ne (by decide), e1]
    have e4 : (((Z.w 80 c (nI d)).w 81 c (nI v)).w 82 c (nI w)).I 46 30 = nI c := by rw [gX.w_ne (by decide), e3]
    have e5 : ((((Z.w 80 c (nI d)).w 81 c (nI v)).w 82 c (nI w)).w 46 30 (nI (c + 1))).I 46 34 = nI v := by rw [w_oth (Or.inr (by decide)), gX.w_ne (by decide), gX.w_ne (by decide), e2]
    rw [if_pos (nI_le ci (by omega)), if_pos (gIn_nI hc (by omega)), gn_nI (by omega), gB_b, e1, e2, if_pos (gIn_nI hc (by omega)), gn_nI (by omega), gB_b, e3, if_pos (gIn_nI hc (by omega)), gn_nI (by omega), gB_b, e4, nI_1, gB_b, e5]
    refine hP _ (fun b b1 b2 b3 b4 b5 => ?_) ?_ ?_ (fun j => ?_) (fun j => ?_) (fun j => ?_) (fun j => ?_) (fun j => ?_)
    · rw [gX.w_ne b2, gX.w_ne b5, gX.w_ne b4, gX.w_ne b3]; exact i3 b b1
    · exact i4
    · exact i5.w.w.w.w
    · rw [gX.w_self]
      show upd _ 30 _ j = _
      rw [upd_at, gX.w_ne (by decide), gX.w_ne (by decide), gX.w_ne (by decide), i3 46 (by decide)]
    · rw [gX.w_ne (by decide), gX.w_ne (by decide), gX.w_ne (by decide), gX.w_ne (by decide), i6, hi]
    · rw [gX.w_ne (by decide), gX.w_ne (by decide), gX.w_ne (by decide), gX.w_self]
      show upd _ c _ j = _
      rw [upd_at, i3 80 (by decide)]
    · rw [gX.w_ne (by decide), gX.w_ne (by decide), gX.w_self]
      show upd _ c _ j = _
      rw [upd_at, gX.w_ne (by decide), i3 81 (by decide)]
    · rw [gX.w_ne (by decide), gX.w_self]
      show upd _ c _ j = _
      rw [upd_at, gX.w_ne (by decide), gX.w_ne (by decide), i3 82 (by decide)]
  · left
    rw [if_neg (nI_ge (by omega) (by omega)), if_pos (gIn_nI (by omega) (by omega)), gn_nI (by omega), gB_b, nI_1]
    refine ⟨_, rfl, ⟨_, i + 1, rfl, by omega, by omega, fun b hb => ?_, i4, i5.w, fun j => ?_⟩, ?_⟩
    · rw [gX.w_ne hb]; exact i3 b hb
    · rw [gX.w_self]
      show upd _ i _ j = _
      rw [upd_at, i6]
      by_cases cj : j = i
      · rw [if_pos cj, if_pos (by omega)]
      · rw [if_neg cj]
        by_cases c2 : a ≤ j ∧ j < i
        · rw [if_pos c2, if_pos (by omega)]
        · rw [if_neg c2, if_neg (by omega)]
    · show a + n - gn (nI (i + 1)) < a + n - i
      rw [gn_nI (by omega)]
      omega
theorem td_s {F : List Nat} {o i d : Nat} (h : F[i]? = some d) (ho : o ≤ i) : (F.take (i + 1)).drop o = (F.take i).drop o ++ [d] := by
  have hi := vs_lt h
  rw [List.take_add_one, h, List.drop_append_of_le_length (by rw [List.length_take]; omega)]
  rfl
theorem z_mg146 {Y : gX} {a n c r o1 o2 w : Nat} {F : List Nat} {L : Nat → Bool} (h33 : Y.I 46 33 = nI n) (h30 : Y.I 46 30 = nI c) (hc : c < 4) (han : a + n ≤ 4096) (hr : Y.G 121 c = some r) (hrr : gRow r = true) (h57 : Y.I 57 (a + n) = nI o2) (h59 : hl (Y.I 59) (F.map nI)) (h60 : hl (Y.I 60) (F.map (fun d => b2i (L d)))) (h12 : o1 ≤ o2) (h2F : o2 ≤ F.length) (hF : F.length ≤ 4096) (P : gR × gX → Prop) (hP : ∀ Z, (∀ b, b ≠ r → Z.I b = Y.I b) → Z.G = Y.G → gEq Y Z → hl (Z.I r) ((((F.take o2).drop o1).filter L).map nI) → ∃ q, gI (fun s : gX × Int32 => f_Mo_merge_215 s.1 (nI a) (nI w) (nI (((F.take o2).drop o1).filter L).length) s.2) gK (Z, nI a) = some q ∧ P q) : ∃ q, gI (fun s : gX × Int32 × Int32 => f_Mo_merge_146 s.1 (nI a) (nI w) s.2.1 s.2.2) gK (Y, 0, nI o1) = some q ∧ P q := by
  have hr2 : 122 ≤ r ∧ r ≤ 125 := by
    unfold gRow at hrr
    simp only [decide_eq_true_eq, List.mem_cons, List.mem_nil_iff, or_false] at hrr
    omega
  refine gI_wf (body := fun s : gX × Int32 × Int32 => f_Mo_merge_146 s.1 (nI a) (nI w) s.2.1 s.2.2) (fun s => ∃ Z i, s = (Z, nI (((F.take i).drop o1).filter L).length, nI i) ∧ o1 ≤ i ∧ i ≤ o2 ∧ (∀ b, b ≠ r → Z.I b = Y.I b) ∧ Z.G = Y.G ∧ gEq Y Z ∧ hl (Z.I r) ((((F.take i).drop o1).filter L).map nI)) P (fun s => o2 - gn s.2.2) (by show o2 - gn (nI o1) ≤ 100000; omega) ⟨Y, o1, ?_, Nat.le_refl _, h12, fun _ _ => rfl, rfl, gEq.rf, ?_⟩ (fun s hI => ?_)
  · have : (F.take o1).drop o1 = [] := List.drop_eq_nil_of_le (by rw [List.length_take]; omega)
    rw [this]
    rfl
  · have : (F.take o1).drop o1 = [] := List.drop_eq_nil_of_le (by rw [List.length_take]; omega)
    rw [this]
    exact hl_nil
  obtain ⟨Z, i, rfl, i1, i2, i3, i4, i5, i6⟩ := hI
  have hcnt : (((F.take i).drop o1).filter L).length ≤ i - o1 := by
    have := List.length_filter_le L ((F.take i).drop o1)
    rw [List.length_drop, List.length_take] at this
    omega
  show (∃ s', f_Mo_merge_146 Z (nI a) (nI w) (nI (((F.take i).drop o1).filter L).length) (nI i) = _ ∧ _) ∨ (∃ q, f_Mo_merge_146 Z (nI a) (nI w) (nI (((F.take i).drop o1).filter L).length) (nI i) = _ ∧ _)
  unfold f_Mo_merge_146 f_Mo_merge_206
  rw [i3 46 (by omega), h33, h30, nI_add, if_pos (gIn_nI (by omega) (by omega)), gn_nI (show a + n < 2 ^ 31 by omega), i3 57 (by omega), h57]
  by_cases ci : o2 ≤ i
  · right
    have hi : i = o2 := by omega
    subst hi
    obtain ⟨q, q1, q2⟩ := hP Z i3 i4 i5 i6
    rw [if_pos (nI_le ci (by omega)), q1, gLf_s]
    exact ⟨q, rfl, q2⟩
  · left
    obtain ⟨d, hd⟩ := vs_at (l := F) (s := i) (by omega)
    have e59 : Z.I 59 i = nI d := by rw [i3 59 (by omega)]; exact hl_m h59 hd
    have e60 : Z.I 60 i = b2i (L d) := by rw [i3 60 (by omega)]; exact hl_m (g := fun d => b2i (L d)) h60 hd
    have hmeas : o2 - gn (nI (i + 1)) < o2 - i := by
      rw [gn_nI (by omega)]
      omega
    rw [if_neg (nI_ge (by omega) (by omega)), if_pos (gIn_nI (show i < 4096 by omega) (by omega)), gn_nI (show i < 2 ^ 31 by omega), e60]
    cases hL : L d with
    | false =>
      have eL : ((F.take (i + 1)).drop o1).filter L = ((F.take i).drop o1).filter L := by rw [td_s hd i1, List.filter_append]; simp [hL]
      rw [if_pos b2i_f, nI_1]
      exact ⟨_, rfl, ⟨Z, i + 1, by rw [eL], by omega, by omega, i3, i4, i5, by rw [eL]; exact i6⟩, hmeas⟩
    | true =>
      have eL : ((F.take (i + 1)).drop o1).filter L = ((F.take i).drop o1).filter L ++ [d] := by rw [td_s hd i1, List.filter_append]; simp [hL]
      have hg : Z.G 121 c = some r := by rw [i4]; exact hr
      rw [if_neg (show ¬ b2i true = 0 by decide), if_pos (gIn_nI hc (by omega)), if_pos (gIn_nI (show i < 4096 by omega) (by omega)), gn_nI (show c < 2 ^ 31 by omega), hg, gM_s, if_pos hrr, if_pos (gIn_nI (by omega) (by omega)), gn_nI (show (((F.take i).drop o1).filter L).length < 2 ^ 31 by omega), gB_b, e59, nI_1, nI_1]
      refine ⟨_, rfl, ⟨Z.w r (((F.take i).drop o1).filter L).length (nI d), i + 1, by rw [eL, List.length_append]; rfl, by omega, by omega, fun b hb => ?_, i4, i5.w, ?_⟩, hmeas⟩
      · rw [gX.w_ne hb]; exact i3 b hb
      · rw [eL, List.map_append]
        refine hl_snoc i6 (fun j hj => ?_) ?_
        · rw [List.length_map] at hj
          rw [w_oth (Or.inr (by omega))]
        · rw [List.length_map, w_same rfl]
theorem mgR_ok {A : zA} {k a n : Nat} (h : Mid A k 0) (hc : CH A a n) (hw : wr A + 1 ≤ 10000 * k) (hk : k ≤ 600) (h34 : gn (aS A 34) + 1 ≤ k) (h4 : (aM A).length < 4) : Inv (mgR A a n).2 k := by
  unfold mgR
  by_cases c : aS A 13 = 0
  · rw [if_pos c]; exact Mid_lose h
  · rw [if_neg c]; exact Mid_inv (Mid_mg h hc hw hk h34 h4)
theorem z_begin {X : gX} {A : zA} {k a n : Nat} (h : RM X A) (h0 : X.I 46 0 = 0) (h33 : X.I 46 33 = nI n) (hm : Mid A k 0) (hc : CH A a n) (hw : wr A + 1 ≤ 10000 * k) (hk : k ≤ 600) (h34 : gn (aS A 34) + 1 ≤ k) (h4 : (aM A).length < 4) : ((mgR A a n).1 = true ∧ ∃ U, f_Mo_merge_88 X (nI a) 0 = some (gR.i (nI (gn (aS A 34) + 1)), Xd U 0) ∧ RM (Xd U 0) (mgR A a n).2 ∧ frM X (Xd U 0)) ∨ ((mgR A a n).1 = false ∧ ∃ U, f_Mo_merge_88 X (nI a) 0 = some (gR.i 0, Xd U 5) ∧ RM (Xd U 5) (mgR A a n).2 ∧ frM X (Xd U 5)) := by
  have hinv := mgR_ok hm hc hw hk h34 h4
  have hTB := hm.2.2.1.1
  have hB := (VB_of hm.2.2.2.2.1.1.1 (show dc A - bf A ≤ 4096 by have := hm.2.1.1.1.2; omega)).1
  have hlen := hB.1
  unfold f_Mo_merge_88
  rw [s_wrong0 h0, gCi_i, if_pos rfl]
  unfold mgR at hinv ⊢
  by_cases c : aS A 13 = 0
  · right
    rw [if_pos c] at hinv ⊢
    obtain ⟨Y, y1, y2, y3, y4⟩ := z_write0 h hTB c
    obtain ⟨U, u1, u2, u3⟩ := z_fin (v := 0) (v' := 0) (L := 12356) (p := 5) y2 hinv (fun V hV => z_done_12356_6 (hV.trans y4))
    rw [y1, gCi_i, if_neg (by decide), u1, gCi_i]
    exact ⟨rfl, U, rfl, u2, y3.tr u3⟩
  · left
    rw [if_neg c] at hinv ⊢
    obtain ⟨W, w1, w2, w3, w4⟩ := z_write1 (H := hU (aH A) (wr A) (mgD A a n) (fun _ => true) (mgD A a n).length ((mgD A a n).headD 0) (mgZ A a n)) h c (by have := hm.2.2.1.2.2; omega) hm.2.1.1.2.2.1 (by omega) (GH_of (NW_mid hm) hm.1)
    have w2' : RM W (aNw A (mgD A a n) (fun _ => true) (mgD A a n).length ((mgD A a n).headD 0) (mgZ A a n)) := w2
    have w33 := write33 (by rw [RM_S h 13 (by decide) (by decide) (by decide)]; exact c) w1
    have hB' : nwB A (aNw A (mgD A a n) (fun _ => true) (mgD A a n).length ((mgD A a n).headD 0) (mgZ A a n)) (mgD A a n) (fun _ => true) (mgD A a n).length ((mgD A a n).headD 0) (mgZ A a n) := nwB_of hm.2.1.1.2.2.1
    have q34 := hm.2.1.2.1.2.2.1.1
    have q30 := hm.2.1.2.2.1.1
    have e34 : W.I 46 34 + 1 = nI (gn (aS A 34) + 1) := by
      rw [RM_S w2' 34 (by decide) (by decide) (by decide), hB'.1 34 (by decide) (by decide) (by decide)]
      conv => lhs; rw [q34]
      rw [nI_1]
    obtain ⟨y1, y2, y3⟩ := RM_Sw (j := 34) (v := nI (gn (aS A 34) + 1)) w2' (by decide) (by decide) (by decide) (by decide)
    rw [w1, gCi_i, if_pos (nI_pos' (by omega)), gB_b, e34, if_pos (gIn_nI (by have := hc.2.1; omega) (by omega)), gn_nI (by have := hc.2.1; omega)]
    have yG : (W.w 46 34 (nI (gn (aS A 34) + 1))).G = W.G := rfl
    have y33 : (W.w 46 34 (nI (gn (aS A 34) + 1))).I 46 33 = nI n := by rw [w_oth (Or.inr (by decide)), w33, h33]
    have y34 : (W.w 46 34 (nI (gn (aS A 34) + 1))).I 46 34 = nI (gn (aS A 34) + 1) := w_same rfl
    have y30 : (W.w 46 34 (nI (gn (aS A 34) + 1))).I 46 30 = nI (aM A).length := by
      rw [w_oth (Or.inr (by decide)), RM_S w2' 30 (by decide) (by decide) (by decide), hB'.1 30 (by decide) (by decide) (by decide), q30]
    generalize W.w 46 34 (nI (gn (aS A 34) + 1)) = Y at y1 y2 y3 y33 y34 y30 ⊢
    obtain ⟨r, hr, hrr⟩ := y1.2.2.2.2.2.1.1 (aM A).length h4
    have hV : VR Y.I 54 (aH (aNw A (mgD A a n) (fun _ => true) (mgD A a n).length ((mgD A a n).headD 0) (mgZ A a n))).1 (aH (aNw A (mgD A a n) (fun _ => true) (mgD A a n).length ((mgD A a n).headD 0) (mgZ A a n))).2.1 (aV A 54) := y1.2.2.2.1 54 rfl
    have hnw : ∀ y, y ∈ (aV A 54).1 → y.1 ≠ wr A := fun y hy => by have := ((NW_mid hm).1 54 rfl (fun _ => hm.1) y hy).1; omega
    have hD : ∀ y, y ∈ (aV A 54).1 → (aH (aNw A (mgD A a n) (fun _ => true) (mgD A a n).length ((mgD A a n).headD 0) (mgZ A a n))).1 y.1 = aD A y.1 := fun y hy => by rw [hB'.2.2.1]; exact (hU_o (hnw y hy)).1
    have hfl : fl (aH (aNw A (mgD A a n) (fun _ => true) (mgD A a n).length ((mgD A a n).headD 0) (mgZ A a n))).1 (aV A 54).1 = fl (aD A) (aV A 54).1 := fl_cong hD
    have hoff : ∀ s, off (aH (aNw A (mgD A a n) (fun _ => true) (mgD A a n).length ((mgD A a n).headD 0) (mgZ A a n))).1 (aV A 54).1 s = off (aD A) (aV A 54).1 s := fun s => by
      unfold off
      rw [fl_cong (fun x hx => hD x (List.mem_of_mem_take hx))]
    have o57 : ∀ s, s ≤ (aV A 54).1.length → Y.I 57 s = nI (off (aD A) (aV A 54).1 s) := fun s hs => by rw [← hoff]; exact hV.2.2.1 s hs
    have h59 : hl (Y.I 59) ((fl (aD A) (aV A 54).1).map nI) := by rw [← hfl]; exact hV.2.2.2.1
    have h60 : hl (Y.I 60) ((fl (aD A) (aV A 54).1).map (fun d => b2i ((aV A 54).2.1 d))) := by rw [← hfl]; exact hV.2.2.2.2.1
    have hMw : ∀ m, m ∈ aM A → m.2.1 < wr A := (NW_mid hm).2.2.2
    obtain ⟨c1, c2, c3⟩ := hc
    rw [o57 a (by omega)]
    obtain ⟨q, q1, q2⟩ := z_mg146 (Y := Y) (a := a) (n := n) (c := (aM A).length) (r := r) (o1 := off (aD A) (aV A 54).1 a) (o2 := off (aD A) (aV A 54).1 (a + n)) (w := wr A) (F := fl (aD A) (aV A 54).1) (L := (aV A 54).2.1) y33 y30 h4 (by omega) hr hrr (o57 _ c2) h59 h60 (off_mono (by omega)) off_all hB.2.1 (fun q => ∃ U, q = (gR.i (nI (gn (aS A 34) + 1)), Xd U 0) ∧ RM (Xd U 0) (aMg A a n) ∧ frM X (Xd U 0)) (fun Z f1 f2 f3 f4 => by
      have hr2 : 122 ≤ r ∧ r ≤ 125 := by
        unfold gRow at hrr
        simp only [decide_eq_true_eq, List.mem_cons, List.mem_nil_iff, or_false] at hrr
        omega
      rw [mgD_eq] at f4 ⊢
      refine z_mg215 (c := (aM A).length) (v := gn (aS A 34) + 1) (n := n) (by rw [f1 46 (by omega)]; exact y33) (by rw [f1 46 (by omega)]; exact y30) (by rw [f1 46 (by omega)]; exact y34) h4 (by omega) _ (fun V g1 g2 g3 g4 g5 g6 g7 g8 => ?_)
      have hRM : RM V (aMg A a n) := by
        refine RM_mg y1 rfl q34 q30 h4 hr hrr hMw (fun b b1 b2 b3 b4 b5 b6 => ?_) (by rw [g2, f2]) (fun j => ?_) (fun j => ?_) (fun j => ?_) (fun j => ?_) (fun j => ?_) ?_
        · rw [g1 b b2 b3 b4 b5 b6]; exact f1 b b1
        · rw [g4, f1 46 (by omega)]
        · rw [g5, f1 58 (by omega)]
        · rw [g6, f1 80 (by omega)]
        · rw [g7, f1 81 (by omega)]
        · rw [g8, f1 82 (by omega)]
        · rw [g1 r (by omega) (by omega) (by omega) (by omega) (by omega)]; exact f4
      have hfr : frM X V := by
        refine (w3.tr y2).tr ⟨fun b hb => ?_, fun b hb => by rw [g2, f2], f3.tr g3⟩
        rw [g1 b (by omega) (by omega) (by omega) (by omega) (by omega), f1 b (by omega)]
      have hV0 : V.I 46 0 = 0 := by rw [g4, if_neg (by decide), f1 46 (by omega), y3, w4, h0]
      obtain ⟨U, u1, u2, u3⟩ := z_fin (v := nI (gn (aS A 34) + 1)) (v' := nI (gn (aS A 34) + 1)) (L := 12356) (p := 0) hRM hinv (fun T hT => z_done_12356_0 (hT.trans hV0))
      exact ⟨_, by rw [u1, gCi_i, gLf_s], U, rfl, u2, hfr.tr u3⟩)
    obtain ⟨U, e1, e2, e3⟩ := q2
    rw [q1, e1]
    exact ⟨rfl, U, rfl, e2, e3⟩
