/-! THE PURE SIDE: the reference writes lists -/
theorem hl_mid {α : Type} {r r' : Nat → α} {a b b' c : List α} (h : hl r (a ++ (b ++ c))) (hb : b'.length = b.length) (e1 : ∀ j, (j < a.length ∨ a.length + b.length ≤ j) → r' j = r j) (e2 : ∀ j x, b'[j]? = some x → r' (a.length + j) = x) : hl r' (a ++ (b' ++ c)) := by
  refine hl_of (fun i x hx => ?_)
  by_cases c1 : i < a.length
  · rw [e1 i (Or.inl c1)]
    rw [List.getElem?_append_left c1] at hx
    exact hl_at h (by rw [List.getElem?_append_left c1]; exact hx)
  · rw [List.getElem?_append_right (by omega)] at hx
    by_cases c2 : i - a.length < b'.length
    · rw [List.getElem?_append_left c2] at hx
      have := e2 (i - a.length) x hx
      rw [show a.length + (i - a.length) = i by omega] at this
      exact this
    · rw [e1 i (Or.inr (by omega))]
      rw [List.getElem?_append_right (by omega)] at hx
      refine hl_at h ?_
      rw [List.getElem?_append_right (by omega), List.getElem?_append_right (by omega), ← hb]
      exact hx
theorem set_sp {α : Type} {l : List α} {i : Nat} {x y : α} (hx : l[i]? = some x) : l.set i y = l.take i ++ ([y] ++ l.drop (i + 1)) := by
  have hi := vs_lt hx
  rw [List.set_eq_take_append_cons_drop, if_pos hi]
  rfl
/-- is the list another -/
def oth (H : zH) (V : zV) (x : zS) (j : Nat) : Bool := ((H.1 x.1).take j).any (fun d => !(V.2.1 d == lsd H.2.1 x.2.1 d))
theorem oth_end {H : zH} {V : zV} {x : zS} : oth H V x (H.1 x.1).length = !lRt H V x := by
  unfold oth lRt
  rw [List.take_length, List.any_eq_not_all_not]
  simp
theorem z_wlTurn {E : List Nat} {X : gX} {A : zA} {k i : Nat} {x : zS} (h : RM X A) (hm : MidE E A k i) (hk : k ≤ 600) (hx : (aV A 54).1[i]? = some x) (hw : wr A + 1 ≤ 10000 * k) : (lRt (aH A) (aV A 54) x = true ∧ f_Mo_writeLists_2 X (nI i) = some (Sum.inl (X, nI (i + 1)))) ∨ (lRt (aH A) (aV A 54) x = false ∧ aS A 13 = 0 ∧ ∃ Y, f_Mo_writeLists_2 X (nI i) = some (Sum.inr (gR.i 0, Y)) ∧ RM Y (aLose A) ∧ frM X Y ∧ Y.I 46 0 = 6) ∨ (lRt (aH A) (aV A 54) x = false ∧ ¬ aS A 13 = 0 ∧ ∃ Y, f_Mo_writeLists_2 X (nI i) = some (Sum.inl (Y, nI (i + 1))) ∧ RM Y (aWl A i x) ∧ frM X Y ∧ Y.I 46 0 = X.I 46 0) := by
  have hV := RM_V h 54 rfl
  have hvB := VB_of hm.2.2.2.2.1.1.1 (show dc A - bf A ≤ 4096 by have := hm.2.1.1.1.2; omega)
  have hlen : (aV A 54).1.length ≤ 4096 := hvB.1.1
  have hlt := vs_lt hx
  have ho := off_s (D := aD A) hx
  have hall := off_all (D := aD A) (l := (aV A 54).1) (s := i + 1)
  have hfl4 : (fl (aD A) (aV A 54).1).length ≤ 4096 := hvB.1.2.1
  have q57 : X.I 57 i = nI (off (aD A) (aV A 54).1 i) := hV.2.2.1 i (by omega)
  have q57' : X.I 57 (i + 1) = nI (off (aD A) (aV A 54).1 i + (aD A x.1).length) := by rw [← ho]; exact hV.2.2.1 (i + 1) (by omega)
  have j3 : gIn (nI (i + 1)) 4098 = true := gIn_nI (by omega) (by omega)
  have j4 : gIn (nI i) 4098 = true := gIn_nI (by omega) (by omega)
  have j5 : gIn (nI i) 4097 = true := gIn_nI (by omega) (by omega)
  have hp3 := hm.2.1.1.2.2.1
  unfold f_Mo_writeLists_2
  rw [hV.1.1, if_neg (nI_ge hlt (by omega)), if_pos j4, gn_nI (k := i) (by omega), q57]
  -- the inner loop
  have inner : ∀ {r : (gX × Int32) ⊕ (gR × gX)}, f_Mo_writeLists_25 X (nI i) (b2i (!lRt (aH A) (aV A 54) x)) (nI (off (aD A) (aV A 54).1 i + (aD A x.1).length)) = some (Sum.inr r) → gI (fun s : Int32 × Int32 => f_Mo_writeLists_25 X (nI i) s.1 s.2) gK (0, nI (off (aD A) (aV A 54).1 i)) = some r := by
    intro r hr
    rw [← oth_end] at hr
    refine gI_at (fun j => (b2i (oth (aH A) (aV A 54) x j), nI (off (aD A) (aV A 54).1 i + j))) (aD A x.1).length (gK_lt (by omega)) (fun j hj => ?_) hr rfl
    show f_Mo_writeLists_25 X (nI i) (b2i (oth (aH A) (aV A 54) x j)) (nI (off (aD A) (aV A 54).1 i + j)) = _
    obtain ⟨d, hd⟩ := vs_at hj
    have q60 : X.I 60 (off (aD A) (aV A 54).1 i + j) = b2i ((aV A 54).2.1 d) := hl_m (g := fun d => b2i ((aV A 54).2.1 d)) hV.2.2.2.2.1 (fl_at hx hd)
    have q61 : X.I 61 (off (aD A) (aV A 54).1 i + j) = b2i (lsd (aL A) x.2.1 d) := hl_m (g := b2i) hV.2.2.2.2.2 (lf_at hx hd)
    have j1 : gIn (nI (off (aD A) (aV A 54).1 i + j)) 4096 = true := gIn_nI (by omega) (by omega)
    have eo : oth (aH A) (aV A 54) x (j + 1) = (oth (aH A) (aV A 54) x j || !((aV A 54).2.1 d == lsd (aL A) x.2.1 d)) := by
      unfold oth
      have hd' : ((aH A).1 x.1)[j]? = some d := hd
      rw [List.take_add_one, hd', List.any_append]
      simp
    unfold f_Mo_writeLists_25 f_Mo_writeLists_63
    rw [nI_1, if_pos j3, gn_nI (k := i + 1) (by omega), q57', if_neg (nI_ge (by omega) (by omega)), if_pos j1, if_pos j1, gn_nI (by omega), q60, q61, nI_1, eo]
    by_cases c : (aV A 54).2.1 d = lsd (aL A) x.2.1 d
    · rw [if_pos (by rw [c])]
      simp [c]
      rfl
    · rw [if_neg (fun e => c (b2i_in e))]
      simp [c, b2i]
      rfl
  cases hl9 : lRt (aH A) (aV A 54) x with
  | true =>
    left
    refine ⟨rfl, inner ?_⟩
    rw [hl9]
    unfold f_Mo_writeLists_25 f_Mo_writeLists_150
    rw [nI_1, if_pos j3, gn_nI (by omega), q57', if_pos (nI_le (Nat.le_refl _) (by omega)), if_pos (show b2i (!true) = 0 from rfl), gLf_s]
  | false =>
    right
    by_cases c0 : aS A 13 = 0
    · left
      obtain ⟨Y, y1, y2⟩ := z_write0 h hm.2.2.1.1 c0
      refine ⟨rfl, c0, Y, inner ?_, y2⟩
      rw [hl9]
      unfold f_Mo_writeLists_25
      rw [nI_1, if_pos j3, gn_nI (by omega), q57', if_pos (nI_le (Nat.le_refl _) (by omega)), if_neg (by decide), y1, gCi_i, if_neg (by decide), gLf_s, gLf_s]
    · right
      have hwb : wr A < 1000000000 := by omega
      obtain ⟨W, w1, w2, w3, w4⟩ := z_write1 (H := wlH A x) h c0 (by have := hm.2.2.1.2.2; omega) hp3 hwb (GH_of (NW_mid hm) hm.1)
      have hVW : VR W.I 54 (wlH A x).1 (wlH A x).2.1 (aV A 54) := RM_V w2 54 rfl
      have hnw : ∀ y, y ∈ (aV A 54).1 → y.1 ≠ wr A := fun y hy => by have := ((NW_mid hm).1 54 rfl (fun _ => hm.1) y hy).1; omega
      have hxm := vs_mem hx
      have eD : (wlH A x).1 x.1 = aD A x.1 := (hU_o (hnw x hxm)).1
      have hfl : fl (wlH A x).1 (aV A 54).1 = fl (aD A) (aV A 54).1 := fl_U hnw
      have eoff : ∀ s, off (wlH A x).1 (aV A 54).1 s = off (aD A) (aV A 54).1 s := fun s => by
        unfold off
        have e9 : fl (wlH A x).1 ((aV A 54).1.take s) = fl (aD A) ((aV A 54).1.take s) := fl_U (fun y hy => hnw y (List.mem_of_mem_take hy))
        rw [e9]
      have p57 : W.I 57 i = nI (off (aD A) (aV A 54).1 i) := by rw [← eoff]; exact hVW.2.2.1 i (by omega)
      have p57' : W.I 57 (i + 1) = nI (off (aD A) (aV A 54).1 i + (aD A x.1).length) := by rw [← ho, ← eoff]; exact hVW.2.2.1 (i + 1) (by omega)
      -- the copying loop
      have lp := gI_inv (body := fun s : gX × Int32 => f_Mo_writeLists_108 s.1 (nI i) s.2) (fun j s => ∃ U, s = (U, nI (off (aD A) (aV A 54).1 i + j)) ∧ (∀ a, a ≠ 56 → a ≠ 61 → U.I a = W.I a) ∧ U.G = W.G ∧ gEq W U ∧ U.I 56 = upd (W.I 56) i (nI (wr A)) ∧ ∀ t, U.I 61 t = if off (aD A) (aV A 54).1 i ≤ t ∧ t < off (aD A) (aV A 54).1 i + j then W.I 60 t else W.I 61 t) (fun r => ∃ U, r = Sum.inl (U, nI (i + 1)) ∧ (∀ a, a ≠ 56 → a ≠ 61 → U.I a = W.I a) ∧ U.G = W.G ∧ gEq W U ∧ U.I 56 = upd (W.I 56) i (nI (wr A)) ∧ ∀ t, U.I 61 t = if off (aD A) (aV A 54).1 i ≤ t ∧ t < off (aD A) (aV A 54).1 i + (aD A x.1).length then W.I 60 t else W.I 61 t) (aD A x.1).length (by omega) (s0 := (W.w 56 i (nI (wr A)), nI (off (aD A) (aV A 54).1 i))) ⟨_, rfl, fun a a1 a2 => gX.w_ne a1, rfl, gEq.rf.w, gX.w_self, fun t => by rw [if_neg (by omega), gX.w_ne (by decide)]⟩ (fun j s hj hI => by
        obtain ⟨U, rfl, u1, u2, u3, u4, u5⟩ := hI
        show ∃ s', f_Mo_writeLists_108 U (nI i) (nI (off (aD A) (aV A 54).1 i + j)) = _ ∧ _
        obtain ⟨d, hd⟩ := vs_at hj
        have q60 : W.I 60 (off (aD A) (aV A 54).1 i + j) = b2i ((aV A 54).2.1 d) := by
          have := hl_m (g := fun d => b2i ((aV A 54).2.1 d)) hVW.2.2.2.2.1 (fl_at (D := (wlH A x).1) hx (by rw [eD]; exact hd))
          rw [eoff] at this
          exact this
        have j1 : gIn (nI (off (aD A) (aV A 54).1 i + j)) 4096 = true := gIn_nI (by omega) (by omega)
        unfold f_Mo_writeLists_108
        rw [nI_1, if_pos j3, gn_nI (k := i + 1) (by omega), u1 57 (by decide) (by decide), p57', if_neg (nI_ge (by omega) (by omega)), if_pos j1, if_pos j1, gn_nI (by omega), u1 60 (by decide) (by decide), q60, b2i_nar, gB_b, nI_1]
        refine ⟨_, rfl, _, rfl, fun a a1 a2 => by rw [gX.w_ne a2]; exact u1 a a1 a2, u2, u3.w, by rw [gX.w_ne (by decide)]; exact u4, fun t => ?_⟩
        by_cases ct : t = off (aD A) (aV A 54).1 i + j
        · rw [w_same ct, if_pos (by omega), ct, q60]
        · rw [w_oth (Or.inr ct), u5 t]
          by_cases c2 : off (aD A) (aV A 54).1 i ≤ t ∧ t < off (aD A) (aV A 54).1 i + j
          · rw [if_pos c2, if_pos (by omega)]
          · rw [if_neg c2, if_neg (by omega)]) (fun s hI => by
        obtain ⟨U, rfl, u1, u2, u3, u4, u5⟩ := hI
        show ∃ r, f_Mo_writeLists_108 U (nI i) (nI (off (aD A) (aV A 54).1 i + (aD A x.1).length)) = _ ∧ _
        unfold f_Mo_writeLists_108 f_Mo_writeLists_150
        rw [nI_1, if_pos j3, gn_nI (by omega), u1 57 (by decide) (by decide), p57', if_pos (nI_le (Nat.le_refl _) (by omega)), gLf_s]
        exact ⟨_, rfl, U, rfl, u1, u2, u3, u4, u5⟩)
      obtain ⟨r, r1, U, rfl, u1, u2, u3, u4, u5⟩ := lp
      have hfI : frI (sVe 54) W U := ⟨fun a ha => u1 a (fun e => by rw [e] at ha; exact absurd ha (by decide)) (fun e => by rw [e] at ha; exact absurd ha (by decide)), u2, u3⟩
      have hVU : VR U.I 54 (wlH A x).1 (wlH A x).2.1 ((aV A 54).1.set i (x.1, some (wr A), x.2.2), (aV A 54).2) := by
        have hpr : ((aV A 54).1.set i (x.1, some (wr A), x.2.2)).map pr2 = (aV A 54).1.map pr2 := set_pr hx rfl
        have hfst := pr_fst hpr
        have hflS : fl (wlH A x).1 ((aV A 54).1.set i (x.1, some (wr A), x.2.2)) = fl (wlH A x).1 (aV A 54).1 := by rw [fl_fst, hfst, ← fl_fst]
        have hoffS : ∀ s, off (wlH A x).1 ((aV A 54).1.set i (x.1, some (wr A), x.2.2)) s = off (wlH A x).1 (aV A 54).1 s := fun s => by
          unfold off
          rw [fl_fst, List.map_take, hfst, ← List.map_take, ← fl_fst]
        refine ⟨⟨?_, ?_, ?_, ?_⟩, ⟨?_, ?_, ?_⟩, fun t ht => ?_, ?_, ?_, ?_⟩
        · rw [u1 54 (by decide) (by decide)]
          show _ = nI ((aV A 54).1.set i (x.1, some (wr A), x.2.2)).length
          rw [List.length_set]; exact hVW.1.1
        · rw [u1 54 (by decide) (by decide)]; exact hVW.1.2.1
        · rw [u1 54 (by decide) (by decide)]; exact hVW.1.2.2.1
        · rw [u1 54 (by decide) (by decide)]; exact hVW.1.2.2.2
        · rw [u1 (54 + 1) (by decide) (by decide)]
          have e : ((aV A 54).1.set i (x.1, some (wr A), x.2.2)).map (fun y => nI y.1) = (aV A 54).1.map (fun y => nI y.1) := by
            have e2 : ∀ l : List zS, l.map (fun y => nI y.1) = (l.map Prod.fst).map nI := fun l => by rw [List.map_map]; rfl
            rw [e2, e2, hfst]
          show hl _ (((aV A 54).1.set i (x.1, some (wr A), x.2.2)).map (fun y => nI y.1))
          rw [e]; exact hVW.2.1.1
        · rw [show 54 + 2 = 56 from rfl, u4]
          refine hl_mk (fun t y hy => ?_)
          have hy' : ((aV A 54).1.set i (x.1, some (wr A), x.2.2))[t]? = some y := hy
          rw [List.getElem?_set] at hy'
          by_cases ct : i = t
          · subst ct
            rw [if_pos rfl, if_pos hlt] at hy'
            have := Option.some.inj hy'
            subst this
            rw [pk_us]
            rfl
          · rw [if_neg ct] at hy'
            rw [pk_un (fun e => ct e.symm)]
            exact hl_m (g := fun x : zS => li x.2.1) hVW.2.1.2.1 hy'
        · rw [u1 (54 + 4) (by decide) (by decide)]
          have e : ((aV A 54).1.set i (x.1, some (wr A), x.2.2)).map (fun y => nI y.2.2) = (aV A 54).1.map (fun y => nI y.2.2) := by
            have e2 : ∀ l : List zS, l.map (fun y => nI y.2.2) = (l.map pr2).map (fun y => nI y.2) := fun l => by rw [List.map_map]; rfl
            rw [e2, e2, hpr]
          show hl _ (((aV A 54).1.set i (x.1, some (wr A), x.2.2)).map (fun y => nI y.2.2))
          rw [e]; exact hVW.2.1.2.2
        · rw [u1 (54 + 3) (by decide) (by decide)]
          have ht' : t ≤ (aV A 54).1.length := by
            have : t ≤ ((aV A 54).1.set i (x.1, some (wr A), x.2.2)).length := ht
            rw [List.length_set] at this
            exact this
          show _ = nI (off (wlH A x).1 ((aV A 54).1.set i (x.1, some (wr A), x.2.2)) t)
          rw [hoffS]
          exact hVW.2.2.1 t ht'
        · rw [u1 (54 + 5) (by decide) (by decide)]
          show hl _ ((fl (wlH A x).1 ((aV A 54).1.set i (x.1, some (wr A), x.2.2))).map nI)
          rw [hflS]; exact hVW.2.2.2.1
        · rw [u1 (54 + 6) (by decide) (by decide)]
          show hl _ ((fl (wlH A x).1 ((aV A 54).1.set i (x.1, some (wr A), x.2.2))).map (fun d => b2i ((aV A 54).2.1 d)))
          rw [hflS]; exact hVW.2.2.2.2.1
        · show hl (U.I 61) ((lf (wlH A x).1 (wlH A x).2.1 ((aV A 54).1.set i (x.1, some (wr A), x.2.2))).map b2i)
          have hold := hVW.2.2.2.2.2
          have e1 := congrArg (lf (wlH A x).1 (wlH A x).2.1) (sp3 hx)
          rw [lf_app, lf_app, lf_1] at e1
          rw [e1, List.map_append, List.map_append] at hold
          rw [set_sp hx, lf_app, lf_app, lf_1, List.map_append, List.map_append]
          have la : ((lf (wlH A x).1 (wlH A x).2.1 ((aV A 54).1.take i)).map b2i).length = off (aD A) (aV A 54).1 i := by
            rw [List.length_map, lf_len, ← eoff]
            rfl
          have lb : ((((wlH A x).1 x.1).map (lsd (wlH A x).2.1 x.2.1)).map b2i).length = (aD A x.1).length := by rw [List.length_map, List.length_map, eD]
          refine hl_mid hold (by rw [List.length_map, List.length_map, lb, eD]) (fun j hj => ?_) (fun j y hy => ?_)
          · rw [u5 j, if_neg (by rw [la, lb] at hj; omega)]
          · have hy' : ((((wlH A x).1 x.1).map (lsd (wlH A x).2.1 (some (wr A)))).map b2i)[j]? = some y := hy
            rw [List.getElem?_map, List.getElem?_map, eD] at hy'
            obtain ⟨c, c1, c2⟩ := Option.map_eq_some_iff.mp hy'
            obtain ⟨d, d1, d2⟩ := Option.map_eq_some_iff.mp c1
            have hjl := vs_lt d1
            have q60 := hl_m (g := fun d => b2i ((aV A 54).2.1 d)) hVW.2.2.2.2.1 (fl_at (D := (wlH A x).1) hx (by rw [eD]; exact d1))
            rw [eoff] at q60
            rw [la, u5, if_pos (by omega)]
            refine q60.trans ?_
            rw [← c2, ← d2]
            show b2i ((aV A 54).2.1 d) = b2i ((wlH A x).2.1 (wr A) d)
            rw [show (wlH A x).2.1 (wr A) = (aV A 54).2.1 from (hU_w (H := aH A) (D := []) (L := (aV A 54).2.1) (tl := (aD A x.1).countP (aV A 54).2.1) (st := 0) (en := 0)).2.1]
      obtain ⟨k1, k2, k3⟩ := RM_V54 w2 hfI hVU (fun _ _ => rfl)
      refine ⟨rfl, c0, U, inner ?_, k1, w3.tr k2, k3.trans w4⟩
      rw [hl9]
      unfold f_Mo_writeLists_25
      rw [nI_1, if_pos j3, gn_nI (k := i + 1) (by omega), q57', if_pos (nI_le (Nat.le_refl _) (by omega)), if_neg (by decide), w1, gCi_i, if_pos (nI_pos' (by omega)), if_pos j5, gn_nI (k := i) (by omega), gB_b, if_pos j4, gX.w_ne (by decide), p57, r1, gLf_s]
theorem z_wlLoop {E : List Nat} {X : gX} {A : zA} {k : Nat} (h : RM X A) (hk : k ≤ 600) (hm : MidE E A k 0) (hw : wr A + (aV A 54).1.length ≤ 10000 * k) : ((wlF (aV A 54).1.length 0 A).1 = true ∧ ∃ Y, f_Mo_writeLists X = some (gR.i 1, Y) ∧ RM Y (wlF (aV A 54).1.length 0 A).2 ∧ frM X Y ∧ Y.I 46 0 = X.I 46 0) ∨ ((wlF (aV A 54).1.length 0 A).1 = false ∧ ∃ Y, f_Mo_writeLists X = some (gR.i 0, Y) ∧ RM Y (wlF (aV A 54).1.length 0 A).2 ∧ frM X Y ∧ Y.I 46 0 = 6) := by
  unfold f_Mo_writeLists
  have hlA : (aV A 54).1.length ≤ 4096 := (VB_of hm.2.2.2.2.1.1.1 (show dc A - bf A ≤ 4096 by have := hm.2.1.1.1.2; omega)).1.1
  have key9 := gI_wf (body := fun s : gX × Int32 => f_Mo_writeLists_2 s.1 s.2) (fun s => ∃ Z B i, s = (Z, nI i) ∧ i ≤ (aV A 54).1.length ∧ (aV B 54).1.length = (aV A 54).1.length ∧ wlF ((aV A 54).1.length - i) i B = wlF (aV A 54).1.length 0 A ∧ RM Z B ∧ frM X Z ∧ Z.I 46 0 = X.I 46 0 ∧ MidE E B k i ∧ wr B + ((aV A 54).1.length - i) ≤ 10000 * k) (fun r => ((wlF (aV A 54).1.length 0 A).1 = true ∧ ∃ Y, r = (gR.i 1, Y) ∧ RM Y (wlF (aV A 54).1.length 0 A).2 ∧ frM X Y ∧ Y.I 46 0 = X.I 46 0) ∨ ((wlF (aV A 54).1.length 0 A).1 = false ∧ ∃ Y, r = (gR.i 0, Y) ∧ RM Y (wlF (aV A 54).1.length 0 A).2 ∧ frM X Y ∧ Y.I 46 0 = 6)) (fun s => (aV A 54).1.length - gn s.2) (s0 := (X, 0)) (by show (aV A 54).1.length - gn 0 ≤ 100000; omega) ⟨X, A, 0, rfl, by omega, rfl, by rw [Nat.sub_zero], h, frM.rf, rfl, hm, by omega⟩ (fun s hI => by
    obtain ⟨Z, B, i, rfl, i1, il, i2, i3, i4, i40, i5, i7⟩ := hI
    show (∃ s', f_Mo_writeLists_2 Z (nI i) = _ ∧ _) ∨ (∃ r, f_Mo_writeLists_2 Z (nI i) = _ ∧ _)
    by_cases c : (aV A 54).1.length ≤ i
    · right
      have e : (aV A 54).1.length - i = 0 := by omega
      rw [e] at i2
      have i2' : (true, B) = wlF (aV A 54).1.length 0 A := i2
      unfold f_Mo_writeLists_2
      rw [(RM_V i3 54 rfl).1.1, if_pos (nI_le (by omega) (by omega)), gLf_s]
      refine ⟨_, rfl, Or.inl ⟨by rw [← i2'], Z, rfl, ?_, i4, i40⟩⟩
      rw [← i2']; exact i3
    · obtain ⟨m, hmm⟩ : ∃ m, (aV A 54).1.length - i = m + 1 := ⟨(aV A 54).1.length - i - 1, by omega⟩
      rw [hmm] at i2
      obtain ⟨x, hx⟩ := vs_at (l := (aV B 54).1) (s := i) (by omega)
      rw [wlF_s hx] at i2
      have hmeas : (aV A 54).1.length - gn (nI (i + 1)) < (aV A 54).1.length - gn (nI i) := by
        rw [gn_nI (by omega), gn_nI (by omega)]
        omega
      rcases z_wlTurn i3 i5 hk hx (by omega) with ⟨c1, e⟩ | ⟨c1, c0, Y, e, y2, y3, y4⟩ | ⟨c1, c0, Y, e, y2, y3, y4⟩
      · left
        rw [if_pos c1] at i2
        rw [e]
        exact ⟨_, rfl, ⟨Z, B, i + 1, rfl, by omega, il, by rw [show (aV A 54).1.length - (i + 1) = m by omega]; exact i2, i3, i4, i40, Mid_i i5 (by omega), by omega⟩, hmeas⟩
      · right
        rw [if_neg (by rw [c1]; simp), if_pos c0] at i2
        rw [e]
        refine ⟨_, rfl, Or.inr ⟨by rw [← i2], Y, rfl, ?_, i4.tr y3, y4⟩⟩
        rw [← i2]; exact y2
      · left
        rw [if_neg (by rw [c1]; simp), if_neg c0] at i2
        rw [e]
        obtain ⟨m1, m2⟩ := Mid_wl i5 hx (by omega) hk
        exact ⟨_, rfl, ⟨Y, aWl B i x, i + 1, rfl, by omega, by rw [wl_len]; exact il, by rw [show (aV A 54).1.length - (i + 1) = m by omega]; exact i2, y2, i4.tr y3, y4.trans i40, m1, by omega⟩, hmeas⟩)
  obtain ⟨r, k1, k2⟩ := key9
  rcases k2 with ⟨b, Y, rfl, q⟩ | ⟨b, Y, rfl, q⟩
  · exact Or.inl ⟨b, Y, k1, q⟩
  · exact Or.inr ⟨b, Y, k1, q⟩
