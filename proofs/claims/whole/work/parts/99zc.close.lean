/-! THE PURE SIDE: the class loses power, acts, drops unneeded files -/
def rcz : Nat → gX → gX
  | 0, X => X
  | k + 1, X => (rcz k X).w (26 + 5 * k) 2 0
theorem rcz_ne {X : gX} {a : Nat} : ∀ k, k ≤ 4 → (a < 26 ∨ 41 < a ∨ (a ≠ 26 ∧ a ≠ 31 ∧ a ≠ 36 ∧ a ≠ 41)) → (rcz k X).I a = X.I a
  | 0, _, _ => rfl
  | k + 1, h1, h2 => by
    show ((rcz k X).w (26 + 5 * k) 2 0).I a = _
    rw [gX.w_ne (by omega), rcz_ne k (by omega) h2]
theorem rcz_2 {X : gX} {i : Nat} : ∀ k, k ≤ 4 → i < k → (rcz k X).I (26 + 5 * i) 2 = 0
  | 0, _, h => absurd h (by omega)
  | k + 1, h1, h2 => by
    show ((rcz k X).w (26 + 5 * k) 2 0).I (26 + 5 * i) 2 = _
    by_cases c : i = k
    · subst c; exact w_same rfl
    · rw [w_oth (Or.inl (by omega))]
      exact rcz_2 k (by omega) (by omega)
theorem rcz_G {X : gX} : ∀ k, (rcz k X).G = X.G
  | 0 => rfl
  | k + 1 => rcz_G k
theorem rcz_E {X Y : gX} (h : gEq X Y) : ∀ k, gEq X (rcz k Y)
  | 0 => h
  | k + 1 => (rcz_E h k).w
theorem cS_c {X : gX} {S S' : Nat → Int32} (h : cS X S) (e : S' = S) : cS X S' := by rw [e]; exact h
theorem RC_sT {X Y : gX} {A : zA} {nm : Nat → Nat} {k : Nat} {T : List zF} (h : RC X A nm k) (e : frQ X Y) (hT : cT Y T nm (aH A)) (hR : RR Y k) : RC Y (sT A T) nm k := by
  obtain ⟨q1, q2, q3, q4, q5, q6, q7⟩ := h
  refine ⟨cS_fr q1 (e.1 0 (by omega) (by omega)) (e.1 1 (by omega) (by omega)) (e.1 5 (by omega) (by omega)), ?_, ?_, hT, ?_, ?_, hR⟩
  · intro q
    rw [e.1 0 (by omega) (by omega)]
    exact q2 q
  · unfold cE at q3 ⊢
    rw [e.1 2 (by omega) (by omega), e.1 3 (by omega) (by omega), e.1 4 (by omega) (by omega)]
    exact q3
  · exact cW_fr (S' := aS A) q5 (fun a a1 a2 => e.1 a (by omega) (by omega)) (fun a a1 => e.2.1 a (by omega) (by omega)) id id id
  · exact cM_fr q6 (fun a a1 a2 => e.1 a (by omega) (by omega)) (fun a a1 a2 => e.2.1 a (by omega) (by omega))
theorem RC_T {X : gX} {A : zA} {nm : Nat → Nat} {k : Nat} (h : RC X A nm k) : cT X (aT A) nm (aH A) := h.2.2.2.1
theorem RC_W {X : gX} {A : zA} {nm : Nat → Nat} {k : Nat} (h : RC X A nm k) : cW X A nm := h.2.2.2.2.1
theorem RC_M {X : gX} {A : zA} {nm : Nat → Nat} {k : Nat} (h : RC X A nm k) : cM X (aM A) nm := h.2.2.2.2.2.1
theorem RC_R {X : gX} {A : zA} {nm : Nat → Nat} {k : Nat} (h : RC X A nm k) : RR X k := h.2.2.2.2.2.2
theorem aLose_S {S : Nat → Int32} : upd (upd (upd (upd (upd S 18 0) 30 0) 19 0) 13 (-1)) 14 1 = upd (upd (upd (upd (upd S 13 (-1)) 18 0) 19 0) 30 0) 14 1 := by
  funext j
  simp only [upd_at]
  (repeat' split) <;> first | rfl | omega
theorem C_lose {X : gX} {A : zA} {nm : Nat → Nat} {k : Nat} (h : RC X A nm k) (hb : TB (aT A)) (hk : k ≤ 600) : ∃ Y, f_Le_losePower X = some (gR.v, Y) ∧ RC Y (aLose A) nm k ∧ frC X Y := by
  obtain ⟨q1, q2, q3, q4, q5, q6, q7⟩ := h
  unfold f_Le_losePower f_Le_forgetWriter
  simp only [gB_b, gCv_v]
  have s1 := cS_w (v := 0) (cS_w (v := 0) (cS_w (v := 0) (cS_w (v := -1) q1 (show (0, 17, 13) ∈ cTab by decide)) (show (0, 7, 18) ∈ cTab by decide)) (show (0, 8, 19) ∈ cTab by decide)) (show (0, 12, 30) ∈ cTab by decide)
  have fI : ∀ a, a ≠ 0 → ((((X.w 0 17 (-1)).w 0 7 0).w 0 8 0).w 0 12 0).I a = X.I a := fun a ha => by rw [gX.w_ne ha, gX.w_ne ha, gX.w_ne ha, gX.w_ne ha]
  have fE : gEq X ((((X.w 0 17 (-1)).w 0 7 0).w 0 8 0).w 0 12 0) := gEq.rf.w.w.w.w
  have fG : ((((X.w 0 17 (-1)).w 0 7 0).w 0 8 0).w 0 12 0).G = X.G := rfl
  generalize (((X.w 0 17 (-1)).w 0 7 0).w 0 8 0).w 0 12 0 = X2 at s1 fI fE fG ⊢
  have wI : ∀ a, a ≠ 0 → (a < 26 ∨ 41 < a ∨ (a ≠ 26 ∧ a ≠ 31 ∧ a ≠ 36 ∧ a ≠ 41)) → (rcz 4 X2).I a = X.I a := fun a a1 a2 => (rcz_ne 4 (by omega) a2).trans (fI a a1)
  have wG : (rcz 4 X2).G = X.G := (rcz_G 4).trans fG
  have wE : gEq X (rcz 4 X2) := rcz_E fE 4
  have wT : cT (rcz 4 X2) (aT A) nm (aH A) := cT_fr q4 (by rw [wI 6 (by omega) (by omega)]) (by rw [wI 7 (by omega) (by omega)]) (by rw [wG]) (by rw [wG]) wE (fun a j ha _ => by rw [wI a (by omega) (by omega)])
  have wS : cS (rcz 4 X2) _ := cS_fr s1 (rcz_ne 4 (by omega) (by omega)) (rcz_ne 4 (by omega) (by omega)) (rcz_ne 4 (by omega) (by omega))
  obtain ⟨U, u1, u2, u3⟩ := C_needSynced wT hb (RR_fr q7 wE)
  obtain ⟨Y, y1, y2, y3, y4⟩ := C_drop (cT_frN wT u2) u3 (RR_fr (RR_fr q7 wE) u2.2.2.2) hk
  have hloop : gI (fun s : gX × Int32 => f_Le_losePower_11 s.1 s.2) gK (X2, 0) = some (gR.v, Y.w 5 3 1) := by
    refine gI_at (fun i => (rcz i X2, nI i)) 4 (gK_lt (by omega)) (fun i hi => ?_) ?_ rfl
    · show f_Le_losePower_11 (rcz i X2) (nI i) = _
      unfold f_Le_losePower_11
      rw [if_neg (show ¬ (4 : Int32) ≤ nI i from nI_ge (a := i) (b := 4) hi (by omega)), if_pos (gIn_nI (by omega) (by omega)), gn_nI (by omega), gB_b, nI_1]
      rfl
    · show f_Le_losePower_11 (rcz 4 X2) (nI 4) = _
      unfold f_Le_losePower_11
      rw [if_pos (by decide), u1, gCv_v, y1, gCv_v, gB_b, gLf_s]
  have yI : ∀ a, a ≠ 0 → a ≠ 5 → a ≠ 6 → a ≠ 7 → a < 1000 → (a < 26 ∨ 41 < a ∨ (a ≠ 26 ∧ a ≠ 31 ∧ a ≠ 36 ∧ a ≠ 41)) → (Y.w 5 3 1).I a = X.I a := fun a a1 a2 a3 a4 a5 a6 => by
    rw [gX.w_ne a2, y4.1 a a3 a4, u2.1 a a5, wI a a1 a6]
  have yG : ∀ a, a ≠ 130 → a ≠ 131 → (Y.w 5 3 1).G a = X.G a := fun a a1 a2 => by
    rw [w_G, y4.2.1 a a1 a2, u2.2.2.1, wG]
  refine ⟨Y.w 5 3 1, hloop, ⟨?_, ?_, ?_, ?_, ?_, ?_, RR_fr y3 gEq.rf.w⟩, fun a ha => yI a (by omega) (by omega) (by omega) (by omega) (by omega) (by omega), yG 121 (by omega) (by omega)⟩
  · refine cS_c (cS_w (v := 1) (cS_fr wS ?_ ?_ ?_) (show (5, 3, 14) ∈ cTab by decide)) aLose_S
    · rw [y4.1 0 (by omega) (by omega), u2.1 0 (by omega)]
    · rw [y4.1 1 (by omega) (by omega), u2.1 1 (by omega)]
    · rw [y4.1 5 (by omega) (by omega), u2.1 5 (by omega)]
  · intro q
    exact absurd rfl q
  · unfold cE at q3 ⊢
    rw [yI 2 (by omega) (by omega) (by omega) (by omega) (by omega) (by omega), yI 3 (by omega) (by omega) (by omega) (by omega) (by omega) (by omega), yI 4 (by omega) (by omega) (by omega) (by omega) (by omega) (by omega)]
    exact q3
  · have e9 : (aT A).filter (fun f => syn (aT A) f.1) = (aT A).filter (fun f => f.2.1) := List.filter_congr (fun f hf => by
      obtain ⟨i, hi⟩ := List.getElem?_of_mem hf
      exact syn_at hb hi)
    show cT (Y.w 5 3 1) ((aT A).filter (fun f => f.2.1)) nm (aH A)
    rw [← e9]
    exact cT_fr y2 (w_oth (Or.inl (by decide))) (w_oth (Or.inl (by decide))) rfl rfl gEq.rf.w (fun a j ha _ => by rw [gX.w_ne (by omega)])
  · obtain ⟨⟨h1, h2⟩, ⟨c, p, k1, k2, k3, k4, k5⟩, h4⟩ := q5
    have k1' : (c = 12 ∨ c = 16) ∧ (p = 12 ∨ p = 16) := by
      unfold cpq at k1
      omega
    refine ⟨⟨fun q => absurd rfl q, ?_⟩, ⟨c, p, k1, ?_, ?_, fun q => ?_, fun q => absurd rfl q⟩, fun i hi => Or.inl ⟨?_, ?_⟩⟩
    · rw [yG 8 (by omega) (by omega)]; exact h2
    · rw [yG 0 (by omega) (by omega)]; exact k2
    · rw [yG 0 (by omega) (by omega)]; exact k3
    · obtain ⟨k6, k7⟩ := k4 q
      rw [yG c (by omega) (by omega)]
      exact ⟨CV_fr k6 (yI c (by omega) (by omega) (by omega) (by omega) (by omega) (by omega)) (yG _ (by omega) (by omega)) (yG _ (by omega) (by omega)) (yI _ (by omega) (by omega) (by omega) (by omega) (by omega) (by omega)), k7⟩
    · show (if 84 ≤ 84 + 8 * i then v0 (aV A (84 + 8 * i)) else aV A (84 + 8 * i)).2.2.2.2 = 0
      rw [if_pos (by omega)]
      rfl
    · rw [gX.w_ne (by omega), y4.1 _ (by omega) (by omega), u2.1 _ (by omega)]
      exact rcz_2 4 (by omega) hi
  · refine ⟨?_, fun i m _ hm => absurd hm (by show ¬ ([] : List zM)[i]? = some m; simp)⟩
    rw [yG 20 (by omega) (by omega)]
    exact q6.1
theorem C_act0 {X : gX} {A : zA} {nm : Nat → Nat} {k : Nat} (h : RC X A nm k) (hb : TB (aT A)) (hk : k ≤ 600) (h0 : aS A 13 = 0) : ∃ Y, f_Le_act X = some (gR.t "java/lang/ArithmeticException", Y) ∧ RC Y (aLose A) nm k ∧ frC X Y := by
  obtain ⟨Y, y1, y2⟩ := C_lose h hb hk
  unfold f_Le_act
  rw [cS_13 h.1, if_pos h0, y1, gCv_v]
  exact ⟨Y, rfl, y2⟩
/-- only the scalars have changed -/
def frS (X Y : gX) : Prop := (∀ a, a ≠ 0 → Y.I a = X.I a) ∧ (∀ j, j ≠ 16 → j ≠ 17 → Y.I 0 j = X.I 0 j) ∧ Y.G = X.G ∧ gEq X Y
theorem frS.C {X Y : gX} (h : frS X Y) : frC X Y := ⟨fun a ha => h.1 a (by omega), by rw [h.2.2.1]⟩
theorem C_act1 {X : gX} {A : zA} {nm : Nat → Nat} {k : Nat} (h : RC X A nm k) (h0 : ¬ aS A 13 = 0) : ∃ Y, f_Le_act X = some (gR.v, Y) ∧ RC Y (aActd A) nm k ∧ frS X Y := by
  have e13 := cS_13 h.1
  have e12 := cS_12 h.1
  unfold f_Le_act f_Le_act_39 aActd
  rw [e13, if_neg h0]
  by_cases c : aS A 13 ≤ 0
  · rw [if_pos c, if_pos c, gB_b, e12]
    refine ⟨_, rfl, RC_sS (S' := upd (aS A) 12 (aS A 12 + 1)) h (cS_w h.1 (show (0, 16, 12) ∈ cTab by decide)) (fun q => ?_) (fun a a1 a2 a3 => gX.w_ne (by omega)) (fun a j a1 a2 => by rw [gX.w_ne (by omega)]) (fun _ _ => rfl) gEq.rf.w id id id, fun a ha => gX.w_ne ha, fun j j1 j2 => w_oth (Or.inr j1), rfl, gEq.rf.w⟩
    rw [w_oth (Or.inr (by decide))]
    exact h.2.1 q
  · rw [if_neg c, if_neg c, gB_b, gB_b, w_oth (Or.inr (by decide)), e12]
    refine ⟨_, rfl, RC_sS (S' := upd (upd (aS A) 13 (aS A 13 - 1)) 12 (aS A 12 + 1)) h (cS_w (cS_w h.1 (show (0, 17, 13) ∈ cTab by decide)) (show (0, 16, 12) ∈ cTab by decide)) (fun q => ?_) (fun a a1 a2 a3 => (gX.w_ne (by omega)).trans (gX.w_ne (by omega))) (fun a j a1 a2 => by rw [gX.w_ne (by omega), gX.w_ne (by omega)]) (fun _ _ => rfl) gEq.rf.w.w id id id, fun a ha => (gX.w_ne ha).trans (gX.w_ne ha), fun j j1 j2 => (w_oth (Or.inr j1)).trans (w_oth (Or.inr j2)), rfl, gEq.rf.w.w⟩
    rw [w_oth (Or.inr (by decide)), w_oth (Or.inr (by decide))]
    exact h.2.1 q
theorem any_or2 {α : Type} {l : List α} {p q : α → Bool} : l.any (fun x => p x || q x) = (l.any p || l.any q) := by
  induction l with
  | nil => rfl
  | cons a l ih =>
    rw [List.any_cons, List.any_cons, List.any_cons, ih]
    cases p a <;> cases q a <;> simp
theorem inV_ff {l : List zS} {k : Nat} : inV false l k = l.any (fun x => decide (k = x.1)) := by simp [inV]
theorem inV_tt {l : List zS} {k : Nat} : inV true l k = (l.any (fun x => decide (k = x.1)) || l.any (fun x => decide (x.2.1 = some k))) := by
  rw [← any_or2]
  simp [inV]
theorem C_df111 {X : gX} {A : zA} {nm : Nat → Nat} {k : Nat} {q : Nat → Bool} (h : RC X A nm k) (hb : TB (aT A)) (hV : VL A) (hH : HV A (aT A)) (hk : k ≤ 600) (hq : N3 X (aT A) nm q) : ∃ Y, gI (fun s : gX × Int32 => f_Le_dropUnneededFiles_111 s.1 s.2) gK (X, 0) = some (gR.v, Y) ∧ RC Y (sT A ((aT A).filter (fun f => q f.1 || nd5 A 4 f.1))) nm k ∧ frC X Y := by
  have key := gI_inv (body := fun u : gX × Int32 => f_Le_dropUnneededFiles_111 u.1 u.2) (fun i u => u.2 = nI i ∧ frN X u.1 ∧ N3 u.1 (aT A) nm (fun j => q j || nd5 A i j)) (fun r => ∃ Y, r = (gR.v, Y) ∧ RC Y (sT A ((aT A).filter (fun f => q f.1 || nd5 A 4 f.1))) nm k ∧ frC X Y) 4 (by omega) (s0 := (X, 0)) ⟨rfl, frN.rf, N3_c hq (fun k => by simp [nd5])⟩ (fun i u hi hI => by
    obtain ⟨W, i'⟩ := u
    obtain ⟨rfl, g1, g2⟩ := hI
    show ∃ u', f_Le_dropUnneededFiles_111 W (nI i) = _ ∧ _
    have hR := RC_frN h g1
    have hr := (RC_W hR).2.2 i hi
    have j1 : gIn (nI i) 4 = true := gIn_nI (by omega) (by omega)
    unfold f_Le_dropUnneededFiles_111
    rw [if_neg (show ¬ (4 : Int32) ≤ nI i from nI_ge (a := i) (b := 4) hi (by omega)), if_pos j1, gn_nI (by omega)]
    rcases hr with ⟨r1, r2⟩ | ⟨r1, r2, r3, r4⟩
    · rw [r2, if_pos rfl]
      refine ⟨_, rfl, nI_1 i, g1, N3_c g2 (fun j => ?_)⟩
      rw [nd5_s, r1]
      simp
    · rw [r2, if_neg (by decide), if_pos j1]
      obtain ⟨Y, y1, y2, y3⟩ := C_needS r4 (by omega) (RC_T hR) hb (hV _ (gVer_r hi) (fun e => absurd e (by omega))) (fun x hx => (hH.2.2.2.2 i hi r1 x hx).1) g2
      rw [y1, gCv_v]
      refine ⟨_, rfl, nI_1 i, g1.tr y2, N3_c y3 (fun j => ?_)⟩
      rw [nd5_s, inV_ff]
      simp [r1, Bool.or_assoc]) (fun u hI => by
    obtain ⟨W, i'⟩ := u
    obtain ⟨rfl, g1, g2⟩ := hI
    show ∃ r, f_Le_dropUnneededFiles_111 W (nI 4) = _ ∧ _
    have hR := RC_frN h g1
    obtain ⟨Y, y1, y2, y3, y4⟩ := C_drop (RC_T hR) g2 (RC_R hR) hk
    unfold f_Le_dropUnneededFiles_111
    rw [if_pos (by decide), y1, gCv_v]
    exact ⟨_, rfl, Y, rfl, RC_sT hR y4 y2 y3, g1.C.tr y4.C⟩)
  obtain ⟨r, k1, Y, rfl, k3⟩ := key
  rw [k1]
  exact ⟨Y, rfl, k3⟩
theorem C_df81 {X : gX} {A : zA} {nm : Nat → Nat} {k : Nat} {q : Nat → Bool} (h : RC X A nm k) (hb : TB (aT A)) (hV : VL A) (hH : HV A (aT A)) (hm : aS A 30 = nI (aM A).length) (hm4 : (aM A).length ≤ 4) (hk : k ≤ 600) (hq : N3 X (aT A) nm q) : ∃ Y, f_Le_dropUnneededFiles_81 X = some (gR.v, Y) ∧ RC Y (sT A ((aT A).filter (fun f => q f.1 || nd4 (aM A) f.1 || nd5 A 4 f.1))) nm k ∧ frC X Y := by
  unfold f_Le_dropUnneededFiles_81
  have key := gI_inv (body := fun u : gX × Int32 => f_Le_dropUnneededFiles_83 u.1 u.2) (fun i u => u.2 = nI i ∧ frN X u.1 ∧ N3 u.1 (aT A) nm (fun j => q j || nd4 ((aM A).take i) j)) (fun r => ∃ Y, r = (gR.v, Y) ∧ RC Y (sT A ((aT A).filter (fun f => q f.1 || nd4 (aM A) f.1 || nd5 A 4 f.1))) nm k ∧ frC X Y) (aM A).length (by omega) (s0 := (X, 0)) ⟨rfl, frN.rf, N3_c hq (fun k => by simp [nd4])⟩ (fun i u hi hI => by
    obtain ⟨W, i'⟩ := u
    obtain ⟨rfl, g1, g2⟩ := hI
    show ∃ u', f_Le_dropUnneededFiles_83 W (nI i) = _ ∧ _
    have hR := RC_frN h g1
    obtain ⟨m, em⟩ := vs_at hi
    obtain ⟨n, n1, n2, -, -, -, n6⟩ := (RC_M hR).2 i m (by omega) em
    obtain ⟨m1, m2, m3⟩ := C_mark (RC_T hR) hb (hH.2.2.2.1 m (vs_mem em)) g2
    unfold f_Le_dropUnneededFiles_83
    rw [cS_30 hR.1, hm, if_neg (nI_ge (by omega) (by omega)), if_pos (gIn_nI (by omega) (by omega)), gn_nI (by omega), n1, gM_s, if_pos n2, n6, m1, gCv_v]
    refine ⟨_, rfl, nI_1 i, g1.w m2, N3_c m3 (fun j => ?_)⟩
    rw [nd4_s em]
    simp [Bool.or_assoc]) (fun u hI => by
    obtain ⟨W, i'⟩ := u
    obtain ⟨rfl, g1, g2⟩ := hI
    show ∃ r, f_Le_dropUnneededFiles_83 W (nI (aM A).length) = _ ∧ _
    have hR := RC_frN h g1
    rw [List.take_length] at g2
    unfold f_Le_dropUnneededFiles_83
    rw [cS_30 hR.1, hm, if_pos (nI_le (Nat.le_refl _) (by omega))]
    obtain ⟨Y, y1, y2, y3⟩ := C_df111 hR hb hV hH hk g2
    rw [y1, gLf_s]
    exact ⟨_, rfl, Y, rfl, y2, g1.C.tr y3⟩)
  obtain ⟨r, k1, Y, rfl, k3⟩ := key
  rw [k1]
  exact ⟨Y, rfl, k3⟩
theorem C_needV {X : gX} {v : Nat} {nm : Nat → Nat} {V : zV} {T : List zF} {H : zH} {p : Nat → Bool} {o : Option Nat} (h : CV X v nm V) (hv9 : v < 900) (ho : X.G v 3 = o.map nm) (hO : ∀ k, o = some k → hav T k) (hT : cT X T nm H) (hb : TB T) (hl : V.1.length ≤ 4096) (hv : hvV true T V) (hp : N3 X T nm p) : ∃ W Y, f_Vi_needSegments X v = some (gR.v, W) ∧ f_Vi_needListsAndOwn W v = some (gR.v, Y) ∧ frN X W ∧ frN X Y ∧ N3 Y T nm (fun k => p k || inV true V.1 k || ow1 o k) := by
  obtain ⟨W, w1, w2, w3⟩ := C_needS h hv9 hT hb hl (fun x hx => (hv x hx).1) hp
  obtain ⟨Y, y1, y2, y3⟩ := C_needL (CV_frN h w2 hv9) hv9 (by rw [w2.2.2.1]; exact ho) hO (cT_frN hT w2) hb hl hv w3
  refine ⟨W, Y, w1, y1, w2, w2.tr y2, N3_c y3 (fun k => ?_)⟩
  rw [inV_tt]
  simp [Bool.or_assoc]
theorem C_df60 {X : gX} {A : zA} {nm : Nat → Nat} {k : Nat} {q : Nat → Bool} (h : RC X A nm k) (hb : TB (aT A)) (hV : VL A) (hH : HV A (aT A)) (hm : aS A 30 = nI (aM A).length) (hm4 : (aM A).length ≤ 4) (hk : k ≤ 600) (hq : N3 X (aT A) nm q) : ∃ Y, f_Le_dropUnneededFiles_60 X = some (gR.v, Y) ∧ RC Y (sT A ((aT A).filter (fun f => q f.1 || nd3 A f.1 || nd4 (aM A) f.1 || nd5 A 4 f.1))) nm k ∧ frC X Y := by
  unfold f_Le_dropUnneededFiles_60
  rw [cS_18 h.1]
  by_cases c : aS A 18 = 0
  · rw [if_pos c]
    obtain ⟨Y, y1, y2, y3⟩ := C_df81 h hb hV hH hm hm4 hk hq
    refine ⟨Y, y1, ?_, y3⟩
    rw [flt_c (q := fun f => q f.1 || nd4 (aM A) f.1 || nd5 A 4 f.1) (fun f => by simp [nd3, c])]
    exact y2
  · rw [if_neg c]
    obtain ⟨⟨w1, w2⟩, -, -⟩ := RC_W h
    obtain ⟨W, Z, z1, z2, z3, z4, z5⟩ := C_needV (o := none) (w1 c) (by omega) w2 (fun k q => by cases q) (RC_T h) hb (hV 54 rfl (fun _ => c)) (hH.2.2.1 c) hq
    obtain ⟨Y, y1, y2, y3⟩ := C_df81 (RC_frN h z4) hb hV hH hm hm4 hk z5
    rw [z1, gCv_v, z2, gCv_v, y1]
    refine ⟨Y, rfl, ?_, z4.C.tr y3⟩
    rw [flt_c (q := fun f => (q f.1 || inV true (aV A 54).1 f.1 || ow1 none f.1) || nd4 (aM A) f.1 || nd5 A 4 f.1) (fun f => by simp [nd3, c, ow1])]
    exact y2
theorem cpq_v {c p : Nat} (h : cpq c p) : gVie c = true ∧ gVie p = true ∧ c < 900 ∧ p < 900 ∧ 12 ≤ c ∧ c ≤ 16 ∧ 12 ≤ p ∧ p ≤ 16 := by
  rcases h with ⟨rfl, rfl⟩ | ⟨rfl, rfl⟩ <;> decide
theorem C_df39 {X : gX} {A : zA} {nm : Nat → Nat} {k : Nat} {q : Nat → Bool} (h : RC X A nm k) (hb : TB (aT A)) (hV : VL A) (hH : HV A (aT A)) (hm : aS A 30 = nI (aM A).length) (hm4 : (aM A).length ≤ 4) (hk : k ≤ 600) (hq : N3 X (aT A) nm q) : ∃ Y, f_Le_dropUnneededFiles_39 X = some (gR.v, Y) ∧ RC Y (sT A ((aT A).filter (fun f => q f.1 || nd2 A f.1 || nd3 A f.1 || nd4 (aM A) f.1 || nd5 A 4 f.1))) nm k ∧ frC X Y := by
  unfold f_Le_dropUnneededFiles_39
  rw [cS_19 h.1]
  by_cases c : aS A 19 = 0
  · rw [if_pos c]
    obtain ⟨Y, y1, y2, y3⟩ := C_df60 h hb hV hH hm hm4 hk hq
    refine ⟨Y, y1, ?_, y3⟩
    rw [flt_c (q := fun f => q f.1 || nd3 A f.1 || nd4 (aM A) f.1 || nd5 A 4 f.1) (fun f => by simp [nd2, c])]
    exact y2
  · rw [if_neg c]
    obtain ⟨-, ⟨c1, p1, k1, k2, k3, k4, k5⟩, -⟩ := RC_W h
    obtain ⟨v1, v2, v3, v4, -⟩ := cpq_v k1
    obtain ⟨k6, k7⟩ := k5 c
    obtain ⟨W, Z, z1, z2, z3, z4, z5⟩ := C_needV (o := some (aV A 70).2.2.1) k6 v4 k7 (fun k q => by rw [← Option.some.inj q]; exact (hH.2.1 c).2) (RC_T h) hb (hV 70 rfl (fun e => absurd e (by decide))) (hH.2.1 c).1 hq
    obtain ⟨Y, y1, y2, y3⟩ := C_df60 (RC_frN h z4) hb hV hH hm hm4 hk z5
    rw [k3, gM_s, if_pos v2, z1, gCv_v, z3.2.2.1, k3, gM_s, if_pos v2, z2, gCv_v, y1]
    refine ⟨Y, rfl, ?_, z4.C.tr y3⟩
    rw [flt_c (q := fun f => (q f.1 || inV true (aV A 70).1 f.1 || ow1 (some (aV A 70).2.2.1) f.1) || nd3 A f.1 || nd4 (aM A) f.1 || nd5 A 4 f.1) (fun f => by simp [nd2, c, ow1, Bool.or_assoc, eq_comm])]
    exact y2
theorem C_dropFiles {X : gX} {A : zA} {nm : Nat → Nat} {k : Nat} (h : RC X A nm k) (hb : TB (aT A)) (hV : VL A) (hH : HV A (aT A)) (hm : aS A 30 = nI (aM A).length) (hm4 : (aM A).length ≤ 4) (hk : k ≤ 600) (h0 : aS A 14 = 0) : ∃ Y, f_Le_dropUnneededFiles X = some (gR.v, Y) ∧ RC Y (sT A ((aT A).filter (fun f => ndd A f.1))) nm k ∧ frC X Y := by
  unfold f_Le_dropUnneededFiles
  obtain ⟨U, u1, u2, u3⟩ := C_needNone (RC_T h) hb (RC_R h)
  have hU := RC_frN h u2
  rw [cS_14 h.1, if_pos h0, u1, gCv_v, cS_20 hU.1]
  by_cases c : aS A 20 ≤ 0
  · rw [if_pos c]
    obtain ⟨Y, y1, y2, y3⟩ := C_df39 hU hb hV hH hm hm4 hk u3
    refine ⟨Y, y1, ?_, u2.C.tr y3⟩
    rw [flt_c (q := fun f => false || nd2 A f.1 || nd3 A f.1 || nd4 (aM A) f.1 || nd5 A 4 f.1) (fun f => by simp [ndd, nd1, c])]
    exact y2
  · rw [if_neg c]
    obtain ⟨-, ⟨c1, p1, k1, k2, k3, k4, k5⟩, -⟩ := RC_W hU
    obtain ⟨v1, v2, v3, v4, -⟩ := cpq_v k1
    obtain ⟨k6, k7⟩ := k4 c
    obtain ⟨W, Z, z1, z2, z3, z4, z5⟩ := C_needV (o := some (aV A 62).2.2.1) k6 v3 k7 (fun k q => by rw [← Option.some.inj q]; exact (hH.1 c).2) (RC_T hU) hb (hV 62 rfl (fun e => absurd e (by decide))) (hH.1 c).1 u3
    obtain ⟨Y, y1, y2, y3⟩ := C_df39 (RC_frN hU z4) hb hV hH hm hm4 hk z5
    rw [k2, gM_s, if_pos v1, z1, gCv_v, z3.2.2.1, k2, gM_s, if_pos v1, z2, gCv_v, y1]
    refine ⟨Y, rfl, ?_, (u2.C.tr z4.C).tr y3⟩
    rw [flt_c (q := fun f => (false || inV true (aV A 62).1 f.1 || ow1 (some (aV A 62).2.2.1) f.1) || nd2 A f.1 || nd3 A f.1 || nd4 (aM A) f.1 || nd5 A 4 f.1) (fun f => by simp [ndd, nd1, c, ow1, Bool.or_assoc, eq_comm])]
    exact y2
theorem C_dropLost {X : gX} {A : zA} {nm : Nat → Nat} {k : Nat} (h : RC X A nm k) (h0 : ¬ aS A 14 = 0) : f_Le_dropUnneededFiles X = some (gR.v, X) := by
  unfold f_Le_dropUnneededFiles
  rw [cS_14 h.1, if_neg h0]
