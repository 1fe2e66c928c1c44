/-! THE PURE SIDE: both sides together; the call flush -/
/-- both sides hold one ledger, behind k calls -/
def JJ (X : gX) (k : Nat) : Prop := ∃ A nm, RM X A ∧ RC X A nm k ∧ Inv A k ∧ X.I 46 0 = 0 ∧ KK A
theorem RR_mono {X : gX} {k k' : Nat} (h : RR X k) (hk : k ≤ k') : RR X k' := by
  obtain ⟨h1, h2, h3⟩ := h
  exact ⟨h1, by omega, by omega⟩
theorem RC_mono {X : gX} {A : zA} {nm : Nat → Nat} {k k' : Nat} (h : RC X A nm k) (hk : k ≤ k') : RC X A nm k' := ⟨h.1, h.2.1, h.2.2.1, h.2.2.2.1, h.2.2.2.2.1, h.2.2.2.2.2.1, RR_mono h.2.2.2.2.2.2 hk⟩
theorem RC_ex {X : gX} {A : zA} {nm : Nat → Nat} {k : Nat} (h : RC X A nm k) : RC X.ex A nm (k + 1) := by
  obtain ⟨q1, q2, q3, q4, q5, q6, q7⟩ := h
  refine ⟨q1, q2, q3, q4, q5, q6, ⟨q7.1, ?_, ?_⟩⟩
  · have := q7.2.1
    show 5 * (X.cc + 1) ≤ 610 + 5 * X.N + X.L 130 + X.L 131 + 5 * (k + 1)
    omega
  · have := q7.2.2
    show X.ss + 6 ≤ 677754 + 7 * X.N + 4 * (X.L 130 + X.L 131) + 6 * (k + 1)
    omega
theorem frC.ex {X Y : gX} (h : frC X Y) : frC X Y.ex := h
theorem RC_116 {X : gX} {A : zA} {nm : Nat → Nat} {k : Nat} {v : Int32} (h : RC X A nm k) : RC (X.w 116 0 v) A nm (k + 1) := RC_mono (RC_fr h (fun a ha => gX.w_ne (by omega)) (fun a j ha _ => by rw [gX.w_ne (by omega)]) (fun _ _ => rfl) gEq.rf.w) (by omega)
theorem RC_lim {X : gX} {A : zA} {nm : Nat → Nat} {k : Nat} (h : RC X A nm k) (hk : k ≤ 600) : X.cc + 1 ≤ gCL ∧ X.ss + 6 ≤ gSL := by
  have := RR_lim (RC_R h) hk
  omega
/-- unneeded files go, but after power was lost -/
def aTf (A : zA) : zA := if aS A 14 = 0 then sT A ((aT A).filter (fun f => ndd A f.1)) else A
def Tw (A : zA) : Prop := TB (aT A) ∧ VL A ∧ HV A (aT A) ∧ aS A 30 = nI (aM A).length ∧ (aM A).length ≤ 4
theorem z_tidyF {X : gX} {A : zA} (h : RM X A) (hw : Tw A) : ∃ Y, f_Mo_tidyFiles X = some (gR.v, Y) ∧ RM Y (aTf A) ∧ frM X Y ∧ Y.I 46 0 = X.I 46 0 := by
  obtain ⟨w1, w2, w3, w4, w5⟩ := hw
  unfold aTf
  by_cases c : aS A 14 = 0
  · rw [if_pos c]
    exact z_tidyFiles h w1 w2 w3 w4 w5 c
  · rw [if_neg c]
    exact ⟨X, z_tidyLost h c, h, frM.rf, rfl⟩
theorem C_dropF {X : gX} {A : zA} {nm : Nat → Nat} {k : Nat} (h : RC X A nm k) (hw : Tw A) (hk : k ≤ 600) : ∃ Y, f_Le_dropUnneededFiles X = some (gR.v, Y) ∧ RC Y (aTf A) nm k ∧ frC X Y := by
  obtain ⟨w1, w2, w3, w4, w5⟩ := hw
  unfold aTf
  by_cases c : aS A 14 = 0
  · rw [if_pos c]
    exact C_dropFiles h w1 w2 w3 w4 w5 hk c
  · rw [if_neg c]
    exact ⟨X, C_dropLost h c, h, frC.rf⟩
theorem aTf_id {A : zA} (h : aS A 14 = 0 → ∀ f, f ∈ aT A → ndd A f.1 = true) : aTf A = A := by
  unfold aTf
  by_cases c : aS A 14 = 0
  · rw [if_pos c, List.filter_eq_self.mpr (h c)]
  · rw [if_neg c]
theorem VL_of {A : zA} {k : Nat} (h : Inv A k) : VL A := by
  intro n hn hn'
  obtain ⟨⟨⟨⟨p1, p1'⟩, -⟩, -⟩, -, h3, h4, -⟩ := h
  by_cases c : n = 54
  · subst c
    exact (VB_of (h4 (hn' rfl)).1.1 (by omega)).1.1
  · exact (VB_of (h3 n hn c).1 p1').1.1
theorem Tw_of {A : zA} {k : Nat} (h : Inv A k) : Tw A := ⟨h.2.1.1, VL_of h, h.2.2.2.2.1.1, h.1.2.2.1.1, h.1.2.2.1.2⟩
theorem aTf_inv {A : zA} {k : Nat} (h : Inv A k) : aTf A = A := aTf_id h.2.2.2.2.2.2.2.1
/-- finished, where all files are needed -/
theorem z_fin {X : gX} {A : zA} {k : Nat} {v v' L : Int32} {p : Nat} (h : RM X A) (hi : Inv A k) (hd : ∀ Z : gX, Z.I 46 0 = X.I 46 0 → f_Mo_done Z v L = some (gR.i v', Xd Z p)) : ∃ Y, f_Mo_finished X v L = some (gR.i v', Xd Y p) ∧ RM (Xd Y p) A ∧ frM X (Xd Y p) := by
  obtain ⟨Y, y1, y2, y3, y4⟩ := z_tidyF h (Tw_of hi)
  rw [aTf_inv hi] at y2
  unfold f_Mo_finished
  rw [y1, gCv_v, hd Y y4, gCi_i]
  exact ⟨Y, rfl, RM_d y2, frM_d y3⟩
theorem Fw_of {E : List Nat} {A : zA} {k i : Nat} (h : MidE E A k i) (hk : k ≤ 600) (hl : (aV A 54).1.length < 4096) : Fw A k := by
  have hn := NW_mid h
  obtain ⟨ho, ⟨⟨p1, p2, p3⟩, -⟩, h2, -⟩ := h
  exact ⟨⟨ho, h2.1, hk⟩, ⟨p1, p2, p3.1⟩, hn, h2.2.1, by have := h2.2.2; omega, hl⟩
/-- the outcome of a flush -/
def flR (A : zA) : Bool × zA := if flS A = true then (if aS A 13 = 0 then (false, aLose A) else (true, aFl A)) else (true, aFl0 A)
theorem Mid_fit {E : List Nat} {A : zA} {k i : Nat} (h : MidE E A k i) (hb : 0 < bf A) : (fl (aD A) (aV A 54).1).length + bf A ≤ 4096 ∧ (aV A 54).1.length < 4096 := by
  obtain ⟨ho, ⟨⟨⟨p1, p1'⟩, ⟨p2, p2'⟩, p3⟩, -⟩, h2, h3, ⟨⟨a1, a1'⟩, -⟩, -⟩ := h
  obtain ⟨v1, v2, v3⟩ := VB_of a1 (by omega)
  have gen : ∀ (l : List Nat) (s d : Nat), l.Pairwise (· < ·) → (∀ e, e ∈ l → s ≤ e ∧ e < d) → s ≤ d → l.length + s ≤ d := by
    intro l
    induction l with
    | nil => intro s d _ _ hs; simpa using hs
    | cons a l ih =>
      intro s d hp hr hs
      have ha := hr a (by simp)
      have := ih (a + 1) d (List.pairwise_cons.mp hp).2 (fun e he => ⟨(List.pairwise_cons.mp hp).1 e he, (hr e (by simp [he])).2⟩) (by omega)
      simp only [List.length_cons]
      omega
  have g1 := gen _ 0 (dc A - bf A) v2 (fun e he => ⟨by omega, v3 e he⟩) (by omega)
  have g2 : (aV A 54).1.length ≤ (fl (aD A) (aV A 54).1).length := by
    have key : ∀ l : List zS, (∀ x, x ∈ l → 0 < (aD A x.1).length) → l.length ≤ (fl (aD A) l).length := by
      intro l
      induction l with
      | nil => intro _; simp
      | cons x l ih =>
        intro hx
        rw [show x :: l = [x] ++ l from rfl, fl_app, fl_1, List.length_append, List.length_append]
        have := ih (fun y hy => hx y (by simp [hy]))
        have := hx x (by simp)
        simp only [List.length_cons, List.length_nil]
        omega
    exact key _ (fun x hx => List.length_pos_of_mem (a1.1 x hx).1.2.2.1)
  have g1' : (fl (aD A) (aV A 54).1).length + 0 ≤ dc A - bf A := g1
  omega
theorem flS_bf {A : zA} (h : flS A = true) : 0 < bf A := by
  have := cnt_le (p := (aV A 54).2.1) (s := dc A - bf A) (bf A)
  have h2 : 0 < cnt (aV A 54).2.1 (dc A - bf A) (bf A) := of_decide_eq_true h
  omega
theorem Fb_of {E : List Nat} {A : zA} {k i : Nat} (h : MidE E A k i) (hk : k ≤ 600) : Fb A k := by
  obtain ⟨ho, ⟨⟨p1, p2, p3⟩, -⟩, h2, -⟩ := h
  exact ⟨⟨ho, h2.1, hk⟩, ⟨p1, p2, p3.1⟩⟩
theorem Fb_k {A : zA} {k k' : Nat} (h : Fb A k) (hk : k' ≤ 600) : Fb A k' := ⟨⟨h.1.1, h.1.2.1, hk⟩, h.2⟩
theorem Fw_k {A : zA} {k k' : Nat} (h : Fw A k) (hk : k' ≤ 600) : Fw A k' := ⟨⟨h.1.1, h.1.2.1, hk⟩, h.2⟩
theorem Fw_l {E : List Nat} {A : zA} {k i : Nat} (h : MidE E A k i) (hk : k ≤ 600) (hs : flS A = true) : Fw A k := Fw_of h hk (Mid_fit h (flS_bf hs)).2
/-- both sides flush -/
theorem C_flush {X : gX} {A : zA} {nm : Nat → Nat} {k k' i : Nat} (h : RC X A nm k') (hm : Mid A k i) (hk : k ≤ 600) (hk' : k' ≤ 600) : ((flR A).1 = true ∧ ∃ Y nm', f_Le_flushBuffer X = some (gR.v, Y) ∧ RC Y (flR A).2 nm' k' ∧ frC X Y) ∨ ((flR A).1 = false ∧ ∃ Y, f_Le_flushBuffer X = some (gR.t "java/lang/ArithmeticException", Y) ∧ RC Y (flR A).2 nm k' ∧ frC X Y) := by
  unfold flR
  cases hs : flS A with
  | false =>
    left
    rw [if_neg (by simp)]
    obtain ⟨Y, y1, y2⟩ := C_flush0 h (Fb_k (Fb_of hm hk) hk') hs
    exact ⟨rfl, Y, nm, y1, y2⟩
  | true =>
    rw [if_pos rfl]
    by_cases c : aS A 13 = 0
    · right
      rw [if_pos c]
      obtain ⟨Y, y1, y2⟩ := C_flushT h (Fb_k (Fb_of hm hk) hk') hs c
      exact ⟨rfl, Y, y1, y2⟩
    · left
      rw [if_neg c]
      obtain ⟨Y, nm', y1, y2⟩ := C_flush1 h (Fw_k (Fw_l hm hk hs) hk') hs c
      exact ⟨rfl, Y, nm', y1, y2⟩
theorem z_flush {E : List Nat} {X : gX} {A : zA} {k i : Nat} (h : RM X A) (hm : MidE E A k i) (hk : k ≤ 600) : ((flR A).1 = true ∧ ∃ Y, f_Mo_flushing X = some (gR.i 1, Y) ∧ RM Y (flR A).2 ∧ frM X Y ∧ Y.I 46 0 = X.I 46 0) ∨ ((flR A).1 = false ∧ ∃ Y, f_Mo_flushing X = some (gR.i 0, Y) ∧ RM Y (flR A).2 ∧ frM X Y ∧ Y.I 46 0 = 6) := by
  unfold flR
  cases hs : flS A with
  | false =>
    left
    rw [if_neg (by simp)]
    obtain ⟨Y, y1, y2⟩ := z_flush0 h (Fb_of hm hk) hs
    exact ⟨rfl, Y, y1, y2⟩
  | true =>
    rw [if_pos rfl]
    by_cases c : aS A 13 = 0
    · right
      rw [if_pos c]
      obtain ⟨Y, y1, y2⟩ := z_flushT h (Fb_of hm hk) hs c
      exact ⟨rfl, Y, y1, y2⟩
    · left
      rw [if_neg c]
      have hw := hm.2.1.1.2.2.2
      obtain ⟨Y, y1, y2⟩ := z_flush1 h (Fw_l hm hk hs) (Mid_fit hm (flS_bf hs)).1 (by omega) hs c
      exact ⟨rfl, Y, y1, y2⟩
theorem Mid_flR {A : zA} {k i : Nat} (h : Mid A k i) (hk : k ≤ 600) (hw : wr A + 1 ≤ 10000 * k) : ((flR A).1 = true → Mid (flR A).2 k i ∧ wr (flR A).2 ≤ wr A + 1 ∧ bf (flR A).2 = 0) ∧ ((flR A).1 = false → Inv (flR A).2 k) := by
  unfold flR
  cases hs : flS A with
  | false =>
    rw [if_neg (by simp)]
    exact ⟨fun _ => ⟨Mid_fl0 h hs, Nat.le_succ _, rfl⟩, fun q => absurd q (by simp)⟩
  | true =>
    rw [if_pos rfl]
    by_cases c : aS A 13 = 0
    · rw [if_pos c]
      exact ⟨fun q => absurd q (by simp), fun _ => Mid_lose h⟩
    · rw [if_neg c]
      refine ⟨fun _ => ⟨Mid_fl h hs hw hk, ?_, rfl⟩, fun q => absurd q (by simp)⟩
      have e := (wr_new (A := aActd A) (H := aFlH A) (by rw [show wr (aActd A) = wr A from congrArg gn (aActd_S (by decide) (by decide)), aActd_S (by decide) (by decide)]; exact h.2.1.1.2.2.1) (by rw [show wr (aActd A) = wr A from congrArg gn (aActd_S (by decide) (by decide))]; omega)).1
      have e2 : wr (aFl A) = wr (aNew (aActd A) (aFlH A)) := rfl
      rw [show wr (aActd A) = wr A from congrArg gn (aActd_S (by decide) (by decide))] at e
      show wr (aFl A) ≤ _
      rw [e2, e]
      exact Nat.le_refl _
theorem Mid_flRE {E : List Nat} {A : zA} {k i : Nat} (h : MidE E A k i) (hk : k ≤ 600) (hw : wr A + 1 ≤ 10000 * k) : (flR A).1 = true → MidE E (flR A).2 k i ∧ wr (flR A).2 ≤ wr A + 1 ∧ bf (flR A).2 = 0 := by
  unfold flR
  cases hs : flS A with
  | false =>
    rw [if_neg (by simp)]
    exact fun _ => ⟨Mid_fl0 h hs, Nat.le_succ _, rfl⟩
  | true =>
    rw [if_pos rfl]
    by_cases c : aS A 13 = 0
    · rw [if_pos c]
      exact fun q => absurd q (by simp)
    · rw [if_neg c]
      refine fun _ => ⟨Mid_fl h hs hw hk, ?_, rfl⟩
      have e := (wr_new (A := aActd A) (H := aFlH A) (by rw [show wr (aActd A) = wr A from congrArg gn (aActd_S (by decide) (by decide)), aActd_S (by decide) (by decide)]; exact h.2.1.1.2.2.1) (by rw [show wr (aActd A) = wr A from congrArg gn (aActd_S (by decide) (by decide))]; omega)).1
      have e2 : wr (aFl A) = wr (aNew (aActd A) (aFlH A)) := rfl
      rw [show wr (aActd A) = wr A from congrArg gn (aActd_S (by decide) (by decide))] at e
      show wr (aFl A) ≤ _
      rw [e2, e]
      exact Nat.le_refl _
theorem KK_tf {A : zA} (h : KK A) : KK (aTf A) := by
  unfold aTf
  split
  · exact KK_sub h id rfl rfl rfl rfl (fun j q => syn_flb q) (fun x hx => ⟨x, hx, rfl, rfl⟩) rfl
  · exact h
theorem KK_flR {A : zA} {k i : Nat} (hm : Mid A k i) (h : KK A) : KK (flR A).2 := by
  unfold flR
  by_cases c : flS A = true
  · rw [if_pos c]
    by_cases c2 : aS A 13 = 0
    · rw [if_pos c2]; exact KK_cl rfl
    · rw [if_neg c2]; exact KK_fl hm h
  · rw [if_neg c]
    exact KK_S h rfl rfl rfl
/-- what the law sees of a call with an answer -/
def LI (F : Option (gR × gX)) (G : gX → Option (gR × gX)) (k : Nat) : Prop := ∃ c v Y Z, F = some (gR.i c, Y) ∧ G Y = some (gR.i v, Z) ∧ f_Mo_thrown Z = some (gR.i c, Z) ∧ (c = 0 → Z.I 116 0 = v) ∧ JJ Z (k + 1)
def LVd (F : Option (gR × gX)) (G : gX → Option (gR × gX)) (k : Nat) : Prop := ∃ c Y Z, F = some (gR.i c, Y) ∧ G Y = some (gR.v, Z) ∧ f_Mo_thrown Z = some (gR.i c, Z) ∧ JJ Z (k + 1)
/-- a call that ends well on both sides -/
theorem LI_ok {F : Option (gR × gX)} {G : gX → Option (gR × gX)} {X Y0 Y Z : gX} {A : zA} {nm : Nat → Nat} {k : Nat} {v : Int32} (hF : F = some (gR.i 0, Y0.w 116 0 v)) (hC : RC Y0 A nm k) (hG : G (Y0.w 116 0 v) = some (gR.i v, Xd Z 0)) (hM : RM (Xd Z 0) A) (hf : frM (Y0.w 116 0 v) (Xd Z 0)) (hi : Inv A (k + 1)) (hK : KK A) : LI F G k := by
  refine ⟨0, v, _, _, hF, hG, z_thrown, fun _ => ?_, A, nm, hM, RC_frM (RC_116 hC) hf, hi, Xd_0, hK⟩
  rw [hf.1 116 (by omega), w_same rfl]
theorem LI_no {F : Option (gR × gX)} {G : gX → Option (gR × gX)} {X Y0 Z : gX} {A : zA} {nm : Nat → Nat} {k p : Nat} {v : Int32} (hp : 0 < p ∧ p < 100) (hF : F = some (gR.i (nI p), Y0.ex)) (hC : RC Y0 A nm k) (hG : G Y0.ex = some (gR.i v, Xd Z p)) (hM : RM (Xd Z p) A) (hf : frM Y0.ex (Xd Z p)) (hi : Inv A (k + 1)) (hK : KK A) : LI F G k :=
  ⟨nI p, v, _, _, hF, hG, z_thrown, fun q => absurd q (nI_ne0 hp.1 (by omega)), A, nm, hM, RC_frM (RC_ex hC) hf, hi, Xd_0, hK⟩
theorem s_wrong0 {X : gX} {c : Int32} (h : X.I 46 0 = 0) : f_Mo_wrong X 0 c = some (gR.i 0, X) := by rw [s_wrong, if_pos rfl, if_pos h]
theorem s_wrong1 {X : gX} {c : Int32} (h : X.I 46 0 = 0) (hc : ¬ c = 0) : f_Mo_wrong X 1 c = some (gR.i 1, X.w 46 0 c) := by rw [s_wrong, if_neg (by decide), if_pos h, if_neg hc]
/-- the call flush -/
theorem L_flush {X : gX} {k : Nat} (h : JJ X k) (hk : k < 600) : LI (f_Lw_flush X) f_Mo_flush k := by
  obtain ⟨A, nm, hM, hC, hI, h0, hK⟩ := h
  have hI1 := Inv_mono hI (Nat.le_succ k)
  unfold f_Lw_flush f_Le_flush f_Le_requireWriter
  rw [cS_18 hC.1]
  by_cases o : aS A 18 = 0
  · have lim := RC_lim hC (by omega)
    rw [if_pos o, gCvt_t, gCit_t, if_pos rfl, if_pos lim, gB_b]
    have hM' : RM (X.ex.w 46 0 2) A := RM_e (RM_frC hM frC.rf.ex)
    obtain ⟨Y, y1, y2, y3⟩ := z_fin (v := (X.ex.w 46 0 2).I 54 7) (v' := 0) (L := 26) (p := 1) hM' hI1 (fun Z hZ => z_done_26_2 (hZ.trans (w_same rfl)))
    refine LI_no (X := X) (p := 1) (by omega) rfl hC (Z := Y) (v := 0) ?_ y2 ((frM.rf.w (by omega)).tr y3) hI1 hK
    unfold f_Mo_flush f_Mo_flush_13 f_Mo_flush_35
    rw [show X.ex.I 46 18 = 0 from (RM_S hM 18 (by decide) (by decide) (by decide)).trans o, if_pos rfl, s_wrong1 (show X.ex.I 46 0 = 0 from h0) (by decide), gCi_i, if_neg (by decide), y1, gCi_i]
  · rw [if_neg o, gCvt_v]
    have hm := Mid_of hI o
    have hm1 := Mid_mono hm (Nat.le_succ k)
    have hw := hm.2.1.1.2.2.2
    obtain ⟨f1, f2⟩ := Mid_flR hm1 (by omega) (by omega)
    rcases C_flush hC hm1 (by omega) (by omega) with ⟨b, Y, nm', y1, y2, y3⟩ | ⟨b, Y, y1, y2, y3⟩
    · obtain ⟨g1, -, -⟩ := f1 b
      have g1i := g1
      rw [y1, gCvt_v, gCit_i, gB_b]
      have hMY : RM (Y.w 116 0 (Y.I 8 4)) A := RM_frC hM (y3.w (by omega))
      rcases z_flush hMY hm1 (by omega) with ⟨b', Z, z1, z2, z3, z4⟩ | ⟨b', -⟩
      · have e0 : Z.I 46 0 = 0 := by
          rw [z4, gX.w_ne (by decide), y3.1 46 (by omega)]
          exact h0
        have hiF : Inv (flR A).2 (k + 1) := Mid_inv g1
        have hCV := (RC_W y2).1.1 g1.1
        have e7 : Z.I 54 7 = Y.I 8 4 := by rw [(RM_V z2 54 rfl).1.1, hCV.1]
        obtain ⟨U, u1, u2, u3⟩ := z_fin (v := Z.I 54 7) (v' := Z.I 54 7) (L := 26) (p := 0) z2 hiF (fun W hW => z_done_26_0 (hW.trans e0))
        rw [e7] at u1
        refine LI_ok (X := X) (Y := Y) rfl y2 (Z := U) ?_ u2 (z3.tr u3) hiF (KK_flR hm1 hK)
        unfold f_Mo_flush f_Mo_flush_13 f_Mo_flush_35
        rw [show (Y.w 116 0 (Y.I 8 4)).I 46 18 = aS A 18 from RM_S hMY 18 (by decide) (by decide) (by decide), if_neg o, s_wrong0 (by rw [gX.w_ne (by decide), y3.1 46 (by omega)]; exact h0), gCi_i, if_pos rfl, z1, gCi_i, if_neg (by decide), e7, u1, gCi_i]
      · rw [b] at b'
        cases b'
    · have hiF := f2 b
      have lim := RC_lim y2 (by omega)
      rw [y1, gCvt_t, gCit_t, if_neg (by decide), if_pos rfl, if_pos lim, gB_b]
      have hMY : RM Y.ex A := RM_frC hM y3.ex
      rcases z_flush hMY hm1 (by omega) with ⟨b', -⟩ | ⟨b', Z, z1, z2, z3, z4⟩
      · rw [b] at b'
        cases b'
      · obtain ⟨U, u1, u2, u3⟩ := z_fin (v := 0) (v' := 0) (L := 26) (p := 2) z2 hiF (fun W hW => z_done_26_6 (hW.trans z4))
        refine LI_no (X := X) (p := 2) (by omega) rfl y2 (Z := U) (v := 0) ?_ u2 (z3.tr u3) hiF (KK_flR hm1 hK)
        unfold f_Mo_flush f_Mo_flush_13
        rw [show Y.ex.I 46 18 = aS A 18 from RM_S hMY 18 (by decide) (by decide) (by decide), if_neg o, s_wrong0 (X := Y.ex) (show Y.I 46 0 = 0 by rw [y3.1 46 (by omega)]; exact h0), gCi_i, if_pos rfl, z1, gCi_i, if_pos rfl, u1, gCi_i]
