/-! THE PURE SIDE: the reference loses power, acts, writes -/
theorem gCi_i {ρ : Type} {x : Int32} {Z : gX} {k : Int32 → gX → Option ρ} : gCi (some (gR.i x, Z)) k = k x Z := rfl
theorem gCv_v {ρ : Type} {Z : gX} {k : gX → Option ρ} : gCv (some (gR.v, Z)) k = k Z := rfl
theorem gCa_a {ρ : Type} {x : Option Nat} {Z : gX} {k : Option Nat → gX → Option ρ} : gCa (some (gR.a x, Z)) k = k x Z := rfl
theorem gCit_i {ρ : Type} {x : Int32} {Z : gX} {th : String → gX → Option ρ} {k : Int32 → gX → Option ρ} : gCit (some (gR.i x, Z)) th k = k x Z := rfl
theorem gCit_t {ρ : Type} {x : String} {Z : gX} {th : String → gX → Option ρ} {k : Int32 → gX → Option ρ} : gCit (some (gR.t x, Z)) th k = th x Z := rfl
theorem gCvt_v {ρ : Type} {Z : gX} {th : String → gX → Option ρ} {k : gX → Option ρ} : gCvt (some (gR.v, Z)) th k = k Z := rfl
theorem gCvt_t {ρ : Type} {x : String} {Z : gX} {th : String → gX → Option ρ} {k : gX → Option ρ} : gCvt (some (gR.t x, Z)) th k = th x Z := rfl
theorem gCat_a {ρ : Type} {x : Option Nat} {Z : gX} {th : String → gX → Option ρ} {k : Option Nat → gX → Option ρ} : gCat (some (gR.a x, Z)) th k = k x Z := rfl
theorem gCat_t {ρ : Type} {x : String} {Z : gX} {th : String → gX → Option ρ} {k : Option Nat → gX → Option ρ} : gCat (some (gR.t x, Z)) th k = th x Z := rfl
theorem gM_s {ρ : Type} {n : Nat} {k : Nat → Option ρ} : gM (some n) k = k n := rfl
theorem gO_n {ρ : Type} {A : Option ρ} {k : Nat → Option ρ} : gO none A k = A := rfl
theorem gO_s {ρ : Type} {n : Nat} {A : Option ρ} {k : Nat → Option ρ} : gO (some n) A k = k n := rfl
theorem gB_b {α β : Type} {a : α} {f : α → β} : gB a f = f a := rfl
theorem gLf_s {α ρ : Type} {r : ρ} : gLf (α := α) (some r) = some (Sum.inr r) := rfl
def v0 (V : zV) : zV := (V.1, V.2.1, V.2.2.1, V.2.2.2.1, 0)
def aLose (A : zA) : zA := (upd (upd (upd (upd (upd (aS A) 18 0) 30 0) 19 0) 13 (-1)) 14 1, aE A, (aT A).filter (fun f => f.2.1), fun n => if 84 ≤ n then v0 (aV A n) else aV A n, [], aH A)
def aActd (A : zA) : zA := sS A (upd (if aS A 13 ≤ 0 then aS A else upd (aS A) 13 (aS A 13 - 1)) 12 (aS A 12 + 1))
/-- a new file -/
def aNew (A : zA) (H : zH) : zA := (upd (aS A) 11 (aS A 11 + 1), aE A, aT A ++ [(gn (aS A 11), false, false)], aV A, aM A, H)
/-- H is as before for what is used -/
def GH (A : zA) (H : zH) : Prop := (∀ n, gVer n = true → ∀ x, x ∈ (aV A n).1 → H.1 x.1 = aD A x.1 ∧ ∀ k, x.2.1 = some k → H.2.1 k = aL A k) ∧ ∀ m, m ∈ aM A → H.1 m.2.1 = aD A m.2.1
theorem VR_w10 {X : gX} {n : Nat} {D : Nat → List Nat} {Ls : Nat → Nat → Bool} {V : zV} {u : Int32} (h : VR X.I n D Ls V) : VR (X.w n 10 u).I n D Ls (V.1, V.2.1, V.2.2.1, V.2.2.2.1, u) := by
  refine ⟨⟨?_, ?_, ?_, ?_⟩, ⟨?_, ?_, ?_⟩, fun s hs => ?_, ?_, ?_, ?_⟩
  · rw [w_oth (Or.inr (by decide))]; exact h.1.1
  · rw [w_oth (Or.inr (by decide))]; exact h.1.2.1
  · rw [w_oth (Or.inr (by decide))]; exact h.1.2.2.1
  · rw [w_same rfl]
  · rw [gX.w_ne (by omega)]; exact h.2.1.1
  · rw [gX.w_ne (by omega)]; exact h.2.1.2.1
  · rw [gX.w_ne (by omega)]; exact h.2.1.2.2
  · rw [gX.w_ne (by omega)]; exact h.2.2.1 s hs
  · rw [gX.w_ne (by omega)]; exact h.2.2.2.1
  · rw [gX.w_ne (by omega)]; exact h.2.2.2.2.1
  · rw [gX.w_ne (by omega)]; exact h.2.2.2.2.2
def rdz : Nat → gX → gX
  | 0, X => X
  | k + 1, X => (rdz k X).w (84 + 8 * k) 10 0
theorem rdz_ne {X : gX} {a : Nat} : ∀ k, k ≤ 4 → (a < 84 ∨ 108 < a) → (rdz k X).I a = X.I a
  | 0, _, _ => rfl
  | k + 1, h1, h2 => by
    show ((rdz k X).w (84 + 8 * k) 10 0).I a = _
    rw [gX.w_ne (by omega), rdz_ne k (by omega) h2]
theorem rdz_fr {X Y : gX} (h : frM X Y) : ∀ k, k ≤ 4 → frM X (rdz k Y)
  | 0, _ => h
  | k + 1, h1 => (rdz_fr h k (by omega)).w (by omega)
theorem rdz_G {X : gX} : ∀ k, (rdz k X).G = X.G
  | 0 => rfl
  | k + 1 => rdz_G k
theorem rdz_V {X : gX} {n : Nat} {D : Nat → List Nat} {Ls : Nat → Nat → Bool} {V : zV} (hn : gVer n = true) (h : VR X.I n D Ls V) : VR (rdz 4 X).I n D Ls (if 84 ≤ n then v0 V else V) := by
  have h4 : (rdz 4 X) = (((X.w 84 10 0).w 92 10 0).w 100 10 0).w 108 10 0 := rfl
  rw [h4]
  unfold gVer at hn
  simp only [decide_eq_true_eq, List.mem_cons, List.mem_nil_iff, or_false] at hn
  rcases hn with rfl | rfl | rfl | rfl | rfl | rfl | rfl
  · rw [if_neg (by omega)]
    exact VR_fr h (fun a h1 h2 => by rw [gX.w_ne (by omega), gX.w_ne (by omega), gX.w_ne (by omega), gX.w_ne (by omega)])
  · rw [if_neg (by omega)]
    exact VR_fr h (fun a h1 h2 => by rw [gX.w_ne (by omega), gX.w_ne (by omega), gX.w_ne (by omega), gX.w_ne (by omega)])
  · rw [if_neg (by omega)]
    exact VR_fr h (fun a h1 h2 => by rw [gX.w_ne (by omega), gX.w_ne (by omega), gX.w_ne (by omega), gX.w_ne (by omega)])
  · rw [if_pos (by omega)]
    exact VR_fr (VR_w10 (u := 0) h) (fun a h1 h2 => by rw [gX.w_ne (by omega), gX.w_ne (by omega), gX.w_ne (by omega)])
  · rw [if_pos (by omega)]
    exact VR_fr (VR_w10 (u := 0) (VR_fr h (J := (X.w 84 10 0).I) (fun a h1 h2 => by rw [gX.w_ne (by omega)]))) (fun a h1 h2 => by rw [gX.w_ne (by omega), gX.w_ne (by omega)])
  · rw [if_pos (by omega)]
    exact VR_fr (VR_w10 (u := 0) (VR_fr h (J := ((X.w 84 10 0).w 92 10 0).I) (fun a h1 h2 => by rw [gX.w_ne (by omega), gX.w_ne (by omega)]))) (fun a h1 h2 => by rw [gX.w_ne (by omega)])
  · rw [if_pos (by omega)]
    exact VR_w10 (u := 0) (VR_fr h (J := (((X.w 84 10 0).w 92 10 0).w 100 10 0).I) (fun a h1 h2 => by rw [gX.w_ne (by omega), gX.w_ne (by omega), gX.w_ne (by omega)]))
/-- RM where only the scalars, the files and what they say of needed have changed -/
theorem RM_sT {X Y : gX} {A : zA} {s : Nat → Int32} {t : List zF} (h : RM X A) (e : ∀ a, 54 ≤ a ∨ (47 ≤ a ∧ a ≤ 49) → Y.I a = X.I a) (eg : Y.G 121 = X.G 121) (hs : mS Y s) (ht : mT Y t) (h5 : s 5 = aS A 5) (h23 : s 23 = aS A 23) : RM Y (sT (sS A s) t) := by
  obtain ⟨h1, h2, h3, h4, h5', h6⟩ := h
  refine ⟨hs, mE_fr h2 (e 47 (by omega)) (e 48 (by omega)) (e 49 (by omega)), ht, mV_fr (A := sT (sS A s) t) h4 (fun a h1 h2 => e a (by omega)) (fun a h1 h2 => e a (by omega)), ?_, mM_fr (A := sT (sS A s) t) h6 (fun a h1 h2 => e a (by omega)) (fun a h1 h2 => e a (by omega)) eg⟩
  refine mB_fr (X := X) ?_ (e 78 (by omega)) (e 79 (by omega))
  unfold mB at h5' ⊢
  show ∀ k, k < gn (s 23) → X.I 78 k = nI (gn (s 5) - gn (s 23) + k) ∧ X.I 79 k = b2i ((aV A 54).2.1 (gn (s 5) - gn (s 23) + k))
  rw [h5, h23]
  exact h5'
def s53 (a : Nat) : Bool := decide (a = 53)
theorem z_lose {X : gX} {A : zA} (h : RM X A) (hb : TB (aT A)) : ∃ Y, f_Mo_lose X = some (gR.v, Y) ∧ RM Y (aLose A) ∧ frM X Y ∧ Y.I 46 0 = X.I 46 0 := by
  have hb1 := hb.1
  have hT := h.2.2.1
  unfold f_Mo_lose
  have key := gI_inv (body := fun u : gX × Int32 => f_Mo_lose_2 u.1 u.2) (fun k u => u.2 = nI k ∧ frI s53 X u.1 ∧ ∀ i f, i < k → (aT A)[i]? = some f → u.1.I 53 i = b2i f.2.1) (fun r => ∃ Y, r = (gR.v, Y) ∧ RM Y (aLose A) ∧ frM X Y ∧ Y.I 46 0 = X.I 46 0) (aT A).length (by omega) (s0 := (X, 0)) ⟨rfl, frI.rf, fun i f hi => absurd hi (by omega)⟩ (fun k u hk hI => by
    obtain ⟨Z, i⟩ := u
    obtain ⟨rfl, g1, g2⟩ := hI
    show ∃ u', f_Mo_lose_2 Z (nI k) = _ ∧ _
    obtain ⟨f, hf⟩ := vs_at hk
    have q51 := hl_m hT.2.2.1 hf
    unfold f_Mo_lose_2
    have g46 : Z.I 46 = X.I 46 := g1.1 46 (by decide)
    have g51 : Z.I 51 = X.I 51 := g1.1 51 (by decide)
    rw [g46, hT.1, if_neg (nI_ge (by omega) (by omega)), if_pos (gIn_nI (by omega) (by omega)), if_pos (gIn_nI (by omega) (by omega)), gn_nI (by omega), g51, q51, b2i_nar]
    refine ⟨_, rfl, nI_1 k, g1.w (by decide), fun i f' hi hf' => ?_⟩
    by_cases c : i = k
    · subst c
      have : f' = f := Option.some.inj (hf'.symm.trans hf)
      subst this
      exact w_same rfl
    · exact (w_oth (Or.inr c)).trans (g2 i f' (by omega) hf')) (fun u hI => by
    obtain ⟨Z, i⟩ := u
    obtain ⟨rfl, g1, g2⟩ := hI
    show ∃ r, f_Mo_lose_2 Z (nI (aT A).length) = _ ∧ _
    unfold f_Mo_lose_2
    have g46 : Z.I 46 = X.I 46 := g1.1 46 (by decide)
    rw [g46, hT.1, if_pos (nI_le (Nat.le_refl _) (by omega))]
    obtain ⟨K, k1, k2, k3, k4⟩ := z_keep (X := Z) (t := aT A) (p := fun f => f.2.1) (mT_fr hT (by rw [g46]) (g1.1 50 (by decide)) (g1.1 51 (by decide)) (g1.1 52 (by decide))) hb (fun i f hf => g2 i f (vs_lt hf) hf)
    rw [k1]
    have hl4 : gI (fun s : gX × Int32 => f_Mo_lose_47 s.1 4 s.2) gK (K.w 46 18 0, 0) = some (gR.v, ((((rdz 4 (K.w 46 18 0)).w 46 30 0).w 46 19 0).w 46 13 (-1)).w 46 14 1) := by
      refine gI_at (fun k => (rdz k (K.w 46 18 0), nI k)) 4 (gK_lt (by omega)) (fun k hk => ?_) ?_ rfl
      · show f_Mo_lose_47 (rdz k (K.w 46 18 0)) 4 (nI k) = _
        unfold f_Mo_lose_47
        show (if nI 4 ≤ nI k then _ else _) = _
        rw [if_neg (nI_ge (by omega) (by omega)), if_pos (gIn_nI (by omega) (by omega)), gn_nI (by omega), nI_1]
        rfl
      · rfl
    refine ⟨_, by show gLf (gI (fun s : gX × Int32 => f_Mo_lose_47 s.1 4 s.2) gK (K.w 46 18 0, 0)) = _; rw [hl4]; rfl, _, rfl, ?_, ?_, ?_⟩
    · have hK : ∀ a, a ≠ 46 → a ≠ 50 → a ≠ 51 → a ≠ 52 → a ≠ 53 → K.I a = X.I a := fun a h1 h2 h3 h4 h5 => (k3.1 a (by simp only [sKp, decide_eq_false_iff_not]; omega)).trans (g1.1 a (by simp only [s53, decide_eq_false_iff_not]; omega))
      have hW : ∀ a, a ≠ 46 → (((((rdz 4 (K.w 46 18 0)).w 46 30 0).w 46 19 0).w 46 13 (-1)).w 46 14 1).I a = (rdz 4 (K.w 46 18 0)).I a := fun a ha => by rw [gX.w_ne ha, gX.w_ne ha, gX.w_ne ha, gX.w_ne ha]
      have h46 : ∀ j, (((((rdz 4 (K.w 46 18 0)).w 46 30 0).w 46 19 0).w 46 13 (-1)).w 46 14 1).I 46 j = upd (upd (upd (upd (upd (K.I 46) 18 0) 30 0) 19 0) 13 (-1)) 14 1 j := fun j => by
        rw [gX.w_self, gX.w_self, gX.w_self, gX.w_self, rdz_ne 4 (by omega) (by omega), gX.w_self]
      have hx : ∀ a, (47 ≤ a ∧ a ≤ 49) ∨ (78 ≤ a ∧ a ≤ 82) ∨ (122 ≤ a ∧ a ≤ 125) → (((((rdz 4 (K.w 46 18 0)).w 46 30 0).w 46 19 0).w 46 13 (-1)).w 46 14 1).I a = X.I a := fun a ha => by
        rw [hW a (by omega), rdz_ne 4 (by omega) (by omega), gX.w_ne (by omega)]
        exact hK a (by omega) (by omega) (by omega) (by omega) (by omega)
      have hG : (((((rdz 4 (K.w 46 18 0)).w 46 30 0).w 46 19 0).w 46 13 (-1)).w 46 14 1).G = X.G := by
        show (rdz 4 (K.w 46 18 0)).G = _
        rw [rdz_G]
        exact k3.2.1.trans g1.2.1
      refine ⟨fun j h1 h2 h3 => ?_, mE_fr h.2.1 (hx 47 (by omega)) (hx 48 (by omega)) (hx 49 (by omega)), ⟨?_, ?_, ?_, ?_⟩, fun n hn => ?_, ?_, ?_⟩
      · rw [h46]
        show upd (upd (upd (upd (upd (K.I 46) 18 0) 30 0) 19 0) 13 (-1)) 14 1 j = upd (upd (upd (upd (upd (aS A) 18 0) 30 0) 19 0) 13 (-1)) 14 1 j
        have e9 : K.I 46 j = aS A j := (k4 j h2).trans ((congrFun g46 j).trans (h.1 j h1 h2 h3))
        simp only [upd_at, e9]
      · rw [h46]
        simp only [upd_at, if_neg (show ¬ (10 : Nat) = 14 by decide), if_neg (show ¬ (10 : Nat) = 13 by decide), if_neg (show ¬ (10 : Nat) = 19 by decide), if_neg (show ¬ (10 : Nat) = 30 by decide), if_neg (show ¬ (10 : Nat) = 18 by decide)]
        exact k2.1
      · rw [hW 50 (by decide), rdz_ne 4 (by omega) (by omega), gX.w_ne (by decide)]; exact k2.2.1
      · rw [hW 51 (by decide), rdz_ne 4 (by omega) (by omega), gX.w_ne (by decide)]; exact k2.2.2.1
      · rw [hW 52 (by decide), rdz_ne 4 (by omega) (by omega), gX.w_ne (by decide)]; exact k2.2.2.2
      · have hr := gVer_range hn
        refine VR_fr (I := (rdz 4 (K.w 46 18 0)).I) (rdz_V hn (VR_fr (h.2.2.2.1 n hn) (fun a h1 h2 => ?_))) (fun a h1 h2 => hW a (by omega))
        rw [gX.w_ne (by omega)]
        exact hK a (by omega) (by omega) (by omega) (by omega) (by omega)
      · have hB := h.2.2.2.2.1
        unfold mB at hB ⊢
        rw [hx 78 (by omega), hx 79 (by omega)]
        exact hB
      · have hMm := h.2.2.2.2.2
        unfold mM at hMm ⊢
        rw [hG]
        exact ⟨hMm.1, fun i m hm => absurd hm (by show ¬ ([] : List zM)[i]? = some m; simp)⟩
    · refine ((((rdz_fr (frM.w (a := 46) (frM.tr (frM.of g1 (fun a ha => ?_)) (frM.of k3 (fun a ha => ?_))) (by omega)) 4 (by omega)).w (by omega)).w (by omega)).w (by omega)).w (by omega)
      · simp only [s53, decide_eq_true_eq] at ha; omega
      · simp only [sKp, decide_eq_true_eq] at ha; omega
    · rw [w_oth (Or.inr (by decide)), w_oth (Or.inr (by decide)), w_oth (Or.inr (by decide)), w_oth (Or.inr (by decide)), rdz_ne 4 (by omega) (by omega), w_oth (Or.inr (by decide)), k4 0 (by decide), g46])
  obtain ⟨r, k1, Y, rfl, k3⟩ := key
  rw [k1]
  exact ⟨Y, rfl, k3⟩
theorem z_act0 {X : gX} {A : zA} (h : RM X A) (hb : TB (aT A)) (h0 : aS A 13 = 0) : ∃ Y, f_Mo_act X = some (gR.i 0, Y) ∧ RM Y (aLose A) ∧ frM X Y ∧ Y.I 46 0 = 6 := by
  obtain ⟨Y, h1, h2, h3, h4⟩ := z_lose h hb
  unfold f_Mo_act
  rw [h.1 13 (by decide) (by decide) (by decide), if_pos h0, h1]
  refine ⟨Y.w 46 0 6, rfl, ?_, h3.w (by omega), w_same rfl⟩
  exact RM_sT (A := aLose A) h2 (fun a ha => gX.w_ne (by omega)) rfl (fun j j1 j2 j3 => (w_oth (Or.inr (by omega))).trans (h2.1 j j1 j2 j3)) (mT_fr h2.2.2.1 (w_oth (Or.inr (by decide))) (gX.w_ne (by decide)) (gX.w_ne (by decide)) (gX.w_ne (by decide))) rfl rfl
theorem z_act1 {X : gX} {A : zA} (h : RM X A) (h0 : ¬ aS A 13 = 0) : ∃ Y, f_Mo_act X = some (gR.i 1, Y) ∧ RM Y (aActd A) ∧ frM X Y ∧ Y.I 46 0 = X.I 46 0 := by
  have e13 := h.1 13 (by decide) (by decide) (by decide)
  have e12 := h.1 12 (by decide) (by decide) (by decide)
  unfold f_Mo_act aActd
  rw [e13, if_neg h0]
  by_cases c : aS A 13 ≤ 0
  · rw [if_pos c, if_pos c]
    refine ⟨X.w 46 12 (X.I 46 12 + 1), rfl, ?_, frM.rf.w (by omega), w_oth (Or.inr (by decide))⟩
    refine RM_sT (s := upd (aS A) 12 (aS A 12 + 1)) (t := aT A) h (fun a ha => gX.w_ne (by omega)) rfl (fun j j1 j2 j3 => ?_) (mT_fr h.2.2.1 (w_oth (Or.inr (by decide))) (gX.w_ne (by decide)) (gX.w_ne (by decide)) (gX.w_ne (by decide))) rfl rfl
    rw [e12, gX.w_self]
    simp only [upd_at, h.1 j j1 j2 j3]
  · rw [if_neg c, if_neg c]
    refine ⟨(X.w 46 13 (aS A 13 - 1)).w 46 12 ((X.w 46 13 (aS A 13 - 1)).I 46 12 + 1), rfl, ?_, (frM.rf.w (by omega)).w (by omega), (w_oth (Or.inr (by decide))).trans (w_oth (Or.inr (by decide)))⟩
    have e12' : (X.w 46 13 (aS A 13 - 1)).I 46 12 = aS A 12 := (w_oth (Or.inr (by decide))).trans e12
    rw [e12']
    refine RM_sT (s := upd (upd (aS A) 13 (aS A 13 - 1)) 12 (aS A 12 + 1)) (t := aT A) h (fun a ha => (gX.w_ne (by omega)).trans (gX.w_ne (by omega))) rfl (fun j j1 j2 j3 => ?_) (mT_fr h.2.2.1 ((w_oth (Or.inr (by decide))).trans (w_oth (Or.inr (by decide)))) ((gX.w_ne (by decide)).trans (gX.w_ne (by decide))) ((gX.w_ne (by decide)).trans (gX.w_ne (by decide))) ((gX.w_ne (by decide)).trans (gX.w_ne (by decide)))) rfl rfl
    rw [gX.w_self, gX.w_self]
    simp only [upd_at, h.1 j j1 j2 j3]
theorem z_write0 {X : gX} {A : zA} (h : RM X A) (hb : TB (aT A)) (h0 : aS A 13 = 0) : ∃ Y, f_Mo_write X = some (gR.i (-1), Y) ∧ RM Y (aLose A) ∧ frM X Y ∧ Y.I 46 0 = 6 := by
  obtain ⟨Y, h1, h2⟩ := z_act0 h hb h0
  unfold f_Mo_write
  rw [h1]
  exact ⟨Y, rfl, h2⟩
theorem z_write1 {X : gX} {A : zA} {w : Nat} {H : zH} (h : RM X A) (h0 : ¬ aS A 13 = 0) (hl6 : (aT A).length < 60000) (hw : aS A 11 = nI w) (hw2 : w < 1000000000) (hH : GH A H) : ∃ Y, f_Mo_write X = some (gR.i (nI w), Y) ∧ RM Y (aNew (aActd A) H) ∧ frM X Y ∧ Y.I 46 0 = X.I 46 0 := by
  obtain ⟨Z, h1, h2, h3, h4⟩ := z_act1 h h0
  have a11 : aS (aActd A) 11 = nI w := by
    rw [← hw]
    show upd (if aS A 13 ≤ 0 then aS A else upd (aS A) 13 (aS A 13 - 1)) 12 (aS A 12 + 1) 11 = _
    rw [upd_at, if_neg (by decide)]
    by_cases c : aS A 13 ≤ 0
    · rw [if_pos c]
    · rw [if_neg c, upd_at, if_neg (by decide)]
  have e10 := h2.2.2.1.1
  have e11 := (h2.1 11 (by decide) (by decide) (by decide)).trans a11
  have eT : aT (aActd A) = aT A := rfl
  rw [eT] at e10
  have j1 : gIn (nI (aT A).length) 60000 = true := gIn_nI hl6 (by omega)
  unfold f_Mo_write
  rw [h1, gCi_i, if_neg (by decide)]
  simp only [gB]
  simp only [w_oth (Or.inl (show (46 : Nat) ≠ 50 by decide)), w_oth (Or.inl (show (46 : Nat) ≠ 51 by decide)), w_oth (Or.inl (show (46 : Nat) ≠ 52 by decide)), e10, e11, j1, if_true, gn_nI (show (aT A).length < 2 ^ 31 by omega), w_oth (Or.inr (show (11 : Nat) ≠ 10 by decide)), nI_1]
  rw [w_same rfl, nI_pred]
  refine ⟨_, rfl, ?_, ((((h3.w (a := 50) (by omega)).w (a := 51) (by omega)).w (a := 52) (by omega)).w (a := 46) (by omega)).w (a := 46) (by omega), ?_⟩
  · refine ⟨fun j q1 q2 q3 => ?_, ?_, ⟨?_, ?_, ?_, ?_⟩, ?_, ?_, ?_⟩
    · show _ = upd (aS (aActd A)) 11 (aS (aActd A) 11 + 1) j
      rw [a11, nI_1, upd_at, gX.w_self, upd_at, w_oth (Or.inr q2), w_oth (Or.inl (by decide)), w_oth (Or.inl (by decide)), w_oth (Or.inl (by decide)), h2.1 j q1 q2 q3]
    · exact mE_fr (A := aNew (aActd A) H) h2.2.1 (by rw [gX.w_ne (by decide), gX.w_ne (by decide), gX.w_ne (by decide), gX.w_ne (by decide), gX.w_ne (by decide)]) (by rw [gX.w_ne (by decide), gX.w_ne (by decide), gX.w_ne (by decide), gX.w_ne (by decide), gX.w_ne (by decide)]) (by rw [gX.w_ne (by decide), gX.w_ne (by decide), gX.w_ne (by decide), gX.w_ne (by decide), gX.w_ne (by decide)])
    · show _ = nI (aT A ++ [(gn (aS (aActd A) 11), false, false)]).length
      rw [w_oth (Or.inr (by decide)), w_same rfl, List.length_append]
      rfl
    · show hl _ ((aT A ++ [(gn (aS (aActd A) 11), false, false)]).map _)
      rw [List.map_append]
      refine hl_snoc h2.2.2.1.2.1 (fun i hi => ?_) ?_
      · rw [List.length_map] at hi
        have hi' : i < (aT A).length := hi
        rw [w_oth (Or.inl (by decide)), w_oth (Or.inl (by decide)), w_oth (Or.inl (by decide)), w_oth (Or.inl (by decide)), w_oth (Or.inr (by omega))]
      · rw [List.length_map, w_oth (Or.inl (by decide)), w_oth (Or.inl (by decide)), w_oth (Or.inl (by decide)), w_oth (Or.inl (by decide)), w_same rfl, a11, gn_nI (by omega)]
    · show hl _ ((aT A ++ [(gn (aS (aActd A) 11), false, false)]).map _)
      rw [List.map_append]
      refine hl_snoc h2.2.2.1.2.2.1 (fun i hi => ?_) ?_
      · rw [List.length_map] at hi
        have hi' : i < (aT A).length := hi
        rw [w_oth (Or.inl (by decide)), w_oth (Or.inl (by decide)), w_oth (Or.inl (by decide)), w_oth (Or.inr (by omega)), w_oth (Or.inl (by decide))]
      · rw [List.length_map, w_oth (Or.inl (by decide)), w_oth (Or.inl (by decide)), w_oth (Or.inl (by decide)), w_same rfl]
        rfl
    · show hl _ ((aT A ++ [(gn (aS (aActd A) 11), false, false)]).map _)
      rw [List.map_append]
      refine hl_snoc h2.2.2.1.2.2.2 (fun i hi => ?_) ?_
      · rw [List.length_map] at hi
        have hi' : i < (aT A).length := hi
        rw [w_oth (Or.inl (by decide)), w_oth (Or.inl (by decide)), w_oth (Or.inr (by omega)), w_oth (Or.inl (by decide)), w_oth (Or.inl (by decide))]
      · rw [List.length_map, w_oth (Or.inl (by decide)), w_oth (Or.inl (by decide)), w_same rfl]
        rfl
    · intro n hn
      have hr := gVer_range hn
      refine VR_gh (VR_fr (h2.2.2.2.1 n hn) (fun a q1 q2 => ?_)) (hH.1 n hn)
      rw [gX.w_ne (by omega), gX.w_ne (by omega), gX.w_ne (by omega), gX.w_ne (by omega), gX.w_ne (by omega)]
    · refine mB_fr (X := Z) ?_ (by rw [gX.w_ne (by decide), gX.w_ne (by decide), gX.w_ne (by decide), gX.w_ne (by decide), gX.w_ne (by decide)]) (by rw [gX.w_ne (by decide), gX.w_ne (by decide), gX.w_ne (by decide), gX.w_ne (by decide), gX.w_ne (by decide)])
      exact h2.2.2.2.2.1
    · refine mM_fr (X := Z) ?_ (fun a q1 q2 => by rw [gX.w_ne (by omega), gX.w_ne (by omega), gX.w_ne (by omega), gX.w_ne (by omega), gX.w_ne (by omega)]) (fun a q1 q2 => by rw [gX.w_ne (by omega), gX.w_ne (by omega), gX.w_ne (by omega), gX.w_ne (by omega), gX.w_ne (by omega)]) rfl
      have h9 := h2.2.2.2.2.2
      refine ⟨h9.1, fun i m hm => ?_⟩
      have h8 := h9.2 i m hm
      have h7 := hH.2 m (vs_mem hm)
      show _ ∧ _ ∧ Z.I 80 i = nI (H.1 m.2.1).length ∧ ∃ r, Z.G 121 i = some r ∧ gRow r = true ∧ hl (Z.I r) ((H.1 m.2.1).map nI)
      rw [h7]
      exact h8
  · rw [w_oth (Or.inr (by decide)), w_oth (Or.inr (by decide)), w_oth (Or.inl (by decide)), w_oth (Or.inl (by decide)), w_oth (Or.inl (by decide)), h4]
