/-! THE PURE SIDE: need, tidyFiles, finished, corrupt, sync of the reference -/
def inV (b : Bool) (l : List zS) (k : Nat) : Bool := l.any (fun x => decide (k = x.1) || (b && decide (x.2.1 = some k)))
def N53 (X : gX) (t : List zF) (p : Nat → Bool) : Prop := ∀ i f, t[i]? = some f → X.I 53 i = b2i (p f.1)
def hav (t : List zF) (k : Nat) : Prop := ∃ f, f ∈ t ∧ f.1 = k
theorem N53_c {X : gX} {t : List zF} {p q : Nat → Bool} (h : N53 X t p) (e : ∀ k, q k = p k) : N53 X t q := fun i f hf => by rw [e]; exact h i f hf
theorem TB_in {t : List zF} (h : TB t) {i j : Nat} {f g : zF} (hi : t[i]? = some f) (hj : t[j]? = some g) (e : f.1 = g.1) : i = j := by
  obtain ⟨h1, h2⟩ := List.getElem?_eq_some_iff.mp hi
  obtain ⟨h3, h4⟩ := List.getElem?_eq_some_iff.mp hj
  have hp := List.pairwise_iff_getElem.mp h.2.1
  rcases Nat.lt_trichotomy i j with c | c | c
  · have := hp i j h1 h3 c
    rw [h2, h4] at this
    omega
  · exact c
  · have := hp j i h3 h1 c
    rw [h2, h4] at this
    omega
theorem hav_at {t : List zF} {k : Nat} (h : hav t k) : ∃ (i : Nat) (f : zF), t[i]? = some f ∧ f.1 = k := by
  obtain ⟨f, h1, h2⟩ := h
  obtain ⟨i, h3⟩ := List.getElem?_of_mem h1
  exact ⟨i, f, h3, h2⟩
theorem z_mark {X : gX} {t : List zF} {p : Nat → Bool} {k : Nat} (h : mT X t) (hb : TB t) (hk : hav t k) (hp : N53 X t p) : ∃ i, f_Mo_place X (nI k) = some (gR.i (nI i), X) ∧ i < 60000 ∧ N53 (X.w 53 i 1) t (fun j => p j || decide (j = k)) := by
  obtain ⟨i, f, h1, rfl⟩ := hav_at hk
  have hi := vs_lt h1
  have hb1 := hb.1
  refine ⟨i, z_place h hb h1, by omega, fun j g hg => ?_⟩
  by_cases c : j = i
  · subst c
    have : g = f := Option.some.inj (hg.symm.trans h1)
    subst this
    rw [w_same rfl]
    simp [b2i]
  · rw [w_oth (Or.inr c), hp j g hg]
    have : ¬ g.1 = f.1 := fun e => c (TB_in hb hg h1 e)
    simp [this]
theorem mT_53 {X Y : gX} {t : List zF} (h : mT X t) (e : frI s53 X Y) : mT Y t := mT_fr h (by rw [e.1 46 (by decide)]) (e.1 50 (by decide)) (e.1 51 (by decide)) (e.1 52 (by decide))
def hvV (b : Bool) (t : List zF) (V : zV) : Prop := ∀ x, x ∈ V.1 → hav t x.1 ∧ (b = true → ∀ k, x.2.1 = some k → hav t k)
theorem inV_t {b : Bool} {l : List zS} {s k : Nat} {x : zS} (e : l[s]? = some x) : inV b (l.take (s + 1)) k = (inV b (l.take s) k || (decide (k = x.1) || (b && decide (x.2.1 = some k)))) := by
  unfold inV
  rw [List.take_add_one, e, List.any_append]
  simp
theorem hav_lt {t : List zF} {k : Nat} (hb : TB t) (h : hav t k) : k < 1000000000 := by
  obtain ⟨f, h1, rfl⟩ := h
  exact hb.2.2 f h1
theorem z_need {X : gX} {t : List zF} {p : Nat → Bool} {n : Nat} {b : Bool} {D : Nat → List Nat} {Ls : Nat → Nat → Bool} {V : zV} (h : mT X t) (hb : TB t) (hv : VR X.I n D Ls V) (hV : V.1.length ≤ 4096) (hn : 54 ≤ n) (hh : hvV b t V) (hp : N53 X t p) :
    ∃ Y, f_Mo_need X n (b2i b) = some (gR.v, Y) ∧ frI s53 X Y ∧ N53 Y t (fun k => p k || inV b V.1 k) := by
  unfold f_Mo_need
  have key := gI_inv (body := fun u : gX × Int32 => f_Mo_need_2 u.1 n (b2i b) u.2) (fun k u => u.2 = nI k ∧ frI s53 X u.1 ∧ N53 u.1 t (fun j => p j || inV b (V.1.take k) j)) (fun r => ∃ Y, r = (gR.v, Y) ∧ frI s53 X Y ∧ N53 Y t (fun k => p k || inV b V.1 k)) V.1.length (by omega) (s0 := (X, 0)) ⟨rfl, frI.rf, N53_c hp (fun k => by simp [inV])⟩ (fun k u hk hI => by
    obtain ⟨Z, i⟩ := u
    obtain ⟨rfl, g1, g2⟩ := hI
    show ∃ u', f_Mo_need_2 Z n (b2i b) (nI k) = _ ∧ _
    obtain ⟨x, hx⟩ := vs_at hk
    obtain ⟨q1, q2⟩ := hh x (vs_mem hx)
    have r1 := hl_m hv.2.1.1 hx
    have r2 := hl_m hv.2.1.2.1 hx
    have s53f : ∀ a, 54 ≤ a → s53 a = false := fun a ha => by simp only [s53, decide_eq_false_iff_not]; omega
    unfold f_Mo_need_2
    rw [g1.1 n (s53f n hn), hv.1.1, if_neg (nI_ge (by omega) (by omega)), gn_nI (by omega), g1.1 (n + 1) (s53f _ (by omega)), r1]
    have j1 : gIn (nI k) 4097 = true := gIn_nI (by omega) (by omega)
    obtain ⟨i1, m1, m2, m3⟩ := z_mark (mT_53 h g1) hb q1 g2
    have j2 : gIn (nI i1) 60000 = true := gIn_nI m2 (by omega)
    simp only [j1, if_true]
    rw [m1, gCi_i, if_pos j2, gn_nI (by omega), gB_b, show vp_nar .boolean 1 = 1 from rfl]
    have g3 : frI s53 X (Z.w 53 i1 1) := g1.w (by decide)
    cases b with
    | false =>
      rw [if_pos b2i_f]
      refine ⟨_, rfl, nI_1 k, g3, N53_c m3 (fun j => ?_)⟩
      rw [inV_t hx]
      simp [Bool.or_assoc]
    | true =>
      rw [if_neg (by decide), g3.1 (n + 2) (s53f _ (by omega)), r2]
      cases hl2 : x.2.1 with
      | none =>
        rw [if_pos (by decide)]
        refine ⟨_, rfl, nI_1 k, g3, N53_c m3 (fun j => ?_)⟩
        rw [inV_t hx, hl2]
        simp [Bool.or_assoc]
      | some l =>
        have q3 := q2 rfl l hl2
        have q4 := hav_lt hb q3
        obtain ⟨i2, m4, m5, m6⟩ := z_mark (mT_53 h g3) hb q3 m3
        show ∃ u', (if nI l < 0 then _ else _) = _ ∧ _
        rw [if_neg (nI_pos (by omega))]
        show ∃ u', (gCi (f_Mo_place (Z.w 53 i1 1) (nI l)) _) = _ ∧ _
        rw [m4, gCi_i, if_pos (gIn_nI m5 (by omega)), gn_nI (by omega), gB_b]
        refine ⟨_, rfl, nI_1 k, g3.w (by decide), N53_c m6 (fun j => ?_)⟩
        rw [inV_t hx, hl2]
        simp only [Option.some.injEq, Bool.true_and]
        rw [show decide (l = j) = decide (j = l) by simp [eq_comm]]
        simp [Bool.or_assoc]) (fun u hI => by
    obtain ⟨Z, i⟩ := u
    obtain ⟨rfl, g1, g2⟩ := hI
    show ∃ r, f_Mo_need_2 Z n (b2i b) (nI V.1.length) = _ ∧ _
    unfold f_Mo_need_2
    rw [g1.1 n (by simp only [s53, decide_eq_false_iff_not]; omega), hv.1.1, if_pos (nI_le (Nat.le_refl _) (by omega))]
    rw [List.take_length] at g2
    exact ⟨_, rfl, Z, rfl, g1, g2⟩)
  obtain ⟨r, k1, Y, rfl, k3⟩ := key
  rw [k1]
  exact ⟨Y, rfl, k3⟩
/-- a file is needed -/
def nd1 (A : zA) (k : Nat) : Bool := !decide (aS A 20 ≤ 0) && (inV true (aV A 62).1 k || decide (k = (aV A 62).2.2.1))
def nd2 (A : zA) (k : Nat) : Bool := !decide (aS A 19 = 0) && (inV true (aV A 70).1 k || decide (k = (aV A 70).2.2.1))
def nd3 (A : zA) (k : Nat) : Bool := !decide (aS A 18 = 0) && inV true (aV A 54).1 k
def nd4 (l : List zM) (k : Nat) : Bool := l.any (fun m => decide (k = m.2.1))
def nd5 (A : zA) (n k : Nat) : Bool := (List.range n).any (fun i => !decide ((aV A (84 + 8 * i)).2.2.2.2 ≤ 0) && inV false (aV A (84 + 8 * i)).1 k)
def ndd (A : zA) (k : Nat) : Bool := nd1 A k || nd2 A k || nd3 A k || nd4 (aM A) k || nd5 A 4 k
/-- what is needed is there -/
def HV (A : zA) (t : List zF) : Prop := (¬ aS A 20 ≤ 0 → hvV true t (aV A 62) ∧ hav t (aV A 62).2.2.1) ∧ (¬ aS A 19 = 0 → hvV true t (aV A 70) ∧ hav t (aV A 70).2.2.1) ∧ (¬ aS A 18 = 0 → hvV true t (aV A 54)) ∧ (∀ m, m ∈ aM A → hav t m.2.1) ∧ ∀ i, i < 4 → ¬ (aV A (84 + 8 * i)).2.2.2.2 ≤ 0 → hvV false t (aV A (84 + 8 * i))
def VL (A : zA) : Prop := ∀ n, gVer n = true → (n = 54 → ¬ aS A 18 = 0) → (aV A n).1.length ≤ 4096
theorem gVer_r {i : Nat} (h : i < 4) : gVer (84 + 8 * i) = true := by
  have : i = 0 ∨ i = 1 ∨ i = 2 ∨ i = 3 := by omega
  rcases this with rfl | rfl | rfl | rfl <;> rfl
theorem nd5_s {A : zA} {n k : Nat} : nd5 A (n + 1) k = (nd5 A n k || (!decide ((aV A (84 + 8 * n)).2.2.2.2 ≤ 0) && inV false (aV A (84 + 8 * n)).1 k)) := by
  unfold nd5
  rw [List.range_succ, List.any_append]
  simp
theorem nd4_s {l : List zM} {n k : Nat} {m : zM} (e : l[n]? = some m) : nd4 (l.take (n + 1)) k = (nd4 (l.take n) k || decide (k = m.2.1)) := by
  unfold nd4
  rw [List.take_add_one, e, List.any_append]
  simp
theorem mV_53 {X Y : gX} {A : zA} (h : mV X A) (e : frI s53 X Y) : mV Y A := mV_fr h (fun a h1 h2 => e.1 a (by simp only [s53, decide_eq_false_iff_not]; omega)) (fun a h1 h2 => e.1 a (by simp only [s53, decide_eq_false_iff_not]; omega))
theorem RM_53 {X Y : gX} {A : zA} (h : RM X A) (e : frI s53 X Y) : RM Y A := RM_sT (s := aS A) (t := aT A) h (fun a ha => e.1 a (by simp only [s53, decide_eq_false_iff_not]; omega)) (by rw [e.2.1]) (mS_fr h.1 (e.1 46 (by decide))) (mT_53 h.2.2.1 e) rfl rfl
theorem frM.o53 {X Y : gX} (e : frI s53 X Y) : frM X Y := frM.of e (fun a ha => by simp only [s53, decide_eq_true_eq] at ha; omega)
/-- where the files that are needed have been marked -/
theorem z_tidyK {X : gX} {A : zA} {q : Nat → Bool} (h : RM X A) (hb : TB (aT A)) (hq : N53 X (aT A) q) : ∃ Y, f_Mo_keepNeeded X = some (gR.v, Y) ∧ RM Y (sT A ((aT A).filter (fun f => q f.1))) ∧ frM X Y ∧ Y.I 46 0 = X.I 46 0 := by
  obtain ⟨Y, k1, k2, k3, k4⟩ := z_keep (p := fun f => q f.1) h.2.2.1 hb hq
  refine ⟨Y, k1, RM_sT (s := aS A) h (fun a ha => k3.1 a (by simp only [sKp, decide_eq_false_iff_not]; omega)) (by rw [k3.2.1]) (fun j j1 j2 j3 => (k4 j j2).trans (h.1 j j1 j2 j3)) k2 rfl rfl, frM.of k3 (fun a ha => by simp only [sKp, decide_eq_true_eq] at ha; omega), k4 0 (by decide)⟩
theorem z_tidy155 {X : gX} {A : zA} {q : Nat → Bool} (h : RM X A) (hb : TB (aT A)) (hV : VL A) (hH : HV A (aT A)) (hq : N53 X (aT A) q) : ∃ Y, gI (fun s : gX × Int32 => f_Mo_tidyFiles_155 s.1 4 s.2) gK (X, 0) = some (gR.v, Y) ∧ RM Y (sT A ((aT A).filter (fun f => q f.1 || nd5 A 4 f.1))) ∧ frM X Y ∧ Y.I 46 0 = X.I 46 0 := by
  have key := gI_inv (body := fun u : gX × Int32 => f_Mo_tidyFiles_155 u.1 4 u.2) (fun k u => u.2 = nI k ∧ frI s53 X u.1 ∧ N53 u.1 (aT A) (fun j => q j || nd5 A k j)) (fun r => ∃ Y, r = (gR.v, Y) ∧ RM Y (sT A ((aT A).filter (fun f => q f.1 || nd5 A 4 f.1))) ∧ frM X Y ∧ Y.I 46 0 = X.I 46 0) 4 (by omega) (s0 := (X, 0)) ⟨rfl, frI.rf, N53_c hq (fun k => by simp [nd5])⟩ (fun k u hk hI => by
    obtain ⟨Z, i⟩ := u
    obtain ⟨rfl, g1, g2⟩ := hI
    show ∃ u', f_Mo_tidyFiles_155 Z (nI 4) (nI k) = _ ∧ _
    have hr := (mV_53 h.2.2.2.1 g1) (84 + 8 * k) (gVer_r hk)
    unfold f_Mo_tidyFiles_155
    rw [if_neg (nI_ge (by omega) (by omega)), if_pos (gIn_nI (by omega) (by omega)), gn_nI (by omega), hr.1.2.2.2]
    by_cases c : (aV A (84 + 8 * k)).2.2.2.2 ≤ 0
    · rw [if_pos c]
      refine ⟨_, rfl, nI_1 k, g1, N53_c g2 (fun j => ?_)⟩
      rw [nd5_s]
      simp [c]
    · rw [if_neg c]
      obtain ⟨Y, y1, y2, y3⟩ := z_need (b := false) (mT_53 h.2.2.1 g1) hb hr (hV _ (gVer_r hk) (fun e => absurd e (by omega))) (by omega) (hH.2.2.2.2 k hk c) g2
      rw [show (b2i false) = 0 from rfl] at y1
      rw [y1, gCv_v]
      refine ⟨_, rfl, nI_1 k, g1.tr y2, N53_c y3 (fun j => ?_)⟩
      rw [nd5_s]
      simp [c, Bool.or_assoc]) (fun u hI => by
    obtain ⟨Z, i⟩ := u
    obtain ⟨rfl, g1, g2⟩ := hI
    show ∃ r, f_Mo_tidyFiles_155 Z (nI 4) (nI 4) = _ ∧ _
    unfold f_Mo_tidyFiles_155
    rw [if_pos (nI_le (Nat.le_refl _) (by omega))]
    obtain ⟨Y, y1, y2, y3, y4⟩ := z_tidyK (RM_53 h g1) hb g2
    rw [y1, gCv_v]
    exact ⟨_, rfl, Y, rfl, y2, (frM.o53 g1).tr y3, y4.trans (by rw [g1.1 46 (by decide)])⟩)
  obtain ⟨r, k1, Y, rfl, k3⟩ := key
  rw [k1]
  exact ⟨Y, rfl, k3⟩
theorem z_tidy113 {X : gX} {A : zA} {q : Nat → Bool} (h : RM X A) (hb : TB (aT A)) (hV : VL A) (hH : HV A (aT A)) (hm : aS A 30 = nI (aM A).length) (hm4 : (aM A).length ≤ 4) (hq : N53 X (aT A) q) : ∃ Y, f_Mo_tidyFiles_113 X = some (gR.v, Y) ∧ RM Y (sT A ((aT A).filter (fun f => q f.1 || nd4 (aM A) f.1 || nd5 A 4 f.1))) ∧ frM X Y ∧ Y.I 46 0 = X.I 46 0 := by
  unfold f_Mo_tidyFiles_113
  have key := gI_inv (body := fun u : gX × Int32 => f_Mo_tidyFiles_115 u.1 u.2) (fun k u => u.2 = nI k ∧ frI s53 X u.1 ∧ N53 u.1 (aT A) (fun j => q j || nd4 ((aM A).take k) j)) (fun r => ∃ Y, r = (gR.v, Y) ∧ RM Y (sT A ((aT A).filter (fun f => q f.1 || nd4 (aM A) f.1 || nd5 A 4 f.1))) ∧ frM X Y ∧ Y.I 46 0 = X.I 46 0) (aM A).length (by omega) (s0 := (X, 0)) ⟨rfl, frI.rf, N53_c hq (fun k => by simp [nd4])⟩ (fun k u hk hI => by
    obtain ⟨Z, i⟩ := u
    obtain ⟨rfl, g1, g2⟩ := hI
    show ∃ u', f_Mo_tidyFiles_115 Z (nI k) = _ ∧ _
    have hR := RM_53 h g1
    obtain ⟨m, em⟩ := vs_at hk
    have hr := (hR.2.2.2.2.2.2 k m em).2.1
    obtain ⟨i1, m1, m2, m3⟩ := z_mark (mT_53 h.2.2.1 g1) hb (hH.2.2.2.1 m (vs_mem em)) g2
    unfold f_Mo_tidyFiles_115
    rw [hR.1 30 (by decide) (by decide) (by decide), hm, if_neg (nI_ge (by omega) (by omega)), if_pos (gIn_nI (by omega) (by omega)), gn_nI (by omega), hr, m1, gCi_i, if_pos (gIn_nI m2 (by omega)), gn_nI (by omega), gB_b, show vp_nar .boolean 1 = 1 from rfl]
    refine ⟨_, rfl, nI_1 k, g1.w (by decide), N53_c m3 (fun j => ?_)⟩
    rw [nd4_s em]
    simp [Bool.or_assoc]) (fun u hI => by
    obtain ⟨Z, i⟩ := u
    obtain ⟨rfl, g1, g2⟩ := hI
    show ∃ r, f_Mo_tidyFiles_115 Z (nI (aM A).length) = _ ∧ _
    have hR := RM_53 h g1
    rw [List.take_length] at g2
    unfold f_Mo_tidyFiles_115
    rw [hR.1 30 (by decide) (by decide) (by decide), hm, if_pos (nI_le (Nat.le_refl _) (by omega))]
    obtain ⟨Y, y1, y2, y3, y4⟩ := z_tidy155 hR hb hV hH g2
    rw [y1, gLf_s]
    exact ⟨_, rfl, Y, rfl, y2, (frM.o53 g1).tr y3, y4.trans (by rw [g1.1 46 (by decide)])⟩)
  obtain ⟨r, k1, Y, rfl, k3⟩ := key
  rw [k1]
  exact ⟨Y, rfl, k3⟩
theorem flt_c {α : Type} {l : List α} {p q : α → Bool} (h : ∀ x, p x = q x) : l.filter p = l.filter q := by
  rw [show p = q from funext h]
theorem z_tidy97 {X : gX} {A : zA} {q : Nat → Bool} (h : RM X A) (hb : TB (aT A)) (hV : VL A) (hH : HV A (aT A)) (hm : aS A 30 = nI (aM A).length) (hm4 : (aM A).length ≤ 4) (hq : N53 X (aT A) q) : ∃ Y, f_Mo_tidyFiles_97 X = some (gR.v, Y) ∧ RM Y (sT A ((aT A).filter (fun f => q f.1 || nd3 A f.1 || nd4 (aM A) f.1 || nd5 A 4 f.1))) ∧ frM X Y ∧ Y.I 46 0 = X.I 46 0 := by
  unfold f_Mo_tidyFiles_97
  rw [h.1 18 (by decide) (by decide) (by decide)]
  by_cases c : aS A 18 = 0
  · rw [if_pos c]
    obtain ⟨Y, y1, y2, y3⟩ := z_tidy113 h hb hV hH hm hm4 hq
    refine ⟨Y, y1, ?_, y3⟩
    rw [flt_c (q := fun f => q f.1 || nd4 (aM A) f.1 || nd5 A 4 f.1) (fun f => by simp [nd3, c])]
    exact y2
  · rw [if_neg c]
    obtain ⟨Z, z1, z2, z3⟩ := z_need (b := true) h.2.2.1 hb (h.2.2.2.1 54 rfl) (hV _ rfl (fun _ => c)) (by omega) (hH.2.2.1 c) hq
    rw [show (b2i true) = 1 from rfl] at z1
    obtain ⟨Y, y1, y2, y3, y4⟩ := z_tidy113 (RM_53 h z2) hb hV hH hm hm4 z3
    rw [z1, gCv_v, y1]
    refine ⟨Y, rfl, ?_, (frM.o53 z2).tr y3, y4.trans (by rw [z2.1 46 (by decide)])⟩
    rw [flt_c (q := fun f => (q f.1 || inV true (aV A 54).1 f.1) || nd4 (aM A) f.1 || nd5 A 4 f.1) (fun f => by simp [nd3, c])]
    exact y2
theorem z_tidy64 {X : gX} {A : zA} {q : Nat → Bool} (h : RM X A) (hb : TB (aT A)) (hV : VL A) (hH : HV A (aT A)) (hm : aS A 30 = nI (aM A).length) (hm4 : (aM A).length ≤ 4) (hq : N53 X (aT A) q) : ∃ Y, f_Mo_tidyFiles_64 X = some (gR.v, Y) ∧ RM Y (sT A ((aT A).filter (fun f => q f.1 || nd2 A f.1 || nd3 A f.1 || nd4 (aM A) f.1 || nd5 A 4 f.1))) ∧ frM X Y ∧ Y.I 46 0 = X.I 46 0 := by
  unfold f_Mo_tidyFiles_64
  rw [h.1 19 (by decide) (by decide) (by decide)]
  by_cases c : aS A 19 = 0
  · rw [if_pos c]
    obtain ⟨Y, y1, y2, y3⟩ := z_tidy97 h hb hV hH hm hm4 hq
    refine ⟨Y, y1, ?_, y3⟩
    rw [flt_c (q := fun f => q f.1 || nd3 A f.1 || nd4 (aM A) f.1 || nd5 A 4 f.1) (fun f => by simp [nd2, c])]
    exact y2
  · rw [if_neg c]
    obtain ⟨Z, z1, z2, z3⟩ := z_need (b := true) h.2.2.1 hb (h.2.2.2.1 70 rfl) (hV _ rfl (fun e => absurd e (by decide))) (by omega) (hH.2.1 c).1 hq
    rw [show (b2i true) = 1 from rfl] at z1
    obtain ⟨i1, m1, m2, m3⟩ := z_mark (mT_53 h.2.2.1 z2) hb (hH.2.1 c).2 z3
    have h70 : Z.I 70 9 = nI (aV A 70).2.2.1 := by
      rw [z2.1 70 (by decide)]
      exact (h.2.2.2.1 70 rfl).1.2.2.1
    have z4 : frI s53 X (Z.w 53 i1 1) := z2.w (by decide)
    obtain ⟨Y, y1, y2, y3, y4⟩ := z_tidy97 (RM_53 h z4) hb hV hH hm hm4 m3
    rw [z1, gCv_v, h70, m1, gCi_i, if_pos (gIn_nI m2 (by omega)), gn_nI (by omega), gB_b, show vp_nar .boolean 1 = 1 from rfl, y1]
    refine ⟨Y, rfl, ?_, (frM.o53 z4).tr y3, y4.trans (by rw [z4.1 46 (by decide)])⟩
    rw [flt_c (q := fun f => ((q f.1 || inV true (aV A 70).1 f.1) || decide (f.1 = (aV A 70).2.2.1)) || nd3 A f.1 || nd4 (aM A) f.1 || nd5 A 4 f.1) (fun f => by simp [nd2, c, Bool.or_assoc])]
    exact y2
theorem z_tidyFiles {X : gX} {A : zA} (h : RM X A) (hb : TB (aT A)) (hV : VL A) (hH : HV A (aT A)) (hm : aS A 30 = nI (aM A).length) (hm4 : (aM A).length ≤ 4) (hl0 : aS A 14 = 0) : ∃ Y, f_Mo_tidyFiles X = some (gR.v, Y) ∧ RM Y (sT A ((aT A).filter (fun f => ndd A f.1))) ∧ frM X Y ∧ Y.I 46 0 = X.I 46 0 := by
  have hb1 := hb.1
  unfold f_Mo_tidyFiles
  rw [h.1 14 (by decide) (by decide) (by decide), if_pos hl0]
  have key := gI_inv (body := fun u : gX × Int32 => f_Mo_tidyFiles_10 u.1 u.2) (fun k u => u.2 = nI k ∧ frI s53 X u.1 ∧ ∀ i, i < k → u.1.I 53 i = 0) (fun r => ∃ Y, r = (gR.v, Y) ∧ RM Y (sT A ((aT A).filter (fun f => ndd A f.1))) ∧ frM X Y ∧ Y.I 46 0 = X.I 46 0) (aT A).length (by omega) (s0 := (X, 0)) ⟨rfl, frI.rf, fun i hi => absurd hi (by omega)⟩ (fun k u hk hI => by
    obtain ⟨Z, i⟩ := u
    obtain ⟨rfl, g1, g2⟩ := hI
    show ∃ u', f_Mo_tidyFiles_10 Z (nI k) = _ ∧ _
    unfold f_Mo_tidyFiles_10
    rw [(mT_53 h.2.2.1 g1).1, if_neg (nI_ge (by omega) (by omega)), if_pos (gIn_nI (by omega) (by omega)), gn_nI (by omega), gB_b, show vp_nar .boolean 0 = 0 from rfl]
    refine ⟨_, rfl, nI_1 k, g1.w (by decide), fun i hi => ?_⟩
    by_cases c : i = k
    · exact w_same c
    · exact (w_oth (Or.inr c)).trans (g2 i (by omega))) (fun u hI => by
    obtain ⟨Z, i⟩ := u
    obtain ⟨rfl, g1, g2⟩ := hI
    show ∃ r, f_Mo_tidyFiles_10 Z (nI (aT A).length) = _ ∧ _
    have g3 : N53 Z (aT A) (fun _ => false) := fun i f hf => g2 i (vs_lt hf)
    have hR := RM_53 h g1
    unfold f_Mo_tidyFiles_10
    rw [hR.2.2.1.1, if_pos (nI_le (Nat.le_refl _) (by omega)), hR.1 20 (by decide) (by decide) (by decide)]
    by_cases c : aS A 20 ≤ 0
    · rw [if_pos c]
      obtain ⟨Y, y1, y2, y3, y4⟩ := z_tidy64 hR hb hV hH hm hm4 g3
      rw [y1, gLf_s]
      refine ⟨_, rfl, Y, rfl, ?_, (frM.o53 g1).tr y3, y4.trans (by rw [g1.1 46 (by decide)])⟩
      rw [flt_c (q := fun f => false || nd2 A f.1 || nd3 A f.1 || nd4 (aM A) f.1 || nd5 A 4 f.1) (fun f => by simp [ndd, nd1, c])]
      exact y2
    · rw [if_neg c]
      obtain ⟨W, z1, z2, z3⟩ := z_need (b := true) hR.2.2.1 hb (hR.2.2.2.1 62 rfl) (hV _ rfl (fun e => absurd e (by decide))) (by omega) (hH.1 c).1 g3
      rw [show (b2i true) = 1 from rfl] at z1
      have g4 := g1.tr z2
      obtain ⟨i1, m1, m2, m3⟩ := z_mark (mT_53 h.2.2.1 g4) hb (hH.1 c).2 z3
      have h62 : W.I 62 9 = nI (aV A 62).2.2.1 := by
        rw [g4.1 62 (by decide)]
        exact (h.2.2.2.1 62 rfl).1.2.2.1
      have z4 : frI s53 X (W.w 53 i1 1) := g4.w (by decide)
      obtain ⟨Y, y1, y2, y3, y4⟩ := z_tidy64 (RM_53 h z4) hb hV hH hm hm4 m3
      rw [z1, gCv_v, h62, m1, gCi_i, if_pos (gIn_nI m2 (by omega)), gn_nI (by omega), gB_b, show vp_nar .boolean 1 = 1 from rfl, y1, gLf_s]
      refine ⟨_, rfl, Y, rfl, ?_, (frM.o53 z4).tr y3, y4.trans (by rw [z4.1 46 (by decide)])⟩
      rw [flt_c (q := fun f => ((false || inV true (aV A 62).1 f.1) || decide (f.1 = (aV A 62).2.2.1)) || nd2 A f.1 || nd3 A f.1 || nd4 (aM A) f.1 || nd5 A 4 f.1) (fun f => by simp [ndd, nd1, c, Bool.or_assoc])]
      exact y2)
  obtain ⟨r, k1, Y, rfl, k3⟩ := key
  rw [k1]
  exact ⟨Y, rfl, k3⟩
theorem z_tidyLost {X : gX} {A : zA} (h : RM X A) (hl0 : ¬ aS A 14 = 0) : f_Mo_tidyFiles X = some (gR.v, X) := by
  unfold f_Mo_tidyFiles
  rw [h.1 14 (by decide) (by decide) (by decide), if_neg hl0]
/-- the state after done -/
def Xd (X : gX) (p : Nat) : gX := (X.w 46 1 (nI p)).w 46 0 0
theorem RM_d {X : gX} {A : zA} {p : Nat} (h : RM X A) : RM (Xd X p) A := RM_sT (s := aS A) (t := aT A) h (fun a ha => (gX.w_ne (by omega)).trans (gX.w_ne (by omega))) rfl (fun j j1 j2 j3 => ((w_oth (Or.inr (by omega))).trans (w_oth (Or.inr (by omega)))).trans (h.1 j j1 j2 j3)) (mT_fr h.2.2.1 ((w_oth (Or.inr (by decide))).trans (w_oth (Or.inr (by decide)))) ((gX.w_ne (by decide)).trans (gX.w_ne (by decide))) ((gX.w_ne (by decide)).trans (gX.w_ne (by decide))) ((gX.w_ne (by decide)).trans (gX.w_ne (by decide)))) rfl rfl
theorem RM_e {X : gX} {A : zA} {e : Int32} (h : RM X A) : RM (X.w 46 0 e) A := RM_sT (s := aS A) (t := aT A) h (fun a ha => gX.w_ne (by omega)) rfl (fun j j1 j2 j3 => (w_oth (Or.inr (by omega))).trans (h.1 j j1 j2 j3)) (mT_fr h.2.2.1 (w_oth (Or.inr (by decide))) (gX.w_ne (by decide)) (gX.w_ne (by decide)) (gX.w_ne (by decide))) rfl rfl
theorem frM_d {X Y : gX} {p : Nat} (h : frM X Y) : frM X (Xd Y p) := (h.w (by omega)).w (by omega)
theorem Xd_0 {X : gX} {p : Nat} : (Xd X p).I 46 0 = 0 := w_same rfl
theorem Xd_1 {X : gX} {p : Nat} : (Xd X p).I 46 1 = nI p := (w_oth (Or.inr (by decide))).trans (w_same rfl)
theorem z_thrown {X : gX} {p : Nat} : f_Mo_thrown (Xd X p) = some (gR.i (nI p), Xd X p) := by
  unfold f_Mo_thrown
  rw [Xd_1]

theorem z_done_0_0 {X : gX} {v : Int32} (h : X.I 46 0 = 0) : f_Mo_done X v 0 = some (gR.i v, Xd X 0) := by
  rw [s_done_0, h, show (dnT (0 : Int32) (dnW [0, 0, 0, 0, 0, 0]) 6).2 = 0 by decide +kernel]
  rfl
theorem z_done_1_0 {X : gX} {v : Int32} (h : X.I 46 0 = 0) : f_Mo_done X v 1 = some (gR.i v, Xd X 0) := by
  rw [s_done_1, h, show (dnT (0 : Int32) (dnW [0, 0, 0, 0, 0, 1]) 6).2 = 0 by decide +kernel]
  rfl
theorem z_done_1_1 {X : gX} {v : Int32} (h : X.I 46 0 = 1) : f_Mo_done X v 1 = some (gR.i 0, Xd X 1) := by
  rw [s_done_1, h, show (dnT (1 : Int32) (dnW [0, 0, 0, 0, 0, 1]) 6).2 = 1 by decide +kernel]
  rfl
theorem z_done_2_0 {X : gX} {v : Int32} (h : X.I 46 0 = 0) : f_Mo_done X v 2 = some (gR.i v, Xd X 0) := by
  rw [s_done_2, h, show (dnT (0 : Int32) (dnW [0, 0, 0, 0, 0, 2]) 6).2 = 0 by decide +kernel]
  rfl
theorem z_done_2_2 {X : gX} {v : Int32} (h : X.I 46 0 = 2) : f_Mo_done X v 2 = some (gR.i 0, Xd X 1) := by
  rw [s_done_2, h, show (dnT (2 : Int32) (dnW [0, 0, 0, 0, 0, 2]) 6).2 = 1 by decide +kernel]
  rfl
theorem z_done_3_0 {X : gX} {v : Int32} (h : X.I 46 0 = 0) : f_Mo_done X v 3 = some (gR.i v, Xd X 0) := by
  rw [s_done_3, h, show (dnT (0 : Int32) (dnW [0, 0, 0, 0, 0, 3]) 6).2 = 0 by decide +kernel]
  rfl
theorem z_done_3_3 {X : gX} {v : Int32} (h : X.I 46 0 = 3) : f_Mo_done X v 3 = some (gR.i 0, Xd X 1) := by
  rw [s_done_3, h, show (dnT (3 : Int32) (dnW [0, 0, 0, 0, 0, 3]) 6).2 = 1 by decide +kernel]
  rfl
theorem z_done_13_0 {X : gX} {v : Int32} (h : X.I 46 0 = 0) : f_Mo_done X v 13 = some (gR.i v, Xd X 0) := by
  rw [s_done_13, h, show (dnT (0 : Int32) (dnW [0, 0, 0, 0, 1, 3]) 6).2 = 0 by decide +kernel]
  rfl
theorem z_done_13_1 {X : gX} {v : Int32} (h : X.I 46 0 = 1) : f_Mo_done X v 13 = some (gR.i 0, Xd X 1) := by
  rw [s_done_13, h, show (dnT (1 : Int32) (dnW [0, 0, 0, 0, 1, 3]) 6).2 = 1 by decide +kernel]
  rfl
theorem z_done_13_3 {X : gX} {v : Int32} (h : X.I 46 0 = 3) : f_Mo_done X v 13 = some (gR.i 0, Xd X 2) := by
  rw [s_done_13, h, show (dnT (3 : Int32) (dnW [0, 0, 0, 0, 1, 3]) 6).2 = 2 by decide +kernel]
  rfl
theorem z_done_23_0 {X : gX} {v : Int32} (h : X.I 46 0 = 0) : f_Mo_done X v 23 = some (gR.i v, Xd X 0) := by
  rw [s_done_23, h, show (dnT (0 : Int32) (dnW [0, 0, 0, 0, 2, 3]) 6).2 = 0 by decide +kernel]
  rfl
theorem z_done_23_2 {X : gX} {v : Int32} (h : X.I 46 0 = 2) : f_Mo_done X v 23 = some (gR.i 0, Xd X 1) := by
  rw [s_done_23, h, show (dnT (2 : Int32) (dnW [0, 0, 0, 0, 2, 3]) 6).2 = 1 by decide +kernel]
  rfl
theorem z_done_23_3 {X : gX} {v : Int32} (h : X.I 46 0 = 3) : f_Mo_done X v 23 = some (gR.i 0, Xd X 2) := by
  rw [s_done_23, h, show (dnT (3 : Int32) (dnW [0, 0, 0, 0, 2, 3]) 6).2 = 2 by decide +kernel]
  rfl
theorem z_done_26_0 {X : gX} {v : Int32} (h : X.I 46 0 = 0) : f_Mo_done X v 26 = some (gR.i v, Xd X 0) := by
  rw [s_done_26, h, show (dnT (0 : Int32) (dnW [0, 0, 0, 0, 2, 6]) 6).2 = 0 by decide +kernel]
  rfl
theorem z_done_26_2 {X : gX} {v : Int32} (h : X.I 46 0 = 2) : f_Mo_done X v 26 = some (gR.i 0, Xd X 1) := by
  rw [s_done_26, h, show (dnT (2 : Int32) (dnW [0, 0, 0, 0, 2, 6]) 6).2 = 1 by decide +kernel]
  rfl
theorem z_done_26_6 {X : gX} {v : Int32} (h : X.I 46 0 = 6) : f_Mo_done X v 26 = some (gR.i 0, Xd X 2) := by
  rw [s_done_26, h, show (dnT (6 : Int32) (dnW [0, 0, 0, 0, 2, 6]) 6).2 = 2 by decide +kernel]
  rfl
theorem z_done_123_0 {X : gX} {v : Int32} (h : X.I 46 0 = 0) : f_Mo_done X v 123 = some (gR.i v, Xd X 0) := by
  rw [s_done_123, h, show (dnT (0 : Int32) (dnW [0, 0, 0, 1, 2, 3]) 6).2 = 0 by decide +kernel]
  rfl
theorem z_done_123_1 {X : gX} {v : Int32} (h : X.I 46 0 = 1) : f_Mo_done X v 123 = some (gR.i 0, Xd X 1) := by
  rw [s_done_123, h, show (dnT (1 : Int32) (dnW [0, 0, 0, 1, 2, 3]) 6).2 = 1 by decide +kernel]
  rfl
theorem z_done_123_2 {X : gX} {v : Int32} (h : X.I 46 0 = 2) : f_Mo_done X v 123 = some (gR.i 0, Xd X 2) := by
  rw [s_done_123, h, show (dnT (2 : Int32) (dnW [0, 0, 0, 1, 2, 3]) 6).2 = 2 by decide +kernel]
  rfl
theorem z_done_123_3 {X : gX} {v : Int32} (h : X.I 46 0 = 3) : f_Mo_done X v 123 = some (gR.i 0, Xd X 3) := by
  rw [s_done_123, h, show (dnT (3 : Int32) (dnW [0, 0, 0, 1, 2, 3]) 6).2 = 3 by decide +kernel]
  rfl
theorem z_done_124_0 {X : gX} {v : Int32} (h : X.I 46 0 = 0) : f_Mo_done X v 124 = some (gR.i v, Xd X 0) := by
  rw [s_done_124, h, show (dnT (0 : Int32) (dnW [0, 0, 0, 1, 2, 4]) 6).2 = 0 by decide +kernel]
  rfl
theorem z_done_124_1 {X : gX} {v : Int32} (h : X.I 46 0 = 1) : f_Mo_done X v 124 = some (gR.i 0, Xd X 1) := by
  rw [s_done_124, h, show (dnT (1 : Int32) (dnW [0, 0, 0, 1, 2, 4]) 6).2 = 1 by decide +kernel]
  rfl
theorem z_done_124_2 {X : gX} {v : Int32} (h : X.I 46 0 = 2) : f_Mo_done X v 124 = some (gR.i 0, Xd X 2) := by
  rw [s_done_124, h, show (dnT (2 : Int32) (dnW [0, 0, 0, 1, 2, 4]) 6).2 = 2 by decide +kernel]
  rfl
theorem z_done_124_4 {X : gX} {v : Int32} (h : X.I 46 0 = 4) : f_Mo_done X v 124 = some (gR.i 0, Xd X 3) := by
  rw [s_done_124, h, show (dnT (4 : Int32) (dnW [0, 0, 0, 1, 2, 4]) 6).2 = 3 by decide +kernel]
  rfl
theorem z_done_1256_0 {X : gX} {v : Int32} (h : X.I 46 0 = 0) : f_Mo_done X v 1256 = some (gR.i v, Xd X 0) := by
  rw [s_done_1256, h, show (dnT (0 : Int32) (dnW [0, 0, 1, 2, 5, 6]) 6).2 = 0 by decide +kernel]
  rfl
theorem z_done_1256_1 {X : gX} {v : Int32} (h : X.I 46 0 = 1) : f_Mo_done X v 1256 = some (gR.i 0, Xd X 1) := by
  rw [s_done_1256, h, show (dnT (1 : Int32) (dnW [0, 0, 1, 2, 5, 6]) 6).2 = 1 by decide +kernel]
  rfl
theorem z_done_1256_2 {X : gX} {v : Int32} (h : X.I 46 0 = 2) : f_Mo_done X v 1256 = some (gR.i 0, Xd X 2) := by
  rw [s_done_1256, h, show (dnT (2 : Int32) (dnW [0, 0, 1, 2, 5, 6]) 6).2 = 2 by decide +kernel]
  rfl
theorem z_done_1256_5 {X : gX} {v : Int32} (h : X.I 46 0 = 5) : f_Mo_done X v 1256 = some (gR.i 0, Xd X 3) := by
  rw [s_done_1256, h, show (dnT (5 : Int32) (dnW [0, 0, 1, 2, 5, 6]) 6).2 = 3 by decide +kernel]
  rfl
theorem z_done_1256_6 {X : gX} {v : Int32} (h : X.I 46 0 = 6) : f_Mo_done X v 1256 = some (gR.i 0, Xd X 4) := by
  rw [s_done_1256, h, show (dnT (6 : Int32) (dnW [0, 0, 1, 2, 5, 6]) 6).2 = 4 by decide +kernel]
  rfl
theorem z_done_12356_0 {X : gX} {v : Int32} (h : X.I 46 0 = 0) : f_Mo_done X v 12356 = some (gR.i v, Xd X 0) := by
  rw [s_done_12356, h, show (dnT (0 : Int32) (dnW [0, 1, 2, 3, 5, 6]) 6).2 = 0 by decide +kernel]
  rfl
theorem z_done_12356_1 {X : gX} {v : Int32} (h : X.I 46 0 = 1) : f_Mo_done X v 12356 = some (gR.i 0, Xd X 1) := by
  rw [s_done_12356, h, show (dnT (1 : Int32) (dnW [0, 1, 2, 3, 5, 6]) 6).2 = 1 by decide +kernel]
  rfl
theorem z_done_12356_2 {X : gX} {v : Int32} (h : X.I 46 0 = 2) : f_Mo_done X v 12356 = some (gR.i 0, Xd X 2) := by
  rw [s_done_12356, h, show (dnT (2 : Int32) (dnW [0, 1, 2, 3, 5, 6]) 6).2 = 2 by decide +kernel]
  rfl
theorem z_done_12356_3 {X : gX} {v : Int32} (h : X.I 46 0 = 3) : f_Mo_done X v 12356 = some (gR.i 0, Xd X 3) := by
  rw [s_done_12356, h, show (dnT (3 : Int32) (dnW [0, 1, 2, 3, 5, 6]) 6).2 = 3 by decide +kernel]
  rfl
theorem z_done_12356_5 {X : gX} {v : Int32} (h : X.I 46 0 = 5) : f_Mo_done X v 12356 = some (gR.i 0, Xd X 4) := by
  rw [s_done_12356, h, show (dnT (5 : Int32) (dnW [0, 1, 2, 3, 5, 6]) 6).2 = 4 by decide +kernel]
  rfl
theorem z_done_12356_6 {X : gX} {v : Int32} (h : X.I 46 0 = 6) : f_Mo_done X v 12356 = some (gR.i 0, Xd X 5) := by
  rw [s_done_12356, h, show (dnT (6 : Int32) (dnW [0, 1, 2, 3, 5, 6]) 6).2 = 5 by decide +kernel]
  rfl
theorem z_done_123456_0 {X : gX} {v : Int32} (h : X.I 46 0 = 0) : f_Mo_done X v 123456 = some (gR.i v, Xd X 0) := by
  rw [s_done_123456, h, show (dnT (0 : Int32) (dnW [1, 2, 3, 4, 5, 6]) 6).2 = 0 by decide +kernel]
  rfl
theorem z_done_123456_1 {X : gX} {v : Int32} (h : X.I 46 0 = 1) : f_Mo_done X v 123456 = some (gR.i 0, Xd X 1) := by
  rw [s_done_123456, h, show (dnT (1 : Int32) (dnW [1, 2, 3, 4, 5, 6]) 6).2 = 1 by decide +kernel]
  rfl
theorem z_done_123456_2 {X : gX} {v : Int32} (h : X.I 46 0 = 2) : f_Mo_done X v 123456 = some (gR.i 0, Xd X 2) := by
  rw [s_done_123456, h, show (dnT (2 : Int32) (dnW [1, 2, 3, 4, 5, 6]) 6).2 = 2 by decide +kernel]
  rfl
theorem z_done_123456_3 {X : gX} {v : Int32} (h : X.I 46 0 = 3) : f_Mo_done X v 123456 = some (gR.i 0, Xd X 3) := by
  rw [s_done_123456, h, show (dnT (3 : Int32) (dnW [1, 2, 3, 4, 5, 6]) 6).2 = 3 by decide +kernel]
  rfl
theorem z_done_123456_4 {X : gX} {v : Int32} (h : X.I 46 0 = 4) : f_Mo_done X v 123456 = some (gR.i 0, Xd X 4) := by
  rw [s_done_123456, h, show (dnT (4 : Int32) (dnW [1, 2, 3, 4, 5, 6]) 6).2 = 4 by decide +kernel]
  rfl
theorem z_done_123456_5 {X : gX} {v : Int32} (h : X.I 46 0 = 5) : f_Mo_done X v 123456 = some (gR.i 0, Xd X 5) := by
  rw [s_done_123456, h, show (dnT (5 : Int32) (dnW [1, 2, 3, 4, 5, 6]) 6).2 = 5 by decide +kernel]
  rfl
theorem z_done_123456_6 {X : gX} {v : Int32} (h : X.I 46 0 = 6) : f_Mo_done X v 123456 = some (gR.i 0, Xd X 6) := by
  rw [s_done_123456, h, show (dnT (6 : Int32) (dnW [1, 2, 3, 4, 5, 6]) 6).2 = 6 by decide +kernel]
  rfl
