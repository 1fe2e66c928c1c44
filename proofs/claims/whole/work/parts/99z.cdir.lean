/-! THE PURE SIDE: the class's directory: its lists -/
theorem nI_half {n : Nat} (h : n < 2 ^ 31) : (nI n) >>> ((1 : Int32) &&& 31) = nI (n / 2) := by
  apply Int32.toInt_inj.mp
  rw [pk_shr _ _ 1 (by decide), nI_toInt h, nI_toInt (by omega)]
  show Int.ofNat (n >>> 1) = _
  rw [Nat.shiftRight_eq_div_pow]
  rfl
theorem C_get {X : gX} {n i len : Nat} (h1 : X.I n 1 = nI len) (hi : i < len) (hL : len ≤ X.L (n + 124)) (hb : X.L (n + 124) ≤ 100000) : f_Al_get X n (nI i) = some (gR.a (X.G (n + 124) i), X) := by
  unfold f_Al_get f_Objects_checkIndex f_Preconditions_checkIndex f_Al_elementData
  have h2 : ¬ X.L (n + 124) = 0 := by omega
  rw [h1, if_neg (nI_pos (by omega)), if_pos (nI_lt hi (by omega)), gCi_i, gCi_i, if_pos h2, if_pos h2, if_pos (gIn_nI (by omega) (by omega)), gn_nI (by omega), gCa_a]
theorem C_set {X : gX} {n i len : Nat} {m : Option Nat} (h1 : X.I n 1 = nI len) (hi : i < len) (hL : len ≤ X.L (n + 124)) (hb : X.L (n + 124) ≤ 100000) (hm : gOf X.N m = true) : f_Al_set X n (nI i) m = some (gR.a (X.G (n + 124) i), X.g (n + 124) i m) := by
  unfold f_Al_set f_Objects_checkIndex f_Preconditions_checkIndex f_Al_elementData
  have h2 : ¬ X.L (n + 124) = 0 := by omega
  rw [h1, if_neg (nI_pos (by omega)), if_pos (nI_lt hi (by omega)), gCi_i, gCi_i, if_pos h2, if_pos h2, if_pos (gIn_nI (by omega) (by omega)), gn_nI (by omega), gCa_a, if_pos h2, if_pos h2, if_pos (gIn_nI (by omega) (by omega)), if_pos hm, gB_b]
theorem C_remove {X : gX} {n len : Nat} (h1 : X.I n 1 = nI (len + 1)) (hL : len + 1 ≤ X.L (n + 124)) (hb : X.L (n + 124) ≤ 100000) : f_Al_remove X n (nI len) = some (gR.a (X.G (n + 124) len), ((X.w n 2 (X.I n 2 + 1)).w n 1 (nI len)).g (n + 124) len none) := by
  unfold f_Al_remove f_Objects_checkIndex f_Preconditions_checkIndex f_Al_fastRemove
  have h2 : ¬ X.L (n + 124) = 0 := by omega
  have h3 : (X.w n 2 (X.I n 2 + 1)).I n 1 - 1 = nI len := by rw [w_oth (Or.inr (by decide)), h1, nI_pred]
  rw [h1, if_neg (nI_pos (by omega)), if_pos (nI_lt (by omega) (by omega)), gCi_i, gCi_i, if_pos h2, if_pos h2, if_pos (gIn_nI (by omega) (by omega)), gn_nI (by omega), gB_b, h3, if_pos (nI_le (Nat.le_refl _) (by omega)), gB_b]
  rw [if_pos (show ¬ ((X.w n 2 (X.I n 2 + 1)).w n 1 (nI len)).L (n + 124) = 0 from h2), if_pos (show gIn (nI len) (((X.w n 2 (X.I n 2 + 1)).w n 1 (nI len)).L (n + 124)) = true from gIn_nI (show len < X.L (n + 124) by omega) (show X.L (n + 124) < 2 ^ 31 by omega)), if_pos (show gOf ((X.w n 2 (X.I n 2 + 1)).w n 1 (nI len)).N none = true from rfl), gB_b, gCv_v, gn_nI (by omega)]
/-- only the list n has changed, and what it takes of the room -/
def frL (n : Nat) (X Y : gX) : Prop := (∀ a, a ≠ n → Y.I a = X.I a) ∧ (∀ a, a ≠ n + 124 → Y.G a = X.G a) ∧ Y.N = X.N ∧ ∀ a, a ≠ n + 124 → Y.L a = X.L a
theorem frL.tr {n : Nat} {X Y Z : gX} (h : frL n X Y) (h' : frL n Y Z) : frL n X Z := ⟨fun a h1 => (h'.1 a h1).trans (h.1 a h1), fun a h1 => (h'.2.1 a h1).trans (h.2.1 a h1), h'.2.2.1.trans h.2.2.1, fun a h1 => (h'.2.2.2 a h1).trans (h.2.2.2 a h1)⟩
theorem frL.rf {n : Nat} {X : gX} : frL n X X := ⟨fun _ _ => rfl, fun _ _ => rfl, rfl, fun _ _ => rfl⟩
theorem frL.w {n j : Nat} {v : Int32} {X Y : gX} (h : frL n X Y) : frL n X (Y.w n j v) := ⟨fun a h1 => (gX.w_ne h1).trans (h.1 a h1), h.2.1, h.2.2.1, h.2.2.2⟩
theorem frL.g {n j : Nat} {v : Option Nat} {X Y : gX} (h : frL n X Y) : frL n X (Y.g (n + 124) j v) := ⟨h.1, fun a h1 => (gX.g_ne h1).trans (h.2.1 a h1), h.2.2.1, h.2.2.2⟩
theorem gr_L {X : gX} {k c : Nat} : (X.gr k c).L k = c := if_pos rfl
theorem gr_Lo {X : gX} {k c a : Nat} (h : a ≠ k) : (X.gr k c).L a = X.L a := if_neg h
theorem gr_G {X : gX} {k c i : Nat} (h : i < X.L k) : (X.gr k c).G k i = X.G k i := by
  show (if k = k then (fun i => if i < X.L k then X.G k i else none) else X.G k) i = _
  rw [if_pos rfl, if_pos h]
theorem gr_Gn {X : gX} {k c i : Nat} (h : ¬ i < X.L k) : (X.gr k c).G k i = none := by
  show (if k = k then (fun i => if i < X.L k then X.G k i else none) else X.G k) i = _
  rw [if_pos rfl, if_neg h]
theorem gr_Go {X : gX} {k c a : Nat} (h : a ≠ k) : (X.gr k c).G a = X.G a := if_neg h
theorem RR_gr {X : gX} {k n c : Nat} (hn : n = 6 ∨ n = 7) (h : RR X k) (h1 : X.L (n + 124) + 5 ≤ c) (h2 : X.L (n + 124) = 0 ∨ c = X.L (n + 124) + X.L (n + 124) / 2) (h3 : X.L (n + 124) = 0 → c = 10) (h4 : X.L (n + 124) ≤ 60000) : RR (X.gr (n + 124) c) k := by
  obtain ⟨⟨a1, a2, a3, a4, a5⟩, a6, a7⟩ := h
  rcases hn with rfl | rfl
  · refine ⟨⟨a1, ?_, ?_, ?_, ?_⟩, ?_, ?_⟩
    · rw [gr_L]; omega
    · rw [gr_Lo (by decide)]; exact a3
    · rw [gr_L]; omega
    · rw [gr_Lo (by decide)]; exact a5
    · rw [gr_L, gr_Lo (by decide)]
      show 5 * (X.cc + 1) ≤ 610 + 5 * X.N + c + X.L 131 + 5 * k
      simp only [Nat.reduceAdd] at h1
      omega
    · rw [gr_L, gr_Lo (by decide)]
      show X.ss + c ≤ 677754 + 7 * X.N + 4 * (c + X.L 131) + 6 * k
      simp only [Nat.reduceAdd] at h1 h2 h3
      omega
  · refine ⟨⟨a1, ?_, ?_, ?_, ?_⟩, ?_, ?_⟩
    · rw [gr_Lo (by decide)]; exact a2
    · rw [gr_L]; omega
    · rw [gr_Lo (by decide)]; exact a4
    · rw [gr_L]; omega
    · rw [gr_L, gr_Lo (by decide)]
      show 5 * (X.cc + 1) ≤ 610 + 5 * X.N + X.L 130 + c + 5 * k
      simp only [Nat.reduceAdd] at h1
      omega
    · rw [gr_L, gr_Lo (by decide)]
      show X.ss + c ≤ 677754 + 7 * X.N + 4 * (X.L 130 + c) + 6 * k
      simp only [Nat.reduceAdd] at h1 h2 h3
      omega
theorem RR_lim {X : gX} {k : Nat} (h : RR X k) (hk : k ≤ 600) : X.cc + 100 ≤ gCL ∧ X.ss + 200000 ≤ gSL := by
  obtain ⟨⟨a1, a2, a3, a4, a5⟩, a6, a7⟩ := h
  have e1 : gCL = 200000 := rfl
  have e2 : gSL = 3000000 := rfl
  omega
theorem gGr_t {X : gX} {k c : Nat} (h0 : 0 < c) (h1 : X.L k ≤ c) (h2 : c ≤ 150000) (h3 : X.cc + 1 ≤ gCL) (h4 : X.ss + c ≤ gSL) (h5 : ∀ i, gOf X.N (X.G k i) = true) : gGr X k (nI c) = true := by
  unfold gGr
  simp only [Bool.and_eq_true, decide_eq_true_eq, List.all_eq_true]
  rw [gn_nI (by omega)]
  exact ⟨nI_lt (a := 0) h0 (by omega), h1, by omega, h3, h4, fun i _ => h5 i⟩
theorem C_grow {X : gX} {n len k : Nat} (hn : n = 6 ∨ n = 7) (h1 : X.I n 1 = nI len) (hL : len = X.L (n + 124)) (hlen : len < 60000) (hR : RR X k) (hk : k ≤ 600) (hO : ∀ i, gOf X.N (X.G (n + 124) i) = true) : ∃ c, f_Al_grow0 X n = some (gR.a (some (n + 124)), X.gr (n + 124) c) ∧ len + 1 ≤ c ∧ c ≤ 100000 ∧ RR (X.gr (n + 124) c) k := by
  have hlim := RR_lim hR hk
  have hLo : X.L (n + 124) = 0 ∨ 10 ≤ X.L (n + 124) := by
    rcases hn with rfl | rfl
    · exact hR.1.2.2.2.1
    · exact hR.1.2.2.2.2
  unfold f_Al_grow0 f_Al_grow1
  rw [h1, nI_1]
  by_cases c0 : X.L (n + 124) = 0
  · have e0 : len = 0 := by omega
    subst e0
    refine ⟨10, ?_, by omega, by omega, RR_gr hn hR (by omega) (Or.inl c0) (fun _ => rfl) (by omega)⟩
    have e9 : (if (10 : Int32) < nI (0 + 1) then nI (0 + 1) else 10) = nI 10 := by decide
    rw [if_pos c0, e9]
    have g := gGr_t (X := X) (k := n + 124) (c := 10) (by omega) (by omega) (by omega) (by omega) (by omega) hO
    rw [if_pos g, gCa_a, if_pos rfl, gn_nI (by omega)]
  · have hc : 10 ≤ X.L (n + 124) := by omega
    refine ⟨X.L (n + 124) + X.L (n + 124) / 2, ?_, by omega, by omega, RR_gr hn hR (by omega) (Or.inr rfl) (fun q => absurd q c0) (by omega)⟩
    rw [if_neg c0, nI_half (by omega), pk_sub (by omega), show len + 1 - X.L (n + 124) = 1 by omega]
    unfold f_ArraysSupport_newLength
    have e1 : (if nI 1 < nI (X.L (n + 124) / 2) then nI (X.L (n + 124) / 2) else nI 1) = nI (X.L (n + 124) / 2) := if_pos (nI_lt (by omega) (by omega))
    rw [e1, nI_add, if_neg (nI_nle (by omega) (by omega)), if_neg (show ¬ (2147483639 : Int32) < nI (X.L (n + 124) + X.L (n + 124) / 2) from nI_nlt (a := 2147483639) (by omega) (by omega)), gCi_i]
    have g := gGr_t (X := X) (k := n + 124) (c := X.L (n + 124) + X.L (n + 124) / 2) (by omega) (by omega) (by omega) (by omega) (by omega) hO
    rw [if_pos g, gCa_a, if_pos rfl, gn_nI (by omega)]
theorem C_add {X : gX} {n len q k : Nat} (hn : n = 6 ∨ n = 7) (h1 : X.I n 1 = nI len) (hL : len ≤ X.L (n + 124)) (hlen : len < 60000) (hR : RR X k) (hk : k ≤ 600) (hO : ∀ i, gOf X.N (X.G (n + 124) i) = true) (hq : gFile X.N q = true) : ∃ Y, f_Al_add0 X n (some q) = some (gR.i 1, Y) ∧ frL n X Y ∧ Y.I n 1 = nI (len + 1) ∧ (∀ i, i < len → Y.G (n + 124) i = X.G (n + 124) i) ∧ Y.G (n + 124) len = some q ∧ (∀ i, gOf Y.N (Y.G (n + 124) i) = true) ∧ len + 1 ≤ Y.L (n + 124) ∧ RR Y k := by
  have hb : X.L (n + 124) ≤ 100000 := by
    rcases hn with rfl | rfl
    · exact hR.1.2.1
    · exact hR.1.2.2.1
  have f1 : frL n X (X.w n 2 (X.I n 2 + 1)) := frL.rf.w
  have e1 : (X.w n 2 (X.I n 2 + 1)).I n 1 = nI len := (w_oth (Or.inr (by decide))).trans h1
  have R1 : RR (X.w n 2 (X.I n 2 + 1)) k := RR_fr hR gEq.rf.w
  unfold f_Al_add0
  rw [gB_b]
  have hN1 : (X.w n 2 (X.I n 2 + 1)).N = X.N := rfl
  have hL1 : (X.w n 2 (X.I n 2 + 1)).L = X.L := rfl
  have hG1 : (X.w n 2 (X.I n 2 + 1)).G = X.G := rfl
  generalize X.w n 2 (X.I n 2 + 1) = X1 at f1 e1 R1 hN1 hL1 hG1 ⊢
  unfold f_Al_add1
  rw [e1]
  have hqf := gFile.hi hq
  have hql := gFile.lo hq
  by_cases c : len = X.L (n + 124)
  · rw [if_pos (by rw [hL1, c])]
    have o1 : gOk X1.N (some n) = true := by
      unfold gOk
      simp only [Bool.and_eq_true, Bool.or_eq_true, decide_eq_true_eq]
      omega
    have o2 : gOk X1.N (some q) = true := by
      unfold gOk
      simp only [Bool.and_eq_true, Bool.or_eq_true, decide_eq_true_eq]
      rw [hN1]
      omega
    rw [if_pos o1, if_pos o2]
    obtain ⟨cp, g1, g2, g3, g4⟩ := C_grow hn e1 (by rw [hL1]; exact c) hlen R1 hk (fun i => by rw [hN1, hG1]; exact hO i)
    rw [g1, gCa_a, if_pos rfl, gr_L, if_pos (by omega), if_pos (gIn_nI (by omega) (by omega)), if_pos (show gOf (X1.gr (n + 124) cp).N (some q) = true from (show gFile X1.N q = true by rw [hN1]; exact hq)), gB_b, gB_b, gn_nI (by omega), gCv_v, nI_1]
    refine ⟨_, rfl, ?_, w_same rfl, fun i hi => ?_, ?_, fun i => ?_, ?_, RR_fr g4 (gEq.rf.g.w)⟩
    · exact frL.tr f1 (frL.w (frL.g ⟨fun _ _ => rfl, fun a h => gr_Go h, rfl, fun a h => gr_Lo h⟩))
    · rw [w_G, g_oth (Or.inr (by omega)), gr_G (by rw [hL1]; omega), hG1]
    · rw [w_G, g_same rfl]
    · rw [w_G, gX.g_at, if_pos rfl]
      show gOf X1.N _ = true
      by_cases c2 : i = len
      · rw [if_pos c2, hN1]; exact hq
      · rw [if_neg c2]
        by_cases c3 : i < X1.L (n + 124)
        · rw [gr_G c3, hN1, hG1]; exact hO i
        · rw [gr_Gn c3]; rfl
    · show len + 1 ≤ (X1.gr (n + 124) cp).L (n + 124)
      rw [gr_L]
      exact g2
  · rw [if_neg (fun q => c ((nI_eq (by omega) (by rw [hL1]; omega)).mp q |>.trans (by rw [hL1])))]
    have h2 : ¬ X1.L (n + 124) = 0 := by rw [hL1]; omega
    rw [if_pos h2, if_pos h2, if_pos (gIn_nI (by rw [hL1]; omega) (by rw [hL1]; omega)), if_pos (show gOf X1.N (some q) = true by rw [hN1]; exact hq), gB_b, gB_b, gn_nI (by omega), gCv_v, nI_1]
    refine ⟨_, rfl, f1.g.w, w_same rfl, fun i hi => ?_, ?_, fun i => ?_, ?_, RR_fr R1 (gEq.rf.g.w)⟩
    · rw [w_G, g_oth (Or.inr (by omega)), hG1]
    · rw [w_G, g_same rfl]
    · rw [w_G, gX.g_at, if_pos rfl]
      show gOf X1.N _ = true
      by_cases c2 : i = len
      · rw [if_pos c2, hN1]; exact hq
      · rw [if_neg c2, hN1, hG1]; exact hO i
    · show len + 1 ≤ X1.L (n + 124)
      rw [hL1]
      omega
