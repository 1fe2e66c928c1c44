/-! THE PURE SIDE: the call erase -/
def erL (A : zA) (a : Int32) (e : Nat) : Bool := (aV A 54).2.1 e && !decide (aE A 0 e = a)
def aErs (A : zA) (a : Int32) : zA := sV1 A 54 ((aV A 54).1, erL A a, (aV A 54).2.2)
theorem erL_le {A : zA} {a : Int32} {e : Nat} (h : erL A a e = true) : (aV A 54).2.1 e = true := by
  unfold erL at h
  simp only [Bool.and_eq_true] at h
  exact h.1
theorem Mid0_ers {A : zA} {k : Nat} {a : Int32} (h : Mid0 A k) : Mid0 (aErs A a) k := by
  obtain ⟨o, h1, h2, h3, ⟨⟨w1, w1'⟩, ⟨m1, m2, m3⟩, w3⟩, ⟨⟨a1, a2, a3, a4, a5⟩, b1, b2⟩, h6, h6'⟩ := h
  have eV : ∀ n, n ≠ 54 → aV (aErs A a) n = aV A n := fun n hn => if_neg hn
  refine ⟨o, h1, h2, fun n hn hn' => by rw [eV n hn']; exact h3 n hn hn', ⟨⟨⟨fun x hx => ?_, w1.2⟩, fun e he => w1' e (erL_le he)⟩, ⟨fun m hm => ?_, m2, m3⟩, ?_⟩, ⟨⟨?_, ?_, a3, a4, fun i hi => ?_⟩, ?_, ?_⟩, h6, fun i hi => ?_⟩
  · obtain ⟨x1, x2, x3, x4⟩ := w1.1 x hx
    refine ⟨x1, x2, x3, fun k' hk' => ?_⟩
    obtain ⟨y1, y2, y3⟩ := x4 k' hk'
    exact ⟨y1, y2, fun e he1 he2 => y3 e he1 (erL_le he2)⟩
  · obtain ⟨q1, q2, q3, q4, q5, q6, q7⟩ := m1 m hm
    exact ⟨q1, q2, q3, q4, q5, q6, fun e e1 e2 e3 => q7 e e1 e2 (erL_le e3)⟩
  · unfold WL
    rw [eV 70 (by decide), eV 62 (by decide)]
    exact w3
  · rw [eV 62 (by decide)]; exact a1
  · rw [eV 70 (by decide)]; exact a2
  · rw [eV (84 + 8 * i) (by omega)]; exact a5 i hi
  · rw [eV 62 (by decide)]; exact b1
  · rw [eV 70 (by decide)]; exact b2
  · rw [eV (84 + 8 * i) (by omega)]; exact h6' i hi
/-- nothing was erased -/
theorem ers_id {A : zA} {k : Nat} {a : Int32} (h : Inv A k) (o : ¬ aS A 18 = 0) (hn : ∀ e, lk A (aV A 54) a e = false) : aTf (aTdy (aErs A a)) = A := by
  have e1 : erL A a = (aV A 54).2.1 := by
    funext e
    have := hn e
    unfold lk at this
    unfold erL
    cases c : (aV A 54).2.1 e with
    | false => rfl
    | true =>
      rw [c, Bool.true_and] at this
      rw [this]
      rfl
  have e2 : aErs A a = A := by
    show sV A (fun m => if m = 54 then ((aV A 54).1, erL A a, (aV A 54).2.2) else aV A m) = A
    rw [e1]
    have : (fun m => if m = 54 then ((aV A 54).1, (aV A 54).2.1, (aV A 54).2.2) else aV A m) = aV A := by
      funext m
      by_cases c : m = 54
      · rw [if_pos c, c]
      · rw [if_neg c]
    rw [this]
  have e3 : aTdy A = A := by
    show sV A (fun m => if m = 54 then ((aV A 54).1.filter (kp (aD A) (aV A 54)), (aV A 54).2) else aV A m) = A
    rw [List.filter_eq_self.mpr (h.2.2.2.1 o).2.1]
    have : (fun m => if m = 54 then ((aV A 54).1, (aV A 54).2) else aV A m) = aV A := by
      funext m
      by_cases c : m = 54
      · rw [if_pos c, c]
      · rw [if_neg c]
    rw [this]
  rw [e2, e3]
  exact aTf_inv h
theorem C_ersLoop {X : gX} {A : zA} {nm : Nat → Nat} {k : Nat} {a : Int32} (hC : RC X A nm k) (o : ¬ aS A 18 = 0) (h5 : aS A 5 = nI (dc A)) (hd : dc A ≤ 4096) (hz : ∀ e, dc A ≤ e → (aV A 54).2.1 e = false) (P : gR × gX → Prop) (hP : ∀ Y, RC Y (aErs A a) nm k → frC X Y → (cnt (lk A (aV A 54) a) 0 (dc A) = 0 → Y = X) → ∃ r, (if nI (cnt (lk A (aV A 54) a) 0 (dc A)) ≤ (0 : Int32) then gLf (f_Le_erase_75 Y (nI (cnt (lk A (aV A 54) a) 0 (dc A)))) else gCv (f_Le_dropDeadSegments Y) (fun X5 => gCv (f_Le_dropUnneededFiles X5) (fun X6 => gLf (f_Le_erase_75 X6 (nI (cnt (lk A (aV A 54) a) 0 (dc A))))))) = some ((Sum.inr r : (gX × Int32 × Int32) ⊕ (gR × gX))) ∧ P r) : ∃ r, gI (fun s : gX × Int32 × Int32 => f_Le_erase_8 s.1 a s.2.1 s.2.2) gK (X, 0, 0) = some r ∧ P r := by
  have hCV := (RC_W hC).1.1 o
  have f5 : X.I 1 3 = nI (dc A) := (cS_5 hC.1).trans h5
  refine gI_inv (body := fun s : gX × Int32 × Int32 => f_Le_erase_8 s.1 a s.2.1 s.2.2) (fun e s => ∃ W, s = (W, nI (cnt (lk A (aV A 54) a) 0 e), nI e) ∧ frV 8 X W ∧ W.I 8 = X.I 8 ∧ W.G = X.G ∧ (∀ t, t < 4096 → W.I 11 t = if t < e then b2i (erL A a t) else b2i ((aV A 54).2.1 t)) ∧ (cnt (lk A (aV A 54) a) 0 e = 0 → W = X)) P (dc A) (by omega) (s0 := (X, 0, 0)) ⟨X, rfl, frV.rf, rfl, rfl, fun t ht => by rw [if_neg (by omega)]; exact hCV.2.2.2 t ht, fun _ => rfl⟩ (fun e s he hI => ?_) (fun s hI => ?_)
  · obtain ⟨W, rfl, g1, g2, g3, g4, g5⟩ := hI
    show ∃ s', f_Le_erase_8 W a (nI (cnt (lk A (aV A 54) a) 0 e)) (nI e) = _ ∧ _
    have j1 : gIn (nI e) 4096 = true := gIn_nI (by omega) (by omega)
    have q11 : W.I 11 e = b2i ((aV A 54).2.1 e) := by rw [g4 e (by omega), if_neg (by omega)]
    have q2 : W.I 2 e = aE A 0 e := by rw [g1.1 2 (by omega) (by omega), hC.2.2.1.1]
    have eP : cnt (lk A (aV A 54) a) 0 (e + 1) = cnt (lk A (aV A 54) a) 0 e + if lk A (aV A 54) a e = true then 1 else 0 := by
      show cnt (lk A (aV A 54) a) 0 e + (if lk A (aV A 54) a (0 + e) = true then 1 else 0) = _
      rw [Nat.zero_add]
    unfold f_Le_erase_8 f_Le_erase_57
    rw [g1.1 1 (by omega) (by omega), f5, if_neg (nI_ge he (by omega)), if_pos j1, gn_nI (by omega), q11, eP]
    cases cl : (aV A 54).2.1 e with
    | false =>
      have hl : lk A (aV A 54) a e = false := by unfold lk; rw [cl]; rfl
      rw [if_pos b2i_f, hl]
      refine ⟨_, rfl, W, by rw [nI_1]; simp, g1, g2, g3, fun t ht => ?_, fun q => g5 (by simpa using q)⟩
      rw [g4 t ht]
      by_cases c : t = e
      · subst c
        rw [if_neg (by omega), if_pos (by omega)]
        unfold erL
        rw [cl]
        rfl
      · by_cases c2 : t < e
        · rw [if_pos c2, if_pos (by omega)]
        · rw [if_neg c2, if_neg (by omega)]
    | true =>
      rw [if_neg (by decide), if_pos j1, q2]
      by_cases ck : aE A 0 e = a
      · have hl : lk A (aV A 54) a e = true := by unfold lk; rw [cl]; simp [ck]
        rw [if_pos ck, if_pos j1, gB_b, hl, nI_1, nI_1]
        refine ⟨_, rfl, W.w 11 e 0, by simp; rfl, g1.w (Or.inr rfl), by rw [gX.w_ne (by decide)]; exact g2, g3, fun t ht => ?_, fun q => absurd q (by simp)⟩
        by_cases c : t = e
        · subst c
          rw [w_same rfl, if_pos (by omega)]
          unfold erL
          rw [cl]
          simp [ck, b2i]
        · rw [w_oth (Or.inr c), g4 t ht]
          by_cases c2 : t < e
          · rw [if_pos c2, if_pos (by omega)]
          · rw [if_neg c2, if_neg (by omega)]
      · have hl : lk A (aV A 54) a e = false := by unfold lk; rw [cl]; simp [ck]
        rw [if_neg ck, hl]
        refine ⟨_, rfl, W, by rw [nI_1]; simp, g1, g2, g3, fun t ht => ?_, fun q => g5 (by simpa using q)⟩
        rw [g4 t ht]
        by_cases c : t = e
        · subst c
          rw [if_neg (by omega), if_pos (by omega)]
          unfold erL
          rw [cl]
          simp [ck]
        · by_cases c2 : t < e
          · rw [if_pos c2, if_pos (by omega)]
          · rw [if_neg c2, if_neg (by omega)]
  · obtain ⟨W, rfl, g1, g2, g3, g4, g5⟩ := hI
    show ∃ r, f_Le_erase_8 W a (nI (cnt (lk A (aV A 54) a) 0 (dc A))) (nI (dc A)) = _ ∧ _
    unfold f_Le_erase_8
    rw [g1.1 1 (by omega) (by omega), f5, if_pos (nI_le (Nat.le_refl _) (by omega))]
    refine hP W (RC_V54 hC g1 (fun _ => ⟨by rw [g2]; exact hCV.1, by rw [g2]; exact hCV.2.1, fun i x hx => by rw [g3]; exact hCV.2.2.1 i x hx, fun t ht => ?_⟩)) (g1.C (by omega)) g5
    rw [show 8 + 3 = 11 from rfl, g4 t ht]
    by_cases c : t < dc A
    · rw [if_pos c]
    · rw [if_neg c, hz t (by omega)]
      show b2i false = b2i (erL A a t)
      unfold erL
      rw [hz t (by omega)]
      rfl
def s60 (a : Nat) : Bool := decide (a = 60 ∨ a = 79)
theorem z_ersLoop {X : gX} {A : zA} {a : Int32} (h : RM X A) (hB : VB (aD A) (aV A 54)) (hdoc : ∀ e, e ∈ fl (aD A) (aV A 54).1 → e < 4096) (h5 : aS A 5 = nI (dc A)) (h23 : aS A 23 = nI (bf A)) (hd : dc A ≤ 4096) (hbd : bf A ≤ dc A) (P : gR × gX → Prop) (hP : ∀ Y, RM Y (aErs A a) → frM X Y → Y.I 46 0 = X.I 46 0 → ∃ r, gCv (f_Ve_tidy Y 54) (fun X9 => gCi (f_Mo_finished X9 (nI ((fl (aD A) (aV A 54).1).countP (lk A (aV A 54) a) + cnt (lk A (aV A 54) a) (dc A - bf A) (bf A))) 2) (fun x10 X10 => gLf (some (gR.i x10, X10)))) = some ((Sum.inr r : (gX × Int32 × Int32) ⊕ (gR × gX))) ∧ P r) : ∃ r, gI (fun s : gX × Int32 × Int32 => f_Mo_erase_31 s.1 a s.2.1 s.2.2) gK (X, 0, 0) = some r ∧ P r := by
  have hV := RM_V h 54 rfl
  have hb2 := hB.2.1
  have e23 : X.I 46 23 = nI (bf A) := (RM_S h 23 (by decide) (by decide) (by decide)).trans h23
  have vfr : ∀ Z, frI s60 X Z → f_Ve_docs Z 54 = some (gR.i (nI (fl (aD A) (aV A 54).1).length), Z) := fun Z hZ => by
    have q1 := hB.1
    rw [s_Ve_docs (g := (aV A 54).1.length) (by rw [hZ.1 54 (by decide)]; exact hV.1.1) (by omega), hZ.1 (54 + 3) (by decide), hV.2.2.1 _ (Nat.le_refl _), off_end]
  refine gI_inv (body := fun s : gX × Int32 × Int32 => f_Mo_erase_31 s.1 a s.2.1 s.2.2) (fun i s => ∃ Z, s = (Z, nI (((fl (aD A) (aV A 54).1).take i).countP (lk A (aV A 54) a)), nI i) ∧ frI s60 X Z ∧ Z.I 79 = X.I 79 ∧ ∀ t d, (fl (aD A) (aV A 54).1)[t]? = some d → Z.I 60 t = if t < i then b2i (erL A a d) else b2i ((aV A 54).2.1 d)) P (fl (aD A) (aV A 54).1).length (by omega) (s0 := (X, 0, 0)) ⟨X, rfl, frI.rf, rfl, fun t d hd => by rw [if_neg (by omega)]; exact hl_m (g := fun d => b2i ((aV A 54).2.1 d)) hV.2.2.2.2.1 hd⟩ (fun i s hi hI => ?_) (fun s hI => ?_)
  · obtain ⟨Z, rfl, g1, g2, g3⟩ := hI
    show ∃ s', f_Mo_erase_31 Z a (nI (((fl (aD A) (aV A 54).1).take i).countP (lk A (aV A 54) a))) (nI i) = _ ∧ _
    obtain ⟨d, hdi⟩ := vs_at hi
    have hd4 := hdoc d (vs_mem hdi)
    have j1 : gIn (nI i) 4096 = true := gIn_nI (by omega) (by omega)
    have q60 : Z.I 60 i = b2i ((aV A 54).2.1 d) := by rw [g3 i d hdi, if_neg (by omega)]
    have q59 : Z.I 59 i = nI d := by rw [g1.1 59 (by decide)]; exact hl_m hV.2.2.2.1 hdi
    have q47 : Z.I 47 d = aE A 0 d := by rw [g1.1 47 (by decide), h.2.1.1]
    have eP : ((fl (aD A) (aV A 54).1).take (i + 1)).countP (lk A (aV A 54) a) = ((fl (aD A) (aV A 54).1).take i).countP (lk A (aV A 54) a) + if lk A (aV A 54) a d = true then 1 else 0 := by
      rw [List.take_add_one, hdi, List.countP_append]
      simp [List.countP_cons]
    have rest : ∀ (U : gX), (∀ t, t ≠ i → U.I 60 t = Z.I 60 t) → U.I 60 i = b2i (erL A a d) → ∀ t d', (fl (aD A) (aV A 54).1)[t]? = some d' → U.I 60 t = if t < i + 1 then b2i (erL A a d') else b2i ((aV A 54).2.1 d') := fun U u1 u2 t d' hd' => by
      by_cases c : t = i
      · subst c
        rw [u2, if_pos (by omega), Option.some.inj (hd'.symm.trans hdi)]
      · rw [u1 t c, g3 t d' hd']
        by_cases c2 : t < i
        · rw [if_pos c2, if_pos (by omega)]
        · rw [if_neg c2, if_neg (by omega)]
    unfold f_Mo_erase_31 f_Mo_erase_88
    rw [vfr Z g1, gCi_i, if_neg (nI_ge hi (by omega)), if_pos j1, gn_nI (by omega), q60, eP]
    cases cl : (aV A 54).2.1 d with
    | false =>
      have hl9 : lk A (aV A 54) a d = false := by unfold lk; rw [cl]; rfl
      rw [if_pos b2i_f, hl9]
      refine ⟨_, rfl, Z, by rw [nI_1]; simp, g1, g2, rest Z (fun _ _ => rfl) ?_⟩
      rw [q60]
      unfold erL
      rw [cl]
      rfl
    | true =>
      rw [if_neg (by decide), if_pos j1, q59, if_pos (gIn_nI hd4 (by omega)), gn_nI (by omega), q47]
      by_cases ck : aE A 0 d = a
      · have hl9 : lk A (aV A 54) a d = true := by unfold lk; rw [cl]; simp [ck]
        rw [if_pos ck, if_pos j1, gB_b, hl9, nI_1, nI_1]
        refine ⟨_, rfl, Z.w 60 i 0, by simp; rfl, g1.w (by decide), by rw [gX.w_ne (by decide)]; exact g2, rest _ (fun t ht => w_oth (Or.inr ht)) ?_⟩
        rw [w_same rfl]
        unfold erL
        rw [cl]
        simp [ck, b2i]
      · have hl9 : lk A (aV A 54) a d = false := by unfold lk; rw [cl]; simp [ck]
        rw [if_neg ck, hl9]
        refine ⟨_, rfl, Z, by rw [nI_1]; simp, g1, g2, rest Z (fun _ _ => rfl) ?_⟩
        rw [q60]
        unfold erL
        rw [cl]
        simp [ck]
  · obtain ⟨Z, rfl, g1, g2, g3⟩ := hI
    rw [List.take_length]
    show ∃ r, f_Mo_erase_31 Z a (nI ((fl (aD A) (aV A 54).1).countP (lk A (aV A 54) a))) (nI (fl (aD A) (aV A 54).1).length) = _ ∧ _
    unfold f_Mo_erase_31
    rw [vfr Z g1, gCi_i, if_pos (nI_le (Nat.le_refl _) (by omega))]
    have z23 : ∀ U, frI s60 X U → U.I 46 23 = nI (bf A) := fun U hU => by rw [hU.1 46 (by decide)]; exact e23
    have key := gI_inv (body := fun s : gX × Int32 × Int32 => f_Mo_erase_96 s.1 a s.2.1 s.2.2) (fun i s => ∃ U, s = (U, nI ((fl (aD A) (aV A 54).1).countP (lk A (aV A 54) a) + cnt (lk A (aV A 54) a) (dc A - bf A) i), nI i) ∧ frI s60 X U ∧ U.I 60 = Z.I 60 ∧ ∀ t, t < bf A → U.I 79 t = if t < i then b2i (erL A a (dc A - bf A + t)) else b2i ((aV A 54).2.1 (dc A - bf A + t))) P (bf A) (by omega) (s0 := (Z, nI ((fl (aD A) (aV A 54).1).countP (lk A (aV A 54) a)), 0)) ⟨Z, rfl, g1, rfl, fun t ht => by rw [if_neg (by omega), g2]; exact (h.2.2.2.2.1 t ht).2⟩ (fun i s hi hI => by
      obtain ⟨U, rfl, u1, u2, u3⟩ := hI
      show ∃ s', f_Mo_erase_96 U a (nI ((fl (aD A) (aV A 54).1).countP (lk A (aV A 54) a) + cnt (lk A (aV A 54) a) (dc A - bf A) i)) (nI i) = _ ∧ _
      have j1 : gIn (nI i) 4096 = true := gIn_nI (by omega) (by omega)
      have q79 : U.I 79 i = b2i ((aV A 54).2.1 (dc A - bf A + i)) := by rw [u3 i hi, if_neg (by omega)]
      have q78 : U.I 78 i = nI (dc A - bf A + i) := by rw [u1.1 78 (by decide)]; exact (h.2.2.2.2.1 i hi).1
      have q47 : U.I 47 (dc A - bf A + i) = aE A 0 (dc A - bf A + i) := by rw [u1.1 47 (by decide), h.2.1.1]
      have eP : cnt (lk A (aV A 54) a) (dc A - bf A) (i + 1) = cnt (lk A (aV A 54) a) (dc A - bf A) i + if lk A (aV A 54) a (dc A - bf A + i) = true then 1 else 0 := rfl
      have rest : ∀ (W : gX), (∀ t, t ≠ i → W.I 79 t = U.I 79 t) → W.I 79 i = b2i (erL A a (dc A - bf A + i)) → ∀ t, t < bf A → W.I 79 t = if t < i + 1 then b2i (erL A a (dc A - bf A + t)) else b2i ((aV A 54).2.1 (dc A - bf A + t)) := fun W w1 w2 t ht => by
        by_cases c : t = i
        · subst c
          rw [w2, if_pos (by omega)]
        · rw [w1 t c, u3 t ht]
          by_cases c2 : t < i
          · rw [if_pos c2, if_pos (by omega)]
          · rw [if_neg c2, if_neg (by omega)]
      unfold f_Mo_erase_96 f_Mo_erase_141
      rw [z23 U u1, if_neg (nI_ge hi (by omega)), if_pos j1, gn_nI (by omega), q79, eP, ← Nat.add_assoc]
      cases cl : (aV A 54).2.1 (dc A - bf A + i) with
      | false =>
        have hl9 : lk A (aV A 54) a (dc A - bf A + i) = false := by unfold lk; rw [cl]; rfl
        rw [if_pos b2i_f, hl9]
        refine ⟨_, rfl, U, by rw [nI_1]; simp, u1, u2, rest U (fun _ _ => rfl) ?_⟩
        rw [q79]
        unfold erL
        rw [cl]
        rfl
      | true =>
        rw [if_neg (by decide), if_pos j1, q78, if_pos (gIn_nI (by omega) (by omega)), gn_nI (by omega), q47]
        by_cases ck : aE A 0 (dc A - bf A + i) = a
        · have hl9 : lk A (aV A 54) a (dc A - bf A + i) = true := by unfold lk; rw [cl]; simp [ck]
          rw [if_pos ck, if_pos j1, gB_b, hl9, nI_1, nI_1]
          refine ⟨_, rfl, U.w 79 i 0, by simp; rfl, u1.w (by decide), by rw [gX.w_ne (by decide)]; exact u2, rest _ (fun t ht => w_oth (Or.inr ht)) ?_⟩
          rw [w_same rfl]
          unfold erL
          rw [cl]
          simp [ck, b2i]
        · have hl9 : lk A (aV A 54) a (dc A - bf A + i) = false := by unfold lk; rw [cl]; simp [ck]
          rw [if_neg ck, hl9]
          refine ⟨_, rfl, U, by rw [nI_1]; simp, u1, u2, rest U (fun _ _ => rfl) ?_⟩
          rw [q79]
          unfold erL
          rw [cl]
          simp [ck]) (fun s hI => by
      obtain ⟨U, rfl, u1, u2, u3⟩ := hI
      show ∃ r, f_Mo_erase_96 U a (nI ((fl (aD A) (aV A 54).1).countP (lk A (aV A 54) a) + cnt (lk A (aV A 54) a) (dc A - bf A) (bf A))) (nI (bf A)) = _ ∧ _
      unfold f_Mo_erase_96
      rw [z23 U u1, if_pos (nI_le (Nat.le_refl _) (by omega))]
      have fr : ∀ b, b ≠ 60 → b ≠ 79 → U.I b = X.I b := fun b b1 b2 => u1.1 b (by simp only [s60, decide_eq_false_iff_not]; omega)
      refine hP U ⟨mS_fr h.1 (fr 46 (by decide) (by decide)), mE_fr (A := aErs A a) h.2.1 (fr 47 (by decide) (by decide)) (fr 48 (by decide) (by decide)) (fr 49 (by decide) (by decide)), mT_fr h.2.2.1 (by rw [fr 46 (by decide) (by decide)]) (fr 50 (by decide) (by decide)) (fr 51 (by decide) (by decide)) (fr 52 (by decide) (by decide)), fun n hn => ?_, fun t ht => ?_, mM_fr (A := aErs A a) h.2.2.2.2.2 (fun b b1 b2 => fr b (by omega) (by omega)) (fun b b1 b2 => fr b (by omega) (by omega)) (by rw [u1.2.1])⟩ (frM.of u1 (fun b hb => by simp only [s60, decide_eq_true_eq] at hb; omega)) (by rw [fr 46 (by decide) (by decide)])
      · by_cases c : n = 54
        · subst c
          show VR U.I 54 (aD A) (aL A) ((aV A 54).1, erL A a, (aV A 54).2.2)
          refine ⟨?_, ⟨?_, ?_, ?_⟩, fun s hs => ?_, ?_, hl_mk (fun t d hd => ?_), ?_⟩
          · rw [fr 54 (by decide) (by decide)]; exact hV.1
          · rw [fr (54 + 1) (by decide) (by decide)]; exact hV.2.1.1
          · rw [fr (54 + 2) (by decide) (by decide)]; exact hV.2.1.2.1
          · rw [fr (54 + 4) (by decide) (by decide)]; exact hV.2.1.2.2
          · rw [fr (54 + 3) (by decide) (by decide)]; exact hV.2.2.1 s hs
          · rw [fr (54 + 5) (by decide) (by decide)]; exact hV.2.2.2.1
          · rw [show 54 + 6 = 60 from rfl, u2, g3 t d hd, if_pos (vs_lt hd)]
          · rw [fr (54 + 7) (by decide) (by decide)]; exact hV.2.2.2.2.2
        · have hr : n = 62 ∨ n = 70 ∨ 84 ≤ n := by
            unfold gVer at hn
            simp only [decide_eq_true_eq, List.mem_cons, List.mem_nil_iff, or_false] at hn
            omega
          show VR U.I n (aD A) (aL A) (if n = 54 then _ else aV A n)
          rw [if_neg c]
          have hrg := gVer_range hn
          exact VR_fr (h.2.2.2.1 n hn) (fun b b1 b2 => fr b (by omega) (by omega))
      · rw [fr 78 (by decide) (by decide)]
        have q := h.2.2.2.2.1 t ht
        refine ⟨q.1, ?_⟩
        show U.I 79 t = b2i (erL A a (dc A - bf A + t))
        rw [u3 t ht, if_pos (show t < bf A from ht)])
    obtain ⟨r, k1, k2⟩ := key
    rw [k1, gLf_s]
    exact ⟨r, rfl, k2⟩
theorem KK_tdy {A : zA} (h : KK A) : KK (aTdy A) := KK_sub h id rfl rfl rfl rfl (fun _ q => q) (fun x hx => ⟨x, (List.mem_filter.mp hx).1, rfl, rfl⟩) rfl
theorem KK_ers {A : zA} {a : Int32} (h : KK A) : KK (aErs A a) := KK_sub h id rfl rfl rfl rfl (fun _ q => q) (fun x hx => ⟨x, hx, rfl, rfl⟩) rfl
theorem L_erase {X : gX} {k : Nat} {a : Int32} (h : JJ X k) (hk : k < 600) : LI (f_Lw_erase X a) (fun Y => f_Mo_erase Y a) k := by
  obtain ⟨A, nm, hM, hC, hI, h0, hK⟩ := h
  have lim := RC_lim hC (by omega)
  by_cases o : aS A 18 = 0
  · refine LI_ref (p := 1) (e := 2) (v := 0) (by omega) hM hC hI h0 hK ?_ (fun Y hY hY0 => ?_)
    · unfold f_Lw_erase f_Le_erase f_Le_requireWriter
      rw [cS_18 hC.1, if_pos o, gCvt_t, gCit_t, if_pos rfl, if_pos lim]
      rfl
    · show f_Mo_erase Y a = _
      unfold f_Mo_erase f_Mo_erase_13
      rw [RM_S hY 18 (by decide) (by decide) (by decide), if_pos o, s_wrong1 hY0 (by decide), gCi_i, if_neg (by decide), z_done_2_2 (w_same rfl), gCi_i]
  · have hI1 := Inv_mono hI (Nat.le_succ k)
    have hm := Mid0_of hI1 o
    have hme := Mid0_ers (a := a) hm
    have hd : dc A ≤ 4096 := hI.1.1.1.2
    have hbd : bf A ≤ dc A := hI.1.1.2.1.2
    obtain ⟨⟨w1, w1'⟩, -⟩ := hI.2.2.2.1 o
    obtain ⟨v1, v2, v3⟩ := VB_of w1 (show dc A - bf A ≤ 4096 by omega)
    have hz : ∀ e, dc A ≤ e → (aV A 54).2.1 e = false := fun e he => by
      cases c : (aV A 54).2.1 e with
      | false => rfl
      | true =>
        rcases w1' e c with q | q
        · have := v3 e q; omega
        · omega
    have hcl := C_ersLoop (a := a) hC o hI.1.1.1.1 hd hz (fun r => ∃ Z, r = (gR.i (nI (cnt (lk A (aV A 54) a) 0 (dc A))), Z) ∧ RC Z (aTf (aTdy (aErs A a))) nm k ∧ frC X Z) (fun Y y1 y2 y3 => by
      have hle := cnt_le (p := lk A (aV A 54) a) (s := 0) (dc A)
      by_cases c : cnt (lk A (aV A 54) a) 0 (dc A) = 0
      · rw [if_pos (by rw [c]; decide)]
        refine ⟨_, rfl, Y, rfl, ?_, y2⟩
        have : ∀ e, lk A (aV A 54) a e = false := fun e => by
          by_cases ce : e < dc A
          · have := cnt_0i _ c e ce
            rw [Nat.zero_add] at this
            exact this
          · unfold lk
            rw [hz e (by omega)]
            rfl
        rw [ers_id hI o this, y3 c]
        exact hC
      · rw [if_neg (nI_nle (by omega) (by omega))]
        obtain ⟨U, V, u1, u2, u3, u4⟩ := C_tidy2 y1 hme (by omega) (by omega)
        rw [u1, gCv_v, u2, gCv_v]
        exact ⟨_, rfl, V, rfl, u3, y2.tr u4⟩)
    obtain ⟨r, r1, Z, rfl, r3, r4⟩ := hcl
    have hsum : cnt (lk A (aV A 54) a) 0 (dc A) = (fl (aD A) (aV A 54).1).countP (lk A (aV A 54) a) + cnt (lk A (aV A 54) a) (dc A - bf A) (bf A) := by
      have q := cnt_add (p := lk A (aV A 54) a) (s := 0) (a := dc A - bf A) (bf A)
      rw [show dc A - bf A + bf A = dc A by omega, Nat.zero_add] at q
      rw [q]
      congr 1
      exact cnt_list v2 (fun e he => by have := v3 e he; omega) (fun e _ h2 he => by
        have he' : (aV A 54).2.1 e = true := by unfold lk at he; simp only [Bool.and_eq_true] at he; exact he.1
        rcases w1' e he' with q | q
        · exact q
        · omega)
    have hMZ : RM (Z.w 116 0 (nI (cnt (lk A (aV A 54) a) 0 (dc A)))) A := RM_frC hM (r4.w (by omega))
    have e0 : (Z.w 116 0 (nI (cnt (lk A (aV A 54) a) 0 (dc A)))).I 46 0 = 0 := by rw [gX.w_ne (by decide), r4.1 46 (by omega)]; exact h0
    have hp := Pre_tdy hme
    have hml := z_ersLoop (a := a) hMZ v1 (fun e he => by have := v3 e he; omega) hI.1.1.1.1 hI.1.1.2.1.1 hd hbd (fun r => ∃ U, r = (gR.i (nI (cnt (lk A (aV A 54) a) 0 (dc A))), Xd U 0) ∧ RM (Xd U 0) (aTf (aTdy (aErs A a))) ∧ frM (Z.w 116 0 (nI (cnt (lk A (aV A 54) a) 0 (dc A)))) (Xd U 0)) (fun Y y1 y2 y3 => by
      obtain ⟨W, w1, w2, w3, w4⟩ := z_tdy y1 (show VB (aD A) ((aV A 54).1, erL A a, (aV A 54).2.2) from v1)
      obtain ⟨U, u1, u2, u3⟩ := z_finT (v := nI (cnt (lk A (aV A 54) a) 0 (dc A))) (v' := nI (cnt (lk A (aV A 54) a) 0 (dc A))) (L := 2) (p := 0) w2 hp (fun V hV => z_done_2_0 (hV.trans (w4.trans (y3.trans e0))))
      rw [w1, gCv_v, ← hsum, u1, gCi_i, gLf_s]
      exact ⟨_, rfl, U, rfl, u2, (y2.tr w3).tr u3⟩)
    obtain ⟨r', s1, U, rfl, s3, s4⟩ := hml
    refine LI_ok (X := X) (Y := X) (Y0 := Z) ?_ r3 (Z := U) ?_ s3 s4 (Inv_tf hp) (KK_tf (KK_tdy (KK_ers hK)))
    · unfold f_Lw_erase f_Le_erase f_Le_requireWriter
      rw [cS_18 hC.1, if_neg o, gCvt_v, r1, gCit_i, gB_b]
    · show f_Mo_erase _ a = _
      unfold f_Mo_erase f_Mo_erase_13
      rw [RM_S hMZ 18 (by decide) (by decide) (by decide), if_neg o, s_wrong0 e0, gCi_i, if_pos rfl, s1]
