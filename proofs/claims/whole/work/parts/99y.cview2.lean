/-! THE PURE SIDE: the class's views, what is asked of them -/
def sm1 (V U : zV) : Bool := decide (V.1.length = U.1.length) && (decide (V.2.2.2.1 = U.2.2.2.1) && decide (∀ i, i < V.1.length → (V.1[i]?).map Prod.fst = (U.1[i]?).map Prod.fst))
def smE (n : Nat) (V U : zV) : Bool := (List.range n).all (fun e => V.2.1 e == U.2.1 e)
theorem smE_iff {n : Nat} {V U : zV} : smE n V U = true ↔ ∀ e, e < n → V.2.1 e = U.2.1 e := by
  unfold smE
  rw [List.all_eq_true]
  constructor
  · intro h e he
    have := h e (List.mem_range.mpr he)
    simpa using this
  · intro h e he
    have := h e (List.mem_range.mp he)
    simp [this]
def smV (V U : zV) : Bool := sm1 V U && smE 4096 V U
theorem C_same {X : gX} {v u : Nat} {nm : Nat → Nat} {V U : zV} {T : List zF} {H : zH} (h : CV X v nm V) (h' : CV X u nm U) (hT : cT X T nm H) (hb : TB T) (hl : V.1.length ≤ 4096) (hl' : U.1.length ≤ 4096) (hv : ∀ x, x ∈ V.1 → hav T x.1) (hu : ∀ x, x ∈ U.1 → hav T x.1) : f_Vi_isSameAs X v u = some (gR.i (b2i (smV V U)), X) := by
  unfold f_Vi_isSameAs f_Vi_isSameAs_22 smV sm1
  rw [h.1, h'.1, h.2.1, h'.2.1]
  by_cases c1 : V.1.length = U.1.length
  · rw [if_pos (by rw [c1])]
    by_cases c2 : V.2.2.2.1 = U.2.2.2.1
    · rw [if_pos c2]
      have key := gI_ex (body := fun s : Int32 => f_Vi_isSameAs_26 X v u s) (fun k => nI k) (fun k => decide (¬ (V.1[k]?).map Prod.fst = (U.1[k]?).map Prod.fst)) (fun _ => (gR.i 0, X)) (gR.i (b2i (smE 4096 V U)), X) V.1.length (by omega) (fun k hk hp => ?_) (fun k hk hp => ?_) ?_ (s0 := 0) rfl
      · rcases key with ⟨k, hk, hp, -, e⟩ | ⟨hp, e⟩
        · rw [e]
          have : decide (∀ i, i < V.1.length → (V.1[i]?).map Prod.fst = (U.1[i]?).map Prod.fst) = false := by
            rw [decide_eq_false_iff_not]
            intro q
            exact (of_decide_eq_true hp) (q k hk)
          rw [this]
          simp [b2i]
        · rw [e]
          have : decide (∀ i, i < V.1.length → (V.1[i]?).map Prod.fst = (U.1[i]?).map Prod.fst) = true := by
            rw [decide_eq_true_eq]
            intro i hi
            have q := hp i hi
            rw [decide_eq_false_iff_not] at q
            exact Classical.not_not.mp q
          rw [this]
          simp [c1, c2]
      · obtain ⟨x, hx⟩ := vs_at hk
        obtain ⟨y, hy⟩ := vs_at (l := U.1) (s := k) (by omega)
        rw [decide_eq_false_iff_not, Classical.not_not, hx, hy] at hp
        have e1 : x.1 = y.1 := Option.some.inj hp
        obtain ⟨x1, -⟩ := h.2.2.1 k x hx
        obtain ⟨y1, -⟩ := h'.2.2.1 k y hy
        have t1 := (cT_at hT hb (hv x (vs_mem hx))).1
        have t2 := (cT_at hT hb (hu y (vs_mem hy))).1
        show f_Vi_isSameAs_26 X v u (nI k) = _
        unfold f_Vi_isSameAs_26
        have j1 : gIn (nI k) 4096 = true := gIn_nI (by omega) (by omega)
        rw [h.1, if_neg (nI_ge (by omega) (by omega))]
        simp only [j1, if_true, gn_nI (show k < 2 ^ 31 by omega), x1, y1, gOf, t1, t2, Bool.and_self, e1, nI_1]
      · obtain ⟨x, hx⟩ := vs_at hk
        obtain ⟨y, hy⟩ := vs_at (l := U.1) (s := k) (by omega)
        rw [decide_eq_true_eq, hx, hy] at hp
        have e1 : ¬ x.1 = y.1 := fun q => hp (congrArg some q)
        obtain ⟨x1, -⟩ := h.2.2.1 k x hx
        obtain ⟨y1, -⟩ := h'.2.2.1 k y hy
        have t1 := (cT_at hT hb (hv x (vs_mem hx))).1
        have t2 := (cT_at hT hb (hu y (vs_mem hy))).1
        have e2 : ¬ some (nm x.1) = some (nm y.1) := fun q => e1 (cT_inj hT (hv x (vs_mem hx)) (hu y (vs_mem hy)) (Option.some.inj q))
        show f_Vi_isSameAs_26 X v u (nI k) = _
        unfold f_Vi_isSameAs_26
        have j1 : gIn (nI k) 4096 = true := gIn_nI (by omega) (by omega)
        rw [h.1, if_neg (nI_ge (by omega) (by omega))]
        simp only [j1, if_true, gn_nI (show k < 2 ^ 31 by omega), x1, y1, gOf, t1, t2, Bool.and_self, if_neg e2, gLf_s]
      · show f_Vi_isSameAs_26 X v u (nI V.1.length) = _
        unfold f_Vi_isSameAs_26
        rw [h.1, if_pos (nI_le (Nat.le_refl _) (by omega))]
        have key2 := gI_ex (body := fun s : Int32 => f_Vi_isSameAs_59 X v u s) (fun k => nI k) (fun e => decide (¬ V.2.1 e = U.2.1 e)) (fun _ => (gR.i 0, X)) (gR.i 1, X) 4096 (by omega) (fun k hk hp => ?_) (fun k hk hp => ?_) ?_ (s0 := 0) rfl
        · rcases key2 with ⟨k, hk, hp, -, e⟩ | ⟨hp, e⟩
          · rw [e]
            have : smE 4096 V U = false := by
              rw [← Bool.not_eq_true]
              intro q
              exact (of_decide_eq_true hp) (smE_iff.mp q k hk)
            rw [this]
            rfl
          · rw [e]
            have : smE 4096 V U = true := by
              rw [smE_iff]
              intro i hi
              have q := hp i hi
              rw [decide_eq_false_iff_not] at q
              exact Classical.not_not.mp q
            rw [this]
            rfl
        · rw [decide_eq_false_iff_not, Classical.not_not] at hp
          show f_Vi_isSameAs_59 X v u (nI k) = _
          unfold f_Vi_isSameAs_59
          have j1 : gIn (nI k) 4096 = true := gIn_nI (by omega) (by omega)
          rw [if_neg (n4096_ge hk)]
          simp only [j1, if_true, gn_nI (show k < 2 ^ 31 by omega), h.2.2.2 k hk, h'.2.2.2 k hk, hp, nI_1]
        · rw [decide_eq_true_eq] at hp
          show f_Vi_isSameAs_59 X v u (nI k) = _
          unfold f_Vi_isSameAs_59
          have j1 : gIn (nI k) 4096 = true := gIn_nI (by omega) (by omega)
          rw [if_neg (n4096_ge hk)]
          simp only [j1, if_true, gn_nI (show k < 2 ^ 31 by omega), h.2.2.2 k hk, h'.2.2.2 k hk, if_neg (fun q => hp (b2i_in q)), gLf_s]
        · show f_Vi_isSameAs_59 X v u (nI 4096) = _
          unfold f_Vi_isSameAs_59
          rw [if_pos (by decide)]
          rfl
    · rw [if_neg c2]
      simp [c2, b2i]
  · rw [if_neg (fun q => c1 ((nI_eq (by omega) (by omega)).mp q))]
    simp [c1, b2i]
/-- a file of the commit was harmed -/
theorem C_harmed {X : gX} {c : Nat} {nm : Nat → Nat} {V : zV} {T : List zF} {H : zH} (h : CV X c nm V) (ho : X.G c 3 = some (nm V.2.2.1)) (hT : cT X T nm H) (hb : TB T) (hl : V.1.length ≤ 4096) (hv : hvV true T V) (hw : hav T V.2.2.1) : f_Vi_hasHarmedFile X c = some (gR.i (b2i (hrm T V.2.2.1 || V.1.any (corS T))), X) := by
  unfold f_Vi_hasHarmedFile
  obtain ⟨o1, -, -, o3, -, -, -⟩ := cT_at hT hb hw
  have key := gI_ex (body := fun s : Int32 => f_Vi_hasHarmedFile_2 X c s) (fun k => nI k) (fun k => match V.1[k]? with | none => false | some x => corS T x) (fun _ => (gR.i 1, X)) (gR.i (b2i (hrm T V.2.2.1)), X) V.1.length (by omega) (fun k hk hp => ?_) (fun k hk hp => ?_) ?_ (s0 := 0) rfl
  · rcases key with ⟨k, hk, hp, -, e⟩ | ⟨hp, e⟩
    · rw [e]
      obtain ⟨x, hx⟩ := vs_at hk
      have : V.1.any (corS T) = true := by
        rw [List.any_eq_true]
        refine ⟨x, vs_mem hx, ?_⟩
        simpa [hx] using hp
      rw [this, Bool.or_true]
      rfl
    · rw [e]
      have : V.1.any (corS T) = false := by
        rw [List.any_eq_false]
        intro x hx
        obtain ⟨k, hk⟩ := List.getElem?_of_mem hx
        have := hp k (vs_lt hk)
        simp only [hk] at this
        simp [this]
      rw [this, Bool.or_false]
  · obtain ⟨x, hx⟩ := vs_at hk
    simp only [hx] at hp
    unfold corS at hp
    obtain ⟨hp1, hp2⟩ := Bool.or_eq_false_iff.mp hp
    obtain ⟨q1, q2⟩ := hv x (vs_mem hx)
    obtain ⟨s1, -, -, s3, -, -, -⟩ := cT_at hT hb q1
    obtain ⟨r1, r2⟩ := h.2.2.1 k x hx
    show f_Vi_hasHarmedFile_2 X c (nI k) = _
    unfold f_Vi_hasHarmedFile_2 f_Vi_hasHarmedFile_45
    have j1 : gIn (nI k) 4096 = true := gIn_nI (by omega) (by omega)
    rw [h.1, if_neg (nI_ge (by omega) (by omega))]
    simp only [j1, if_true, gn_nI (show k < 2 ^ 31 by omega), r1, r2, gM_s, s1, s3, hp1, b2i_f]
    cases hl2 : x.2.1 with
    | none => rw [Option.map_none, gO_n, nI_1]
    | some l =>
      obtain ⟨t1, -, -, t3, -, -, -⟩ := cT_at hT hb (q2 rfl l hl2)
      rw [hl2] at hp2
      have hp3 : hrm T l = false := hp2
      rw [Option.map_some, gO_s, gM_s, if_pos t1, t3, hp3, if_pos b2i_f, nI_1]
  · obtain ⟨x, hx⟩ := vs_at hk
    simp only [hx] at hp
    unfold corS at hp
    obtain ⟨q1, q2⟩ := hv x (vs_mem hx)
    obtain ⟨s1, -, -, s3, -, -, -⟩ := cT_at hT hb q1
    obtain ⟨r1, r2⟩ := h.2.2.1 k x hx
    show f_Vi_hasHarmedFile_2 X c (nI k) = _
    unfold f_Vi_hasHarmedFile_2 f_Vi_hasHarmedFile_43
    have j1 : gIn (nI k) 4096 = true := gIn_nI (by omega) (by omega)
    rw [h.1, if_neg (nI_ge (by omega) (by omega))]
    simp only [j1, if_true, gn_nI (show k < 2 ^ 31 by omega), r1, r2, gM_s, s1, s3]
    cases c1 : hrm T x.1 with
    | true =>
      rw [if_neg (by decide)]
      rfl
    | false =>
      rw [c1, Bool.false_or] at hp
      rw [if_pos b2i_f]
      cases hl2 : x.2.1 with
      | none =>
        rw [hl2] at hp
        exact absurd hp (by simp [hrO])
      | some l =>
        obtain ⟨t1, -, -, t3, -, -, -⟩ := cT_at hT hb (q2 rfl l hl2)
        rw [hl2] at hp
        have hp3 : hrm T l = true := hp
        rw [Option.map_some, gO_s, gM_s, if_pos t1, t3, hp3, if_neg (by decide)]
        rfl
  · show f_Vi_hasHarmedFile_2 X c (nI V.1.length) = _
    unfold f_Vi_hasHarmedFile_2 f_Vi_hasHarmedFile_72
    rw [h.1, if_pos (nI_le (Nat.le_refl _) (by omega)), ho, gO_s, gM_s, if_pos o1, o3]
    cases hrm T V.2.2.1 with
    | false => rw [if_pos b2i_f]; rfl
    | true => rw [if_neg (by decide)]; rfl
theorem C_entries {X : gX} {v d w : Nat} {nm : Nat → Nat} {V : zV} {T : List zF} {H : zH} (h : CV X v nm V) (hT : cT X T nm H) (hb : TB T) (hi : VI H d w V) (hd : d ≤ 4096) (hv : ∀ x, x ∈ V.1 → hav T x.1) : f_Vi_entriesInSegments X v = some (gR.i (nI (fl H.1 V.1).length), X) := by
  have hB := (VB_of hi hd).1
  have hl := hB.1
  unfold f_Vi_entriesInSegments
  rw [← off_end]
  refine gI_at (fun k => (nI (off H.1 V.1 k), nI k)) V.1.length (gK_lt (by omega)) (fun k hk => ?_) ?_ (by rw [off_0]; rfl)
  · obtain ⟨x, hx⟩ := vs_at hk
    obtain ⟨r1, -⟩ := h.2.2.1 k x hx
    obtain ⟨s1, -, -, -, s4, -, -⟩ := cT_at hT hb (hv x (vs_mem hx))
    show f_Vi_entriesInSegments_4 X v (nI (off H.1 V.1 k)) (nI k) = _
    unfold f_Vi_entriesInSegments_4
    rw [h.1, if_neg (nI_ge (by omega) (by omega)), if_pos (gIn_nI (by omega) (by omega)), gn_nI (by omega), r1, gM_s, if_pos s1, s4, (hi.1 x (vs_mem hx)).1.2.2.2.2, off_s hx, nI_add, nI_1]
  · show f_Vi_entriesInSegments_4 X v (nI (off H.1 V.1 V.1.length)) (nI V.1.length) = _
    unfold f_Vi_entriesInSegments_4
    rw [h.1, if_pos (nI_le (Nat.le_refl _) (by omega))]
    rfl
/-- all is as the list has it -/
def lRt (H : zH) (V : zV) (x : zS) : Bool := (H.1 x.1).all (fun d => V.2.1 d == lsd H.2.1 x.2.1 d)
theorem countP_imp {l : List Nat} {p q : Nat → Bool} (h : ∀ e, e ∈ l → p e = true → q e = true) : (l.countP q = l.countP p) ↔ ∀ e, e ∈ l → p e = q e := by
  induction l with
  | nil => simp
  | cons a l ih =>
    have ih' := ih (fun e he => h e (by simp [he]))
    have hle : l.countP p ≤ l.countP q := List.countP_mono_left (fun e he hp => h e (by simp [he]) hp)
    have ha := h a (by simp)
    rw [List.countP_cons, List.countP_cons]
    cases c1 : p a with
    | true =>
      rw [c1] at ha
      have c2 := ha rfl
      rw [c2]
      simp only [if_true, Nat.add_right_cancel_iff]
      rw [ih']
      constructor
      · intro q1 e he
        rcases List.mem_cons.mp he with rfl | he
        · rw [c1, c2]
        · exact q1 e he
      · intro q1 e he
        exact q1 e (by simp [he])
    | false =>
      cases c2 : q a with
      | true =>
        simp only [if_true, Bool.false_eq_true, if_false, Nat.add_zero]
        constructor
        · intro q1; omega
        · intro q1
          have := q1 a (by simp)
          rw [c1, c2] at this
          exact absurd this (by simp)
      | false =>
        simp only [Bool.false_eq_true, if_false, Nat.add_zero]
        rw [ih']
        constructor
        · intro q1 e he
          rcases List.mem_cons.mp he with rfl | he
          · rw [c1, c2]
          · exact q1 e he
        · intro q1 e he
          exact q1 e (by simp [he])
theorem C_listRight {X : gX} {v d w i : Nat} {nm : Nat → Nat} {V : zV} {T : List zF} {H : zH} {x : zS} (h : CV X v nm V) (hT : cT X T nm H) (hb : TB T) (hi : VI H d w V) (hd : d ≤ 4096) (hc : WC H d V) (hv : hvV true T V) (hx : V.1[i]? = some x) : f_Vi_listIsRight X v (nI i) = some (gR.i (b2i (lRt H V x)), X) := by
  have hB := (VB_of hi hd).1
  have hl := hB.1
  have hlt := vs_lt hx
  obtain ⟨r1, r2⟩ := h.2.2.1 i x hx
  obtain ⟨q1, q2⟩ := hv x (vs_mem hx)
  obtain ⟨v1, v2, v3, v4⟩ := hi.1 x (vs_mem hx)
  have hli := C_liveIn h hT hb q1 v1 hd (VI_cov hi hc (vs_mem hx))
  have hlen : (H.1 x.1).length ≤ 4096 := by
    have a1 := off_s (D := H.1) hx
    have a2 := off_all (D := H.1) (l := V.1) (s := i + 1)
    have a3 := hB.2.1
    omega
  have hcp := List.countP_le_length (p := V.2.1) (l := H.1 x.1)
  obtain ⟨s1, -, -, -, s4, -, -⟩ := cT_at hT hb q1
  unfold f_Vi_listIsRight f_Vi_listIsRight_24
  have j1 : gIn (nI i) 4096 = true := gIn_nI (by omega) (by omega)
  simp only [j1, if_true, gn_nI (show i < 2 ^ 31 by omega), r1, r2, hli, gCi_i]
  cases hl2 : x.2.1 with
  | none =>
    rw [Option.map_none, gO_n, gM_s, if_pos s1, s4, v1.2.2.2.2]
    have e1 : ((H.1 x.1).length = (H.1 x.1).countP V.2.1) ↔ lRt H V x = true := by
      unfold lRt
      rw [hl2, List.all_eq_true]
      have := countP_imp (l := H.1 x.1) (p := V.2.1) (q := fun _ => true) (fun _ _ _ => rfl)
      rw [List.countP_true] at this
      rw [this]
      constructor
      · intro q e he; simpa [lsd] using q e he
      · intro q e he; simpa [lsd] using q e he
    by_cases c : (H.1 x.1).length = (H.1 x.1).countP V.2.1
    · rw [if_pos (by rw [← c]), e1.mp c]
      rfl
    · rw [if_neg (fun q => c ((nI_eq (by omega) (by omega)).mp q))]
      cases c2 : lRt H V x with
      | true => exact absurd (e1.mpr c2) c
      | false => rfl
  | some k =>
    obtain ⟨k1, k2, k3⟩ := v4 k hl2
    obtain ⟨t1, -, -, -, t4, -, -⟩ := cT_at hT hb (q2 rfl k hl2)
    have hcp2 := List.countP_le_length (p := H.2.1 k) (l := H.1 x.1)
    rw [Option.map_some, gO_s, gM_s, if_pos t1, t4, k2]
    have e1 : ((H.1 x.1).countP (H.2.1 k) = (H.1 x.1).countP V.2.1) ↔ lRt H V x = true := by
      unfold lRt
      rw [hl2, List.all_eq_true, countP_imp k3]
      constructor
      · intro q e he; simpa [lsd] using q e he
      · intro q e he; simpa [lsd] using q e he
    by_cases c : (H.1 x.1).countP (H.2.1 k) = (H.1 x.1).countP V.2.1
    · rw [if_pos (by rw [c]), e1.mp c]
      rfl
    · rw [if_neg (fun q => c ((nI_eq (by omega) (by omega)).mp q))]
      cases c2 : lRt H V x with
      | true => exact absurd (e1.mpr c2) c
      | false => rfl
/-- which files are marked as needed -/
def N3 (X : gX) (T : List zF) (nm : Nat → Nat) (p : Nat → Bool) : Prop := ∀ f, f ∈ T → X.I (nm f.1) 3 = b2i (p f.1)
def frN (X Y : gX) : Prop := (∀ a, a < 1000 → Y.I a = X.I a) ∧ (∀ a j, j ≠ 3 → Y.I a j = X.I a j) ∧ Y.G = X.G ∧ gEq X Y
theorem frN.rf {X : gX} : frN X X := ⟨fun _ _ => rfl, fun _ _ _ => rfl, rfl, gEq.rf⟩
theorem frN.tr {X Y Z : gX} (h : frN X Y) (h' : frN Y Z) : frN X Z := ⟨fun a h1 => (h'.1 a h1).trans (h.1 a h1), fun a j h1 => (h'.2.1 a j h1).trans (h.2.1 a j h1), h'.2.2.1.trans h.2.2.1, h.2.2.2.tr h'.2.2.2⟩
theorem frN.w {X Y : gX} {q : Nat} {x : Int32} (h : frN X Y) (hq : 1000 ≤ q) : frN X (Y.w q 3 x) := ⟨fun a h1 => (gX.w_ne (by omega)).trans (h.1 a h1), fun a j h1 => (w_oth (Or.inr h1)).trans (h.2.1 a j h1), h.2.2.1, h.2.2.2.w⟩
theorem frN.C {X Y : gX} (h : frN X Y) : frC X Y := ⟨fun a ha => h.1 a (by omega), by rw [h.2.2.1]⟩
theorem RC_frN {X Y : gX} {A : zA} {nm : Nat → Nat} {k : Nat} (h : RC X A nm k) (e : frN X Y) : RC Y A nm k := RC_fr h (fun a ha => e.1 a (by omega)) (fun a j _ hj => e.2.1 a j hj) (fun a _ => by rw [e.2.2.1]) e.2.2.2
theorem cT_frN {X Y : gX} {T : List zF} {nm : Nat → Nat} {H : zH} (h : cT X T nm H) (e : frN X Y) : cT Y T nm H := cT_fr h (by rw [e.1 6 (by omega)]) (by rw [e.1 7 (by omega)]) (by rw [e.2.2.1]) (by rw [e.2.2.1]) e.2.2.2 (fun a j _ hj => e.2.1 a j hj)
theorem CV_frN {X Y : gX} {v : Nat} {nm : Nat → Nat} {V : zV} (h : CV X v nm V) (e : frN X Y) (hv : v < 900) : CV Y v nm V := CV_fr h (e.1 v (by omega)) (by rw [e.2.2.1]) (by rw [e.2.2.1]) (e.1 _ (by omega))
theorem C_mark {X : gX} {T : List zF} {nm : Nat → Nat} {H : zH} {p : Nat → Bool} {k : Nat} (hT : cT X T nm H) (hb : TB T) (hk : hav T k) (hp : N3 X T nm p) : f_Le_need X (some (nm k)) = some (gR.v, X.w (nm k) 3 1) ∧ 1000 ≤ nm k ∧ N3 (X.w (nm k) 3 1) T nm (fun j => p j || decide (j = k)) := by
  have t1 := (cT_at hT hb hk).1
  refine ⟨by unfold f_Le_need; rw [gO_s, if_pos t1]; rfl, gFile.lo t1, fun f hf => ?_⟩
  by_cases c : f.1 = k
  · rw [c, w_same rfl]
    simp [b2i]
  · rw [w_oth (Or.inl (fun e => c (cT_inj hT ⟨f, hf, rfl⟩ hk e))), hp f hf]
    simp [c]
theorem N3_c {X : gX} {T : List zF} {nm : Nat → Nat} {p q : Nat → Bool} (h : N3 X T nm p) (e : ∀ k, q k = p k) : N3 X T nm q := fun f hf => by rw [e]; exact h f hf
theorem C_needS {X : gX} {v : Nat} {nm : Nat → Nat} {V : zV} {T : List zF} {H : zH} {p : Nat → Bool} (h : CV X v nm V) (hv9 : v < 900) (hT : cT X T nm H) (hb : TB T) (hl : V.1.length ≤ 4096) (hv : ∀ x, x ∈ V.1 → hav T x.1) (hp : N3 X T nm p) : ∃ Y, f_Vi_needSegments X v = some (gR.v, Y) ∧ frN X Y ∧ N3 Y T nm (fun k => p k || V.1.any (fun x => decide (k = x.1))) := by
  unfold f_Vi_needSegments
  have key := gI_inv (body := fun u : gX × Int32 => f_Vi_needSegments_2 u.1 v u.2) (fun k u => u.2 = nI k ∧ frN X u.1 ∧ N3 u.1 T nm (fun j => p j || (V.1.take k).any (fun x => decide (j = x.1)))) (fun r => ∃ Y, r = (gR.v, Y) ∧ frN X Y ∧ N3 Y T nm (fun k => p k || V.1.any (fun x => decide (k = x.1)))) V.1.length (by omega) (s0 := (X, 0)) ⟨rfl, frN.rf, N3_c hp (fun k => by simp)⟩ (fun k u hk hI => by
    obtain ⟨Z, i⟩ := u
    obtain ⟨rfl, g1, g2⟩ := hI
    show ∃ u', f_Vi_needSegments_2 Z v (nI k) = _ ∧ _
    obtain ⟨x, hx⟩ := vs_at hk
    have hZ := CV_frN h g1 hv9
    obtain ⟨r1, -⟩ := hZ.2.2.1 k x hx
    obtain ⟨m1, m2, m3⟩ := C_mark (cT_frN hT g1) hb (hv x (vs_mem hx)) g2
    unfold f_Vi_needSegments_2
    rw [hZ.1, if_neg (nI_ge (by omega) (by omega)), if_pos (gIn_nI (by omega) (by omega)), gn_nI (by omega), r1, m1, gCv_v]
    refine ⟨_, rfl, nI_1 k, g1.w m2, N3_c m3 (fun j => ?_)⟩
    rw [List.take_add_one, hx, List.any_append]
    simp [Bool.or_assoc]) (fun u hI => by
    obtain ⟨Z, i⟩ := u
    obtain ⟨rfl, g1, g2⟩ := hI
    show ∃ r, f_Vi_needSegments_2 Z v (nI V.1.length) = _ ∧ _
    unfold f_Vi_needSegments_2
    rw [(CV_frN h g1 hv9).1, if_pos (nI_le (Nat.le_refl _) (by omega))]
    rw [List.take_length] at g2
    exact ⟨_, rfl, Z, rfl, g1, g2⟩)
  obtain ⟨r, k1, Y, rfl, k3⟩ := key
  rw [k1]
  exact ⟨Y, rfl, k3⟩
def ow1 (o : Option Nat) (k : Nat) : Bool := decide (o = some k)
theorem C_needL {X : gX} {v : Nat} {nm : Nat → Nat} {V : zV} {T : List zF} {H : zH} {p : Nat → Bool} {o : Option Nat} (h : CV X v nm V) (hv9 : v < 900) (ho : X.G v 3 = o.map nm) (hO : ∀ k, o = some k → hav T k) (hT : cT X T nm H) (hb : TB T) (hl : V.1.length ≤ 4096) (hv : hvV true T V) (hp : N3 X T nm p) : ∃ Y, f_Vi_needListsAndOwn X v = some (gR.v, Y) ∧ frN X Y ∧ N3 Y T nm (fun k => p k || V.1.any (fun x => decide (x.2.1 = some k)) || ow1 o k) := by
  unfold f_Vi_needListsAndOwn
  have key := gI_inv (body := fun u : gX × Int32 => f_Vi_needListsAndOwn_2 u.1 v u.2) (fun k u => u.2 = nI k ∧ frN X u.1 ∧ N3 u.1 T nm (fun j => p j || (V.1.take k).any (fun x => decide (x.2.1 = some j)))) (fun r => ∃ Y, r = (gR.v, Y) ∧ frN X Y ∧ N3 Y T nm (fun k => p k || V.1.any (fun x => decide (x.2.1 = some k)) || ow1 o k)) V.1.length (by omega) (s0 := (X, 0)) ⟨rfl, frN.rf, N3_c hp (fun k => by simp)⟩ (fun k u hk hI => by
    obtain ⟨Z, i⟩ := u
    obtain ⟨rfl, g1, g2⟩ := hI
    show ∃ u', f_Vi_needListsAndOwn_2 Z v (nI k) = _ ∧ _
    obtain ⟨x, hx⟩ := vs_at hk
    have hZ := CV_frN h g1 hv9
    obtain ⟨-, r1⟩ := hZ.2.2.1 k x hx
    unfold f_Vi_needListsAndOwn_2
    rw [hZ.1, if_neg (nI_ge (by omega) (by omega)), if_pos (gIn_nI (by omega) (by omega)), gn_nI (by omega), r1]
    cases hl2 : x.2.1 with
    | none =>
      rw [Option.map_none]
      show ∃ u', (gCv (some (gR.v, Z)) _) = _ ∧ _
      rw [gCv_v]
      refine ⟨_, rfl, nI_1 k, g1, N3_c g2 (fun j => ?_)⟩
      rw [List.take_add_one, hx, List.any_append]
      simp [hl2]
    | some l =>
      obtain ⟨m1, m2, m3⟩ := C_mark (cT_frN hT g1) hb ((hv x (vs_mem hx)).2 rfl l hl2) g2
      rw [Option.map_some, m1, gCv_v]
      refine ⟨_, rfl, nI_1 k, g1.w m2, N3_c m3 (fun j => ?_)⟩
      rw [List.take_add_one, hx, List.any_append]
      rw [show decide (j = l) = decide (l = j) by simp [eq_comm]]
      simp [hl2, Bool.or_assoc]) (fun u hI => by
    obtain ⟨Z, i⟩ := u
    obtain ⟨rfl, g1, g2⟩ := hI
    show ∃ r, f_Vi_needListsAndOwn_2 Z v (nI V.1.length) = _ ∧ _
    unfold f_Vi_needListsAndOwn_2
    rw [List.take_length] at g2
    rw [(CV_frN h g1 hv9).1, if_pos (nI_le (Nat.le_refl _) (by omega)), g1.2.2.1, ho]
    cases c : o with
    | none =>
      rw [Option.map_none]
      show ∃ r, (gCv (some (gR.v, Z)) _) = _ ∧ _
      rw [gCv_v]
      exact ⟨_, rfl, Z, rfl, g1, N3_c g2 (fun j => by simp [ow1])⟩
    | some l =>
      obtain ⟨m1, m2, m3⟩ := C_mark (cT_frN hT g1) hb (hO l c) g2
      rw [Option.map_some, m1, gCv_v]
      refine ⟨_, rfl, _, rfl, g1.w m2, N3_c m3 (fun j => ?_)⟩
      rw [show decide (j = l) = decide (l = j) by simp [eq_comm]]
      simp [ow1])
  obtain ⟨r, k1, Y, rfl, k3⟩ := key
  rw [k1]
  exact ⟨Y, rfl, k3⟩
