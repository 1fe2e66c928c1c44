/-! THE PURE SIDE: unneeded files go; the calls rollback, release -/
/-- what holds before the unneeded files go -/
def Pre (A : zA) (k : Nat) : Prop := J1 A k ∧ (TB (aT A) ∧ ∀ f, f ∈ aT A → f.1 < wr A) ∧ J3 A ∧ J4 A ∧ J5 A ∧ ((aS A 18 = 0 → aM A = [] ∧ aS A 19 = 0) ∧ (¬ aS A 14 = 0 → aS A 18 = 0 ∧ (aT A).length ≤ 41000) ∧ ∀ i, i < 4 → (aV A (84 + 8 * i)).2.2.2.2 = nI (gn (aV A (84 + 8 * i)).2.2.2.2) ∧ gn (aV A (84 + 8 * i)).2.2.2.2 ≤ k)
theorem hav_flt {t : List zF} {p : Nat → Bool} {k : Nat} (h : hav t k) (hp : p k = true) : hav (t.filter (fun f => p f.1)) k := by
  obtain ⟨f, h1, h2⟩ := h
  exact ⟨f, List.mem_filter.mpr ⟨h1, by rw [h2]; exact hp⟩, h2⟩
theorem syn_fltp {t : List zF} {p : Nat → Bool} {k : Nat} (h : syn t k = true) (hp : p k = true) : syn (t.filter (fun f => p f.1)) k = true := by
  unfold syn at h ⊢
  obtain ⟨f, h1, h2⟩ := List.any_eq_true.mp h
  simp only [Bool.and_eq_true, decide_eq_true_eq] at h2
  exact List.any_eq_true.mpr ⟨f, List.mem_filter.mpr ⟨h1, by rw [h2.1]; exact hp⟩, by simp [h2]⟩
theorem inV_seg {b : Bool} {l : List zS} {x : zS} (h : x ∈ l) : inV b l x.1 = true := by
  unfold inV
  exact List.any_eq_true.mpr ⟨x, h, by simp⟩
theorem inV_lst {l : List zS} {x : zS} {k : Nat} (h : x ∈ l) (hk : x.2.1 = some k) : inV true l k = true := by
  unfold inV
  exact List.any_eq_true.mpr ⟨x, h, by simp [hk]⟩
theorem nd1_t {A : zA} {k : Nat} (o : ¬ aS A 20 ≤ 0) (h : (inV true (aV A 62).1 k || decide (k = (aV A 62).2.2.1)) = true) : ndd A k = true := by
  unfold ndd nd1
  rw [h]
  simp [o]
theorem nd2_t {A : zA} {k : Nat} (o : ¬ aS A 19 = 0) (h : (inV true (aV A 70).1 k || decide (k = (aV A 70).2.2.1)) = true) : ndd A k = true := by
  unfold ndd nd2
  rw [h]
  simp [o]
theorem nd4_t {A : zA} {m : zM} (h : m ∈ aM A) : ndd A m.2.1 = true := by
  have : nd4 (aM A) m.2.1 = true := List.any_eq_true.mpr ⟨m, h, by simp⟩
  unfold ndd
  rw [this]
  simp
theorem nd5_t {A : zA} {i k : Nat} (hi : i < 4) (o : ¬ (aV A (84 + 8 * i)).2.2.2.2 ≤ 0) (h : inV false (aV A (84 + 8 * i)).1 k = true) : ndd A k = true := by
  have : nd5 A 4 k = true := List.any_eq_true.mpr ⟨i, List.mem_range.mpr hi, by rw [h]; simp [o]⟩
  unfold ndd
  rw [this]
  simp
theorem J5_tf {A : zA} (h : J5 A) : J5 (sT A ((aT A).filter (fun f => ndd A f.1))) := by
  obtain ⟨⟨a1, a2, a3, a4, a5⟩, b1, b2⟩ := h
  refine ⟨⟨fun o => ⟨fun x hx => ?_, ?_⟩, fun o => ⟨fun x hx => ?_, ?_⟩, fun o x hx => ?_, fun m hm => hav_flt (a4 m hm) (nd4_t hm), fun i hi o x hx => ?_⟩, fun o k hk => syn_fltp (b1 o k hk) (nd1_t o hk), fun o k hk => syn_fltp (b2 o k hk) (nd2_t o hk)⟩
  · obtain ⟨c1, c2⟩ := (a1 o).1 x hx
    exact ⟨hav_flt c1 (nd1_t o (by rw [inV_seg hx]; rfl)), fun q k hk => hav_flt (c2 q k hk) (nd1_t o (by rw [inV_lst hx hk]; rfl))⟩
  · exact hav_flt (a1 o).2 (nd1_t o (by simp))
  · obtain ⟨c1, c2⟩ := (a2 o).1 x hx
    exact ⟨hav_flt c1 (nd2_t o (by rw [inV_seg hx]; rfl)), fun q k hk => hav_flt (c2 q k hk) (nd2_t o (by rw [inV_lst hx hk]; rfl))⟩
  · exact hav_flt (a2 o).2 (nd2_t o (by simp))
  · obtain ⟨c1, c2⟩ := a3 o x hx
    exact ⟨hav_flt c1 (nd3_t o (inV_seg hx)), fun q k hk => hav_flt (c2 q k hk) (nd3_t o (inV_lst hx hk))⟩
  · obtain ⟨c1, c2⟩ := a5 i hi o x hx
    exact ⟨hav_flt c1 (nd5_t hi o (inV_seg hx)), fun q => absurd q (by simp)⟩
theorem VL_pre {A : zA} {k : Nat} (h : Pre A k) : VL A := by
  intro n hn hn'
  obtain ⟨⟨⟨⟨p1, p1'⟩, -⟩, -⟩, -, h3, h4, -⟩ := h
  by_cases c : n = 54
  · subst c
    exact (VB_of (h4 (hn' rfl)).1.1 (by omega)).1.1
  · exact (VB_of (h3 n hn c).1 p1').1.1
theorem Tw_pre {A : zA} {k : Nat} (h : Pre A k) : Tw A := ⟨h.2.1.1, VL_pre h, h.2.2.2.2.1.1, h.1.2.2.1.1, h.1.2.2.1.2⟩
theorem Inv_tf {A : zA} {k : Nat} (h : Pre A k) : Inv (aTf A) k := by
  have hVL := VL_pre h
  obtain ⟨h1, ⟨h2, h2'⟩, h3, h4, h5, h6, h6', h6''⟩ := h
  unfold aTf
  by_cases c : aS A 14 = 0
  · rw [if_pos c]
    have hTB : TB ((aT A).filter (fun f => ndd A f.1)) := TB_sub h2 List.filter_sublist
    have hn : ∀ f, f ∈ (aT A).filter (fun f => ndd A f.1) → ndd A f.1 = true := fun f hf => (List.mem_filter.mp hf).2
    refine ⟨h1, ⟨hTB, fun f hf => h2' f (List.mem_filter.mp hf).1, ?_⟩, h3, h4, J5_tf h5, ⟨h6, fun q => absurd c q, fun _ f hf => hn f hf, h6''⟩⟩
    exact need_len (A := sT A ((aT A).filter (fun f => ndd A f.1))) hTB (hVL 62 rfl (fun e => absurd e (by decide))) (hVL 70 rfl (fun e => absurd e (by decide))) (fun o => hVL 54 rfl (fun _ => o)) (fun i hi => hVL _ (gVer_r hi) (fun e => absurd e (by omega))) h1.2.2.1.2 hn
  · rw [if_neg c]
    obtain ⟨c1, c3⟩ := h6' c
    exact ⟨h1, ⟨h2, h2', c3⟩, h3, h4, h5, ⟨h6, fun _ => c1, fun q => absurd q c, h6''⟩⟩
theorem z_finT {X : gX} {A : zA} {k : Nat} {v v' L : Int32} {p : Nat} (h : RM X A) (hi : Pre A k) (hd : ∀ Z : gX, Z.I 46 0 = X.I 46 0 → f_Mo_done Z v L = some (gR.i v', Xd Z p)) : ∃ Y, f_Mo_finished X v L = some (gR.i v', Xd Y p) ∧ RM (Xd Y p) (aTf A) ∧ frM X (Xd Y p) := by
  obtain ⟨Y, y1, y2, y3, y4⟩ := z_tidyF h (Tw_pre hi)
  unfold f_Mo_finished
  rw [y1, gCv_v, hd Y y4, gCi_i]
  exact ⟨Y, rfl, RM_d y2, frM_d y3⟩
theorem Pre_of {A : zA} {k : Nat} (h : Inv A k) : Pre A k := ⟨h.1, ⟨h.2.1.1, h.2.1.2.1⟩, h.2.2.1, h.2.2.2.1, h.2.2.2.2.1, h.2.2.2.2.2.1, fun q => ⟨h.2.2.2.2.2.2.1 q, h.2.1.2.2⟩, h.2.2.2.2.2.2.2.2⟩
/-- the writer is closed -/
def aCls (A : zA) : zA := sM (sS A (upd (upd (upd (upd (aS A) 18 0) 30 0) 19 0) 23 0)) []
theorem Pre_cls {A : zA} {k : Nat} (h : Pre A k) : Pre (aCls A) k := by
  obtain ⟨⟨⟨a1, a2, a3⟩, b1, c1, d1⟩, h2, h3, h4, ⟨⟨e1, e2, e3, e4, e5⟩, f1, f2⟩, h6, h6', h6''⟩ := h
  refine ⟨⟨⟨a1, ⟨rfl, Nat.zero_le _⟩, a3⟩, b1, ⟨rfl, by show 0 ≤ 4; omega⟩, ⟨Or.inl rfl, Or.inl rfl, d1.2.2⟩⟩, h2, h3, fun q => absurd rfl q, ⟨⟨e1, fun q => absurd rfl q, fun q => absurd rfl q, fun m hm => absurd hm (by show ¬ m ∈ ([] : List zM); simp), e5⟩, f1, fun q => absurd rfl q⟩, fun _ => ⟨rfl, rfl⟩, fun q => ?_, h6''⟩
  obtain ⟨g1, g3⟩ := h6' q
  exact ⟨rfl, g3⟩
theorem RM_cls {X : gX} {A : zA} (h : RM X A) : ∃ Y, f_Mo_close1 X 0 = some (gR.v, Y) ∧ RM Y (aCls A) ∧ frM X Y ∧ Y.I 46 0 = X.I 46 0 := by
  unfold f_Mo_close1
  simp only [gB_b]
  obtain ⟨h1, h2, h3, h4, h5, h6⟩ := h
  have fI : ∀ a, a ≠ 46 → ((((X.w 46 18 0).w 46 30 0).w 46 19 0).w 46 23 0).I a = X.I a := fun a ha => by rw [gX.w_ne ha, gX.w_ne ha, gX.w_ne ha, gX.w_ne ha]
  refine ⟨_, rfl, ⟨fun j j1 j2 j3 => ?_, mE_fr (A := aCls A) h2 (fI 47 (by decide)) (fI 48 (by decide)) (fI 49 (by decide)), mT_fr h3 ?_ (fI 50 (by decide)) (fI 51 (by decide)) (fI 52 (by decide)), mV_fr (A := aCls A) h4 (fun a a1 a2 => fI a (by omega)) (fun a a1 a2 => fI a (by omega)), fun k hk => absurd hk (Nat.not_lt_zero _), ⟨h6.1, fun i m hm => absurd hm (by show ¬ ([] : List zM)[i]? = some m; simp)⟩⟩, (((frM.rf.w (by omega)).w (by omega)).w (by omega)).w (by omega), ?_⟩
  · rw [gX.w_self, gX.w_self, gX.w_self, gX.w_self]
    show upd (upd (upd (upd (X.I 46) 18 0) 30 0) 19 0) 23 0 j = upd (upd (upd (upd (aS A) 18 0) 30 0) 19 0) 23 0 j
    simp only [upd_at, h1 j j1 j2 j3]
  · rw [w_oth (Or.inr (by decide)), w_oth (Or.inr (by decide)), w_oth (Or.inr (by decide)), w_oth (Or.inr (by decide))]
  · rw [w_oth (Or.inr (by decide)), w_oth (Or.inr (by decide)), w_oth (Or.inr (by decide)), w_oth (Or.inr (by decide))]
theorem aCls_S {S : Nat → Int32} : upd (upd (upd (upd S 18 0) 30 0) 19 0) 23 0 = upd (upd (upd (upd S 18 0) 19 0) 30 0) 23 0 := by
  funext j
  simp only [upd_at]
  (repeat' split) <;> first | rfl | omega
theorem RC_cls {X : gX} {A : zA} {nm : Nat → Nat} {k : Nat} (h : RC X A nm k) : ∃ Y, f_Le_forgetWriter X = some (gR.v, Y) ∧ RC Y (aCls A) nm k ∧ frC X Y := by
  unfold f_Le_forgetWriter
  simp only [gB_b]
  have s1 := cS_23 (v := 0) (cS_w (v := 0) (cS_w (v := 0) (cS_w (v := 0) h.1 (show (0, 7, 18) ∈ cTab by decide)) (show (0, 8, 19) ∈ cTab by decide)) (show (0, 12, 30) ∈ cTab by decide))
  have fI : ∀ a, a ≠ 0 → (((X.w 0 7 0).w 0 8 0).w 0 12 0).I a = X.I a := fun a ha => by rw [gX.w_ne ha, gX.w_ne ha, gX.w_ne ha]
  have q := RC_sS (S' := upd (upd (upd (upd (aS A) 18 0) 30 0) 19 0) 23 0) (Y := ((X.w 0 7 0).w 0 8 0).w 0 12 0) h (cS_c s1 aCls_S) (fun q => absurd rfl q) (fun a a1 a2 a3 => fI a (by omega)) (fun a j a1 a2 => by rw [fI a (by omega)]) (fun _ _ => rfl) gEq.rf.w.w.w (fun q => absurd rfl q) (fun q => absurd rfl q) id
  obtain ⟨q1, q2, q3, q4, q5, q6, q7⟩ := q
  exact ⟨_, rfl, ⟨q1, q2, q3, q4, q5, ⟨q6.1, fun i m _ hm => absurd hm (by show ¬ ([] : List zM)[i]? = some m; simp)⟩, q7⟩, ((frC.rf.w (by omega)).w (by omega)).w (by omega)⟩
theorem L_rollback {X : gX} {k : Nat} (h : JJ X k) (hk : k < 600) : LVd (f_Lw_rollback X) f_Mo_rollback k := by
  obtain ⟨A, nm, hM, hC, hI, h0, hK⟩ := h
  have hI1 := Inv_mono hI (Nat.le_succ k)
  by_cases o : aS A 18 = 0
  · have lim := RC_lim hC (by omega)
    obtain ⟨e1, e2, e3⟩ := z_ref (X := X.ex) (e := 2) (RM_frC hM frC.rf.ex)
    obtain ⟨Y, y1, y2, y3⟩ := z_fin (v := 0) (v' := 0) (L := 2) (p := 1) e1 hI1 (fun Z hZ => z_done_2_2 (hZ.trans e3))
    refine LVd_no (p := 1) (Y0 := X) ?_ hC (Z := Y) ?_ y2 (e2.tr y3) hI1 hK
    · unfold f_Lw_rollback f_Le_rollback f_Le_requireWriter
      rw [cS_18 hC.1, if_pos o, gCvt_t, gCvt_t, if_pos rfl, if_pos lim]
      rfl
    · unfold f_Mo_rollback f_Mo_rollback_13 f_Mo_rollback_25
      rw [show X.ex.I 46 18 = 0 from (RM_S hM 18 (by decide) (by decide) (by decide)).trans o, if_pos rfl, s_wrong1 (X := X.ex) h0 (by decide), gCi_i, if_neg (by decide), y1, gCi_i]
  · obtain ⟨Y, y1, y2, y3⟩ := RC_cls hC
    have hp := Pre_cls (Pre_of hI1)
    obtain ⟨W, w1, w2, w3⟩ := C_dropF y2 (Tw_pre hp) (by omega)
    have hMW : RM W A := RM_frC hM (y3.tr w3)
    obtain ⟨Z, z1, z2, z3, z4⟩ := RM_cls hMW
    have e0 : Z.I 46 0 = 0 := by rw [z4, (y3.tr w3).1 46 (by omega)]; exact h0
    obtain ⟨U, u1, u2, u3⟩ := z_finT (v := 0) (v' := 0) (L := 2) (p := 0) z2 hp (fun V hV => z_done_2_0 (hV.trans e0))
    refine LVd_ok (Y0 := W) ?_ w2 (Z := U) ?_ u2 (z3.tr u3) (Inv_tf hp) (KK_tf (KK_cl rfl))
    · unfold f_Lw_rollback f_Le_rollback f_Le_requireWriter
      rw [cS_18 hC.1, if_neg o, gCvt_v, y1, gCv_v, w1, gCv_v, gCvt_v]
    · unfold f_Mo_rollback f_Mo_rollback_13 f_Mo_rollback_25
      rw [RM_S hMW 18 (by decide) (by decide) (by decide), if_neg o, s_wrong0 (by rw [(y3.tr w3).1 46 (by omega)]; exact h0), gCi_i, if_pos rfl, z1, gCv_v, u1, gCi_i]
/-- which reader has the number -/
def rdO (A : zA) (a : Int32) (i : Nat) : Bool := !decide ((aV A (84 + 8 * i)).2.2.2.2 ≤ 0) && decide ((aV A (84 + 8 * i)).2.2.2.2 = a)
def rdS (A : zA) (a : Int32) (i : Nat) : Prop := i < 4 ∧ rdO A a i = true ∧ ∀ j, j < i → rdO A a j = false
def rdN (A : zA) (a : Int32) : Prop := ∀ i, i < 4 → rdO A a i = false
theorem rd_em (A : zA) (a : Int32) : (∃ i, rdS A a i) ∨ rdN A a := by
  by_cases c : ∃ i, i < 4 ∧ rdO A a i = true
  · obtain ⟨i, hi, h⟩ := c
    have key : ∀ n, n ≤ 4 → (∃ i, rdS A a i) ∨ ∀ j, j < n → rdO A a j = false := by
      intro n
      induction n with
      | zero => intro _; exact Or.inr (fun j hj => absurd hj (by omega))
      | succ n ih =>
        intro hn
        rcases ih (by omega) with q | q
        · exact Or.inl q
        · cases c : rdO A a n with
          | true => exact Or.inl ⟨n, by omega, c, q⟩
          | false =>
            refine Or.inr (fun j hj => ?_)
            by_cases e : j = n
            · rw [e]; exact c
            · exact q j (by omega)
    rcases key 4 (by omega) with q | q
    · exact Or.inl q
    · rw [q i hi] at h
      cases h
  · refine Or.inr (fun i hi => ?_)
    cases q : rdO A a i with
    | false => rfl
    | true => exact absurd ⟨i, hi, q⟩ c
theorem C_rdTurn {X : gX} {A : zA} {nm : Nat → Nat} {k i : Nat} {a : Int32} (h : RC X A nm k) (hi : i < 4) : f_Le_requireReader_2 X a (nI i) = if rdO A a i = true then some (Sum.inr (gR.a (some (26 + 5 * i)), X)) else some (Sum.inl (nI (i + 1))) := by
  have j1 : gIn (nI i) 4 = true := gIn_nI (by omega) (by omega)
  unfold f_Le_requireReader_2 f_Le_requireReader_39
  rw [if_neg (show ¬ (4 : Int32) ≤ nI i from nI_ge (a := i) (b := 4) hi (by omega)), if_pos j1, gn_nI (by omega), nI_1]
  unfold rdO
  rcases (RC_W h).2.2 i hi with ⟨r1, r2⟩ | ⟨r1, r2, r3, r4⟩
  · rw [r2, if_pos rfl, r1]
    simp
  · rw [r2, if_neg (by decide), if_pos j1, r3]
    by_cases c : (aV A (84 + 8 * i)).2.2.2.2 = a
    · rw [if_pos c, if_pos j1, gLf_s]
      rw [c] at r1
      simp [c, r1]
    · rw [if_neg c]
      simp [c]
theorem C_rdS {X : gX} {A : zA} {nm : Nat → Nat} {k i : Nat} {a : Int32} (h : RC X A nm k) (hr : rdS A a i) : f_Le_requireReader X a = some (gR.a (some (26 + 5 * i)), X) := by
  obtain ⟨r1, r2, r3⟩ := hr
  unfold f_Le_requireReader
  refine gI_at (fun j => nI j) i (gK_lt (by omega)) (fun j hj => ?_) ?_ rfl
  · show f_Le_requireReader_2 X a (nI j) = _
    rw [C_rdTurn h (by omega), if_neg (by rw [r3 j hj]; simp)]
  · show f_Le_requireReader_2 X a (nI i) = _
    rw [C_rdTurn h r1, if_pos r2]
theorem C_rdN {X : gX} {A : zA} {nm : Nat → Nat} {k : Nat} {a : Int32} (h : RC X A nm k) (hr : rdN A a) : f_Le_requireReader X a = some (gR.t "java/util/NoSuchElementException", X) := by
  unfold f_Le_requireReader
  refine gI_at (fun j => nI j) 4 (gK_lt (by omega)) (fun j hj => ?_) ?_ rfl
  · show f_Le_requireReader_2 X a (nI j) = _
    rw [C_rdTurn h hj, if_neg (by rw [hr j hj]; simp)]
  · show f_Le_requireReader_2 X a (nI 4) = _
    unfold f_Le_requireReader_2
    rw [if_pos (by decide), gLf_s]
theorem z_rdTurn {X : gX} {A : zA} {i : Nat} {a : Int32} (h : RM X A) (hi : i < 4) : f_Mo_reading_11 X a 4 (nI i) = if rdO A a i = true then some (Sum.inr (gR.a (some (84 + 8 * i)), X)) else some (Sum.inl (nI (i + 1))) := by
  have j1 : gIn (nI i) 4 = true := gIn_nI (by omega) (by omega)
  have hr := (RM_V h (84 + 8 * i) (gVer_r hi)).1.2.2.2
  unfold f_Mo_reading_11 f_Mo_reading_43
  rw [if_neg (show ¬ (4 : Int32) ≤ nI i from nI_ge (a := i) (b := 4) hi (by omega)), if_pos j1, gn_nI (by omega), nI_1, hr]
  unfold rdO
  by_cases c1 : (aV A (84 + 8 * i)).2.2.2.2 ≤ 0
  · rw [if_pos c1]
    simp [c1]
  · rw [if_neg c1]
    by_cases c : (aV A (84 + 8 * i)).2.2.2.2 = a
    · rw [if_pos c, gLf_s]
      rw [c] at c1
      simp [c, c1]
    · rw [if_neg c]
      simp [c]
theorem z_rdS {X : gX} {A : zA} {i : Nat} {a : Int32} (h : RM X A) (hr : rdS A a i) : f_Mo_reading X a = some (gR.a (some (84 + 8 * i)), X) := by
  obtain ⟨r1, r2, r3⟩ := hr
  unfold f_Mo_reading
  refine gI_at (fun j => nI j) i (gK_lt (by omega)) (fun j hj => ?_) ?_ rfl
  · show f_Mo_reading_11 X a 4 (nI j) = _
    rw [z_rdTurn h (by omega), if_neg (by rw [r3 j hj]; simp)]
  · show f_Mo_reading_11 X a 4 (nI i) = _
    rw [z_rdTurn h r1, if_pos r2]
theorem z_rdN {X : gX} {A : zA} {a : Int32} (h : RM X A) (h0 : X.I 46 0 = 0) (hr : rdN A a) : f_Mo_reading X a = some (gR.a (some 84), X.w 46 0 3) := by
  unfold f_Mo_reading
  refine gI_at (fun j => nI j) 4 (gK_lt (by omega)) (fun j hj => ?_) ?_ rfl
  · show f_Mo_reading_11 X a 4 (nI j) = _
    rw [z_rdTurn h hj, if_neg (by rw [hr j hj]; simp)]
  · show f_Mo_reading_11 X a 4 (nI 4) = _
    unfold f_Mo_reading_11 f_Mo_reading_65
    rw [if_pos (by decide), h0, if_pos rfl, gB_b, if_pos (by decide), gLf_s]
    rfl
/-- a reader is closed -/
def aRel (A : zA) (i : Nat) : zA := sV1 A (84 + 8 * i) (v0 (aV A (84 + 8 * i)))
theorem KK_rel {A : zA} {i : Nat} (h : KK A) : KK (aRel A i) := by
  have eV : ∀ n, n < 84 → aV (aRel A i) n = aV A n := fun n hn => if_neg (by omega)
  exact KK_sub (B := aRel A i) h id rfl rfl (by rw [eV 70 (by decide)]) (by rw [eV 62 (by decide)]) (fun _ q => q) (fun x hx => by rw [eV 54 (by decide)] at hx; exact ⟨x, hx, rfl, rfl⟩) rfl
theorem L_release {X : gX} {k : Nat} {a : Int32} (h : JJ X k) (hk : k < 600) : LVd (f_Lw_release X a) (fun Y => f_Mo_release Y a) k := by
  obtain ⟨A, nm, hM, hC, hI, h0, hK⟩ := h
  have hI1 := Inv_mono hI (Nat.le_succ k)
  rcases rd_em A a with ⟨i, hr⟩ | hr
  · have hi := hr.1
    have gr : gRea (26 + 5 * i) = true := by
      have : i = 0 ∨ i = 1 ∨ i = 2 ∨ i = 3 := by omega
      rcases this with rfl | rfl | rfl | rfl <;> rfl
    have eV : ∀ n, n ≠ 84 + 8 * i → aV (aRel A i) n = aV A n := fun n hn => if_neg hn
    have eV' : aV (aRel A i) (84 + 8 * i) = v0 (aV A (84 + 8 * i)) := if_pos rfl
    have hC' : RC (X.w (26 + 5 * i) 2 0) (aRel A i) nm k := by
      obtain ⟨q1, q2, q3, q4, q5, q6, q7⟩ := hC
      refine ⟨cS_o q1 (Or.inl (by omega)), fun q => by rw [gX.w_ne (by omega)]; exact q2 q, ?_, cT_fr q4 (by rw [gX.w_ne (by omega)]) (by rw [gX.w_ne (by omega)]) rfl rfl gEq.rf.w (fun b j hb _ => by rw [gX.w_ne (by omega)]), ?_, cM_fr q6 (fun b b1 b2 => gX.w_ne (by omega)) (fun _ _ _ => rfl), RR_fr q7 gEq.rf.w⟩
      · unfold cE at q3 ⊢
        rw [gX.w_ne (by omega), gX.w_ne (by omega), gX.w_ne (by omega)]
        exact q3
      · obtain ⟨⟨h1, h2⟩, ⟨c, p, k1, k2, k3, k4, k5⟩, h4⟩ := q5
        have hcp := cpq_v k1
        have fr : ∀ v V, (8 ≤ v ∧ v ≤ 16) ∨ (∃ j, v = 26 + 5 * j + 1 ∧ j < 4) → CV X v nm V → CV (X.w (26 + 5 * i) 2 0) v nm V := fun v V hv q => by
          refine CV_fr q (gX.w_ne ?_) rfl rfl (gX.w_ne ?_)
          · rcases hv with hv | ⟨j, hv, _⟩ <;> omega
          · rcases hv with hv | ⟨j, hv, _⟩ <;> omega
        refine ⟨⟨fun o => ?_, h2⟩, ⟨c, p, k1, k2, k3, fun o => ?_, fun o => ?_⟩, fun j hj => ?_⟩
        · rw [eV 54 (by omega)]; exact fr 8 _ (Or.inl (by omega)) (h1 o)
        · rw [eV 62 (by omega)]; exact ⟨fr c _ (Or.inl (by omega)) (k4 o).1, (k4 o).2⟩
        · rw [eV 70 (by omega)]; exact ⟨fr p _ (Or.inl (by omega)) (k5 o).1, (k5 o).2⟩
        · by_cases cj : j = i
          · subst cj
            rw [eV']
            exact Or.inl ⟨rfl, w_same rfl⟩
          · rw [eV (84 + 8 * j) (by omega)]
            have q := h4 j hj
            unfold cR at q ⊢
            rw [gX.w_ne (show 26 + 5 * j ≠ 26 + 5 * i by omega)]
            rcases q with q | ⟨r1, r2, r3, r4⟩
            · exact Or.inl q
            · exact Or.inr ⟨r1, r2, r3, fr _ _ (Or.inr ⟨j, rfl, hj⟩) r4⟩
    have hp : Pre (aRel A i) (k + 1) := by
      obtain ⟨p1, p2, p3, p4, ⟨⟨a1, a2, a3, a4, a5⟩, b1, b2⟩, p6, p6', p6''⟩ := Pre_of hI1
      refine ⟨p1, p2, fun n hn hn' => ?_, ?_, ⟨⟨?_, ?_, ?_, a4, fun j hj o => ?_⟩, ?_, ?_⟩, p6, fun q => ?_, fun j hj => ?_⟩
      · have := p3 n hn hn'
        by_cases c : n = 84 + 8 * i
        · rw [c, eV']; rw [c] at this; exact this
        · rw [eV n c]; exact this
      · intro o
        have q := p4 o
        have e54 : aV (aRel A i) 54 = aV A 54 := eV 54 (by omega)
        have e62 : aV (aRel A i) 62 = aV A 62 := eV 62 (by omega)
        have e70 : aV (aRel A i) 70 = aV A 70 := eV 70 (by omega)
        obtain ⟨w1, w2, ⟨w3, w4, w5⟩, w6⟩ := q
        unfold WV WK WM WL MI
        rw [e54, e62, e70]
        exact ⟨w1, w2, ⟨w3, w4, w5⟩, w6⟩
      · rw [eV 62 (by omega)]; exact a1
      · rw [eV 70 (by omega)]; exact a2
      · rw [eV 54 (by omega)]; exact a3
      · by_cases c : j = i
        · subst c
          rw [eV'] at o
          exact absurd (show (0 : Int32) ≤ 0 by decide) o
        · rw [eV (84 + 8 * j) (by omega)] at o ⊢
          exact a5 j hj o
      · rw [eV 62 (by omega)]; exact b1
      · rw [eV 70 (by omega)]; exact b2
      · exact p6' q
      · by_cases c : j = i
        · subst c
          rw [eV']
          exact ⟨rfl, Nat.zero_le _⟩
        · rw [eV (84 + 8 * j) (by omega)]; exact p6'' j hj
    obtain ⟨W, w1, w2, w3⟩ := C_dropF hC' (Tw_pre hp) (by omega)
    have fXW : frC X W := (frC.rf.w (by omega)).tr w3
    have hMW : RM W A := RM_frC hM fXW
    have hM1 : RM (W.w (84 + 8 * i) 10 0) (aRel A i) := by
      obtain ⟨m1, m2, m3, m4, m5, m6⟩ := hMW
      refine ⟨mS_fr m1 (gX.w_ne (by omega)), mE_fr (A := aRel A i) m2 (gX.w_ne (by omega)) (gX.w_ne (by omega)) (gX.w_ne (by omega)), mT_fr m3 (by rw [gX.w_ne (by omega)]) (gX.w_ne (by omega)) (gX.w_ne (by omega)) (gX.w_ne (by omega)), fun n hn => ?_, ?_, mM_fr (A := aRel A i) m6 (fun b b1 b2 => gX.w_ne (by omega)) (fun b b1 b2 => gX.w_ne (by omega)) rfl⟩
      · by_cases c : n = 84 + 8 * i
        · subst c
          rw [eV']
          exact VR_w10 (m4 _ hn)
        · rw [eV n c]
          have := gVer.ap hn (gVer_r hi) c
          exact VR_fr (m4 n hn) (fun b b1 b2 => gX.w_ne (by omega))
      · unfold mB at m5 ⊢
        rw [eV 54 (by omega), gX.w_ne (by omega), gX.w_ne (by omega)]
        exact m5
    have e0 : (W.w (84 + 8 * i) 10 0).I 46 0 = 0 := by rw [gX.w_ne (by omega), fXW.1 46 (by omega)]; exact h0
    obtain ⟨U, u1, u2, u3⟩ := z_finT (v := 0) (v' := 0) (L := 3) (p := 0) hM1 hp (fun V hV => z_done_3_0 (hV.trans e0))
    refine LVd_ok (Y0 := W) ?_ w2 (Z := U) ?_ u2 ((frM.rf.w (by omega)).tr u3) (Inv_tf hp) (KK_tf (KK_rel hK))
    · unfold f_Lw_release f_Le_release
      rw [C_rdS hC hr, gCat_a, gM_s, if_pos gr, gB_b, w1, gCv_v, gCvt_v]
    · show f_Mo_release W a = _
      unfold f_Mo_release f_Mo_release_18
      rw [z_rdS hMW hr, gCa_a, gM_s, if_pos (gVer_r hi), show W.I 46 0 = 0 by rw [fXW.1 46 (by omega)]; exact h0, if_pos rfl, gB_b, u1, gCi_i]
  · have lim := RC_lim hC (by omega)
    have hMX : RM X.ex A := RM_frC hM frC.rf.ex
    obtain ⟨e1, e2, e3⟩ := z_ref (X := X.ex) (e := 3) hMX
    obtain ⟨Y, y1, y2, y3⟩ := z_fin (v := 0) (v' := 0) (L := 3) (p := 1) e1 hI1 (fun Z hZ => z_done_3_3 (hZ.trans e3))
    refine LVd_no (p := 1) (Y0 := X) ?_ hC (Z := Y) ?_ y2 (e2.tr y3) hI1 hK
    · unfold f_Lw_release f_Le_release
      rw [C_rdN hC hr, gCat_t, gCvt_t, if_pos rfl, if_pos lim]
      rfl
    · show f_Mo_release X.ex a = _
      unfold f_Mo_release f_Mo_release_18
      rw [z_rdN hMX h0 hr, gCa_a, gM_s, if_pos (show gVer 84 = true from rfl), e3, if_neg (by decide), y1, gCi_i]
