/-! THE PURE SIDE: files' flags; the call harm -/
def gFl (g : zF → zF) : Prop := ∀ f, (g f).1 = f.1 ∧ (f.2.1 = true → (g f).2.1 = true)
theorem hav_map {t : List zF} {g : zF → zF} {k : Nat} (hg : gFl g) (h : hav t k) : hav (t.map g) k := by
  obtain ⟨f, h1, h2⟩ := h
  exact ⟨g f, List.mem_map.mpr ⟨f, h1, rfl⟩, by rw [(hg f).1]; exact h2⟩
theorem syn_map {t : List zF} {g : zF → zF} {k : Nat} (hg : gFl g) (h : syn t k = true) : syn (t.map g) k = true := by
  unfold syn at h ⊢
  obtain ⟨f, h1, h2⟩ := List.any_eq_true.mp h
  simp only [Bool.and_eq_true, decide_eq_true_eq] at h2
  refine List.any_eq_true.mpr ⟨g f, List.mem_map.mpr ⟨f, h1, rfl⟩, ?_⟩
  simp [(hg f).1, h2.1, (hg f).2 h2.2]
theorem TB_map {t : List zF} {g : zF → zF} (hg : gFl g) (h : TB t) : TB (t.map g) := by
  refine ⟨by rw [List.length_map]; exact h.1, ?_, fun f hf => ?_⟩
  · rw [List.pairwise_map]
    exact h.2.1.imp (fun {a b} hab => by rw [(hg a).1, (hg b).1]; exact hab)
  · obtain ⟨f', h1, h2⟩ := List.mem_map.mp hf
    rw [← h2, (hg f').1]
    exact h.2.2 f' h1
theorem J2_map {A : zA} {g : zF → zF} (hg : gFl g) (h : J2 A) : J2 (sT A ((aT A).map g)) := by
  refine ⟨TB_map hg h.1, fun f hf => ?_, by show ((aT A).map g).length ≤ 41000; rw [List.length_map]; exact h.2.2⟩
  obtain ⟨f', h1, h2⟩ := List.mem_map.mp hf
  rw [← h2, (hg f').1]
  exact h.2.1 f' h1
theorem J5_map {A : zA} {g : zF → zF} (hg : gFl g) (h : J5 A) : J5 (sT A ((aT A).map g)) := by
  have hh : ∀ b V, hvV b (aT A) V → hvV b ((aT A).map g) V := fun b V q x hx => ⟨hav_map hg (q x hx).1, fun q1 k hk => hav_map hg ((q x hx).2 q1 k hk)⟩
  obtain ⟨⟨a1, a2, a3, a4, a5⟩, b1, b2⟩ := h
  exact ⟨⟨fun o => ⟨hh _ _ (a1 o).1, hav_map hg (a1 o).2⟩, fun o => ⟨hh _ _ (a2 o).1, hav_map hg (a2 o).2⟩, fun o => hh _ _ (a3 o), fun m hm => hav_map hg (a4 m hm), fun i hi o => hh _ _ (a5 i hi o)⟩, fun o k hk => syn_map hg (b1 o k hk), fun o k hk => syn_map hg (b2 o k hk)⟩
theorem J6_map {A : zA} {k : Nat} {g : zF → zF} (hg : gFl g) (h : J6 A k) : J6 (sT A ((aT A).map g)) k := by
  refine ⟨h.1, h.2.1, fun q f hf => ?_, h.2.2.2⟩
  obtain ⟨f', h1, h2⟩ := List.mem_map.mp hf
  rw [← h2, (hg f').1]
  exact h.2.2.1 q f' h1
theorem Inv_map {A : zA} {k : Nat} {g : zF → zF} (hg : gFl g) (h : Inv A k) : Inv (sT A ((aT A).map g)) k := ⟨h.1, J2_map hg h.2.1, h.2.2.1, h.2.2.2.1, J5_map hg h.2.2.2.2.1, J6_map hg h.2.2.2.2.2⟩
theorem J2E_map {E : List Nat} {A : zA} {g : zF → zF} (hg : gFl g) (h : J2E E A) : J2E E (sT A ((aT A).map g)) := by
  refine ⟨TB_map hg h.1, fun f hf => ?_, ?_, h.2.2.2⟩
  · obtain ⟨f', f1, f2⟩ := List.mem_map.mp hf
    rw [← f2, (hg f').1]
    exact h.2.1 f' f1
  · show ((aT A).map g).length ≤ _
    rw [List.length_map]
    exact h.2.2.1
theorem J6E_map {E : List Nat} {A : zA} {k : Nat} {g : zF → zF} (hg : gFl g) (h : J6E E A k) : J6E E (sT A ((aT A).map g)) k := by
  refine ⟨h.1, h.2.1, fun q f hf => ?_, h.2.2.2⟩
  obtain ⟨f', f1, f2⟩ := List.mem_map.mp hf
  rw [← f2, (hg f').1]
  exact h.2.2.1 q f' f1
theorem Mid_map {E : List Nat} {A : zA} {k i : Nat} {g : zF → zF} (hg : gFl g) (h : MidE E A k i) : MidE E (sT A ((aT A).map g)) k i := ⟨h.1, h.2.1, J2E_map hg h.2.2.1, h.2.2.2.1, h.2.2.2.2.1, J5_map hg h.2.2.2.2.2.1, J6E_map hg h.2.2.2.2.2.2⟩
theorem RC_flag {X : gX} {A : zA} {nm : Nat → Nat} {k j r : Nat} {v : Int32} {g : zF → zF} (h : RC X A nm k) (hj : gFile X.N (nm j) = true) (hg : gFl g) (hc : ∀ f, f ∈ aT A → CF (X.w (nm j) r v) nm (aH A) (g f)) : RC (X.w (nm j) r v) (sT A ((aT A).map g)) nm k := by
  obtain ⟨q1, q2, q3, q4, q5, q6, q7⟩ := h
  have hlo := gFile.lo hj
  have hI : ∀ a, a < 1000 → (X.w (nm j) r v).I a = X.I a := fun a ha => gX.w_ne (by omega)
  refine ⟨cS_fr q1 (hI 0 (by omega)) (hI 1 (by omega)) (hI 5 (by omega)), fun o => by rw [hI 0 (by omega)]; exact q2 o, ?_, ?_, ?_, cM_fr q6 (fun a _ a2 => hI a (by omega)) (fun _ _ _ => rfl), RR_fr q7 gEq.rf.w⟩
  · unfold cE at q3 ⊢
    rw [hI 2 (by omega), hI 3 (by omega), hI 4 (by omega)]
    exact q3
  · obtain ⟨Z, ⟨a1, a2, a3, a4⟩, ⟨b1, b2⟩, c1, ⟨d1, d2, d3⟩, e1⟩ := q4
    have em : ((aT A).map g).map (fun f => nm f.1) = (aT A).map (fun f => nm f.1) := by
      rw [List.map_map]
      exact List.map_congr_left (fun f _ => by show nm (g f).1 = _; rw [(hg f).1])
    have em2 : ((aT A).map g).map (fun f => some (nm f.1)) = (aT A).map (fun f => some (nm f.1)) := by
      rw [List.map_map]
      exact List.map_congr_left (fun f _ => by show some (nm (g f).1) = _; rw [(hg f).1])
    refine ⟨Z, ⟨?_, by rw [hI 7 (by omega)]; exact a2, ?_, a4⟩, ⟨?_, b2⟩, c1, ⟨?_, ?_, ?_⟩, fun f hf => ?_⟩
    · rw [hI 6 (by omega), a1]
      show _ = nI ((aT A).map g).length
      rw [List.length_map]
    · show ((aT A).map g).length ≤ _
      rw [List.length_map]; exact a3
    · show hl _ (((aT A).map g).map (fun f => some (nm f.1)))
      rw [em2]; exact b1
    · show (((aT A).map g).map (fun f => nm f.1) ++ Z).Nodup
      rw [em]; exact d1
    · show ∀ n, n ∈ ((aT A).map g).map (fun f => nm f.1) ++ Z → _
      rw [em]; exact d2
    · show ((aT A).map g).length + _ = _
      rw [List.length_map]; exact d3
    · obtain ⟨f', h1, h2⟩ := List.mem_map.mp hf
      rw [← h2]
      exact hc f' h1
  · exact cW_fr (S' := aS A) q5 (fun a _ a2 => hI a (by omega)) (fun _ _ => rfl) id id id
def hmG (j : Nat) (f : zF) : zF := if f.1 = j then (f.1, f.2.1, true) else f
def syG (j : Nat) (f : zF) : zF := if f.1 = j then (f.1, true, f.2.2) else f
theorem hmG_fl (j : Nat) : gFl (hmG j) := fun f => by
  unfold hmG
  by_cases c : f.1 = j
  · rw [if_pos c]; exact ⟨rfl, id⟩
  · rw [if_neg c]; exact ⟨rfl, id⟩
theorem syG_fl (j : Nat) : gFl (syG j) := fun f => by
  unfold syG
  by_cases c : f.1 = j
  · rw [if_pos c]; exact ⟨rfl, fun _ => rfl⟩
  · rw [if_neg c]; exact ⟨rfl, id⟩
theorem RC_hm {X : gX} {A : zA} {nm : Nat → Nat} {k j : Nat} (h : RC X A nm k) (hb : TB (aT A)) (hj : hav (aT A) j) : RC (X.w (nm j) 2 1) (sT A ((aT A).map (hmG j))) nm k := by
  have t := cT_at (RC_T h) hb hj
  refine RC_flag h t.1 (hmG_fl j) (fun f hf => ?_)
  obtain ⟨Z, -, -, -, -, e1⟩ := RC_T h
  obtain ⟨c1, c2, c3, c4, c5, c6⟩ := e1 f hf
  unfold hmG
  by_cases c : f.1 = j
  · rw [if_pos c]
    unfold CF
    show (X.w (nm j) 2 1).I (nm f.1) 0 = _ ∧ (X.w (nm j) 2 1).I (nm f.1) 1 = _ ∧ (X.w (nm j) 2 1).I (nm f.1) 2 = b2i true ∧ (X.w (nm j) 2 1).I (nm f.1) 4 = _ ∧ (X.w (nm j) 2 1).I (nm f.1) 5 = _ ∧ (X.w (nm j) 2 1).I (nm f.1) 6 = _
    rw [← c]
    refine ⟨?_, ?_, w_same rfl, ?_, ?_, ?_⟩
    · rw [w_oth (Or.inr (by decide))]; exact c1
    · rw [w_oth (Or.inr (by decide))]; exact c2
    · rw [w_oth (Or.inr (by decide))]; exact c4
    · rw [w_oth (Or.inr (by decide))]; exact c5
    · rw [w_oth (Or.inr (by decide))]; exact c6
  · rw [if_neg c]
    have hne : nm f.1 ≠ nm j := fun e => c (cT_inj (RC_T h) ⟨f, hf, rfl⟩ hj e)
    unfold CF
    rw [gX.w_ne hne]
    exact ⟨c1, c2, c3, c4, c5, c6⟩
theorem RC_sy {X : gX} {A : zA} {nm : Nat → Nat} {k j : Nat} (h : RC X A nm k) (hb : TB (aT A)) (hj : hav (aT A) j) : RC (X.w (nm j) 1 1) (sT A ((aT A).map (syG j))) nm k := by
  have t := cT_at (RC_T h) hb hj
  refine RC_flag h t.1 (syG_fl j) (fun f hf => ?_)
  obtain ⟨Z, -, -, -, -, e1⟩ := RC_T h
  obtain ⟨c1, c2, c3, c4, c5, c6⟩ := e1 f hf
  unfold syG
  by_cases c : f.1 = j
  · rw [if_pos c]
    unfold CF
    show (X.w (nm j) 1 1).I (nm f.1) 0 = _ ∧ (X.w (nm j) 1 1).I (nm f.1) 1 = b2i true ∧ (X.w (nm j) 1 1).I (nm f.1) 2 = _ ∧ (X.w (nm j) 1 1).I (nm f.1) 4 = _ ∧ (X.w (nm j) 1 1).I (nm f.1) 5 = _ ∧ (X.w (nm j) 1 1).I (nm f.1) 6 = _
    rw [← c]
    refine ⟨?_, w_same rfl, ?_, ?_, ?_, ?_⟩
    · rw [w_oth (Or.inr (by decide))]; exact c1
    · rw [w_oth (Or.inr (by decide))]; exact c3
    · rw [w_oth (Or.inr (by decide))]; exact c4
    · rw [w_oth (Or.inr (by decide))]; exact c5
    · rw [w_oth (Or.inr (by decide))]; exact c6
  · rw [if_neg c]
    have hne : nm f.1 ≠ nm j := fun e => c (cT_inj (RC_T h) ⟨f, hf, rfl⟩ hj e)
    unfold CF
    rw [gX.w_ne hne]
    exact ⟨c1, c2, c3, c4, c5, c6⟩
theorem RM_hm {X : gX} {A : zA} {i j : Nat} {f : zF} (h : RM X A) (hb : TB (aT A)) (hi : (aT A)[i]? = some f) (hf : f.1 = j) : RM (X.w 52 i 1) (sT A ((aT A).map (hmG j))) := by
  have hT := h.2.2.1
  have hat : ∀ t g, ((aT A).map (hmG j))[t]? = some g → ∃ f', (aT A)[t]? = some f' ∧ g = hmG j f' := fun t g hg => by
    rw [List.getElem?_map] at hg
    obtain ⟨f', h1, h2⟩ := Option.map_eq_some_iff.mp hg
    exact ⟨f', h1, h2.symm⟩
  refine RM_sT (s := aS A) (t := (aT A).map (hmG j)) h (fun a ha => gX.w_ne (by omega)) rfl (fun t j1 j2 j3 => (w_oth (Or.inl (by decide))).trans (h.1 t j1 j2 j3)) ⟨?_, hl_mk (fun t g hg => ?_), hl_mk (fun t g hg => ?_), hl_mk (fun t g hg => ?_)⟩ rfl rfl
  · rw [w_oth (Or.inl (by decide)), hT.1, List.length_map]
  · obtain ⟨f', e1, e2⟩ := hat t g hg
    have q := hl_m hT.2.1 e1
    rw [w_oth (Or.inl (by decide)), q, e2, (hmG_fl j f').1]
  · obtain ⟨f', e1, e2⟩ := hat t g hg
    have q := hl_m hT.2.2.1 e1
    rw [w_oth (Or.inl (by decide)), q, e2]
    unfold hmG
    by_cases c : f'.1 = j
    · rw [if_pos c]
    · rw [if_neg c]
  · obtain ⟨f', e1, e2⟩ := hat t g hg
    have q := hl_m hT.2.2.2 e1
    by_cases c : t = i
    · subst c
      have : f' = f := Option.some.inj (e1.symm.trans hi)
      rw [w_same rfl, e2, this]
      unfold hmG
      rw [if_pos hf]
      rfl
    · rw [w_oth (Or.inr c), q, e2]
      unfold hmG
      rw [if_neg (fun e => c (TB_in hb e1 hi (e.trans hf.symm)))]
theorem C_find {X : gX} {A : zA} {nm : Nat → Nat} {k i : Nat} {f : zF} (h : RC X A nm k) (hb : TB (aT A)) (hi : (aT A)[i]? = some f) : f_Di_find X (nI f.1) = some (gR.a (some (nm f.1)), X) := by
  have hb1 := hb.1
  have hlt := vs_lt hi
  unfold f_Di_find
  refine gI_at (fun j => (X, nI j)) i (gK_lt (by omega)) (fun j hj => ?_) ?_ rfl
  · show f_Di_find_2 X (nI f.1) (nI j) = _
    obtain ⟨f', hf'⟩ := vs_at (l := aT A) (s := j) (by omega)
    obtain ⟨t1, t2, t3, t4⟩ := cT_get (RC_T h) (RC_R h) hf'
    have t5 := (cT_at (RC_T h) hb ⟨f', vs_mem hf', rfl⟩).2.1
    unfold f_Di_find_2 f_Al_size
    rw [gCi_i, t3, if_neg (nI_ge (by omega) (by omega)), t1, gCa_a, gM_s, if_pos t2, t5, if_neg (fun e => by
      have e1 := (nI_eq (by have := hb.2.2 f' (vs_mem hf'); omega) (by have := hb.2.2 f (vs_mem hi); omega)).mp e
      have := TB_in hb hf' hi e1
      omega), nI_1]
  · show f_Di_find_2 X (nI f.1) (nI i) = _
    obtain ⟨t1, t2, t3, t4⟩ := cT_get (RC_T h) (RC_R h) hi
    have t5 := (cT_at (RC_T h) hb ⟨f, vs_mem hi, rfl⟩).2.1
    unfold f_Di_find_2 f_Al_size
    rw [gCi_i, t3, if_neg (nI_ge (by omega) (by omega)), t1, gCa_a, gM_s, if_pos t2, t5, if_pos rfl, t1, gCa_a, gM_s, if_pos t2, gLf_s]
theorem C_findN {X : gX} {A : zA} {nm : Nat → Nat} {k : Nat} {a : Int32} (h : RC X A nm k) (hb : TB (aT A)) (hn : ∀ f, f ∈ aT A → nI f.1 ≠ a) : f_Di_find X a = some (gR.a none, X) := by
  have hb1 := hb.1
  unfold f_Di_find
  refine gI_at (fun j => (X, nI j)) (aT A).length (gK_lt (by omega)) (fun j hj => ?_) ?_ rfl
  · show f_Di_find_2 X a (nI j) = _
    obtain ⟨f', hf'⟩ := vs_at hj
    obtain ⟨t1, t2, t3, t4⟩ := cT_get (RC_T h) (RC_R h) hf'
    have t5 := (cT_at (RC_T h) hb ⟨f', vs_mem hf', rfl⟩).2.1
    unfold f_Di_find_2 f_Al_size
    rw [gCi_i, t3, if_neg (nI_ge (by omega) (by omega)), t1, gCa_a, gM_s, if_pos t2, t5, if_neg (hn f' (vs_mem hf')), nI_1]
  · show f_Di_find_2 X a (nI (aT A).length) = _
    unfold f_Di_find_2 f_Al_size
    rw [gCi_i, (cT_len (RC_T h) (RC_R h)).1, if_pos (nI_le (Nat.le_refl _) (by omega)), gLf_s]
theorem KK_map {A : zA} {j : Nat} (h : KK A) : KK (sT A ((aT A).map (hmG j))) := by
  refine KK_sub (B := sT A ((aT A).map (hmG j))) h id rfl rfl rfl rfl (fun i q => ?_) (fun x hx => ⟨x, hx, rfl, rfl⟩) rfl
  have q' : syn ((aT A).map (hmG j)) i = true := q
  unfold syn at q' ⊢
  rw [List.any_map] at q'
  obtain ⟨f, f1, f2⟩ := List.any_eq_true.mp q'
  refine List.any_eq_true.mpr ⟨f, f1, ?_⟩
  have e : (hmG j f).1 = f.1 ∧ (hmG j f).2.1 = f.2.1 := by
    unfold hmG
    split <;> exact ⟨rfl, rfl⟩
  have f2' : (decide ((hmG j f).1 = i) && (hmG j f).2.1) = true := f2
  rw [e.1, e.2] at f2'
  exact f2'
theorem LVd_ref {F : Option (gR × gX)} {G : gX → Option (gR × gX)} {X : gX} {A : zA} {nm : Nat → Nat} {k p : Nat} {e : Int32} (hM : RM X A) (hC : RC X A nm k) (hI : Inv A k) (h0 : X.I 46 0 = 0) (hK : KK A) (hF : F = some (gR.i (nI p), X.ex)) (hG : ∀ Y, RM Y A → Y.I 46 0 = 0 → G Y = some (gR.v, Xd (Y.w 46 0 e) p)) : LVd F G k := by
  have hMY : RM X.ex A := RM_frC hM frC.rf.ex
  obtain ⟨e1, e2, e3⟩ := z_ref (e := e) hMY
  exact LVd_no hF hC (Z := X.ex.w 46 0 e) (hG _ hMY h0) (RM_d e1) (frM_d e2) (Inv_mono hI (Nat.le_succ k)) hK
theorem L_harm {X : gX} {k : Nat} {a b : Int32} (h : JJ X k) (hk : k < 600) : LVd (f_Lw_harm X a b) (fun Y => f_Mo_harm Y a b) k := by
  obtain ⟨A, nm, hM, hC, hI, h0, hK⟩ := h
  have lim := RC_lim hC (by omega)
  have hb := hI.2.1.1
  by_cases c : a < 0 ∨ ¬ (0 : Int32) ≤ b
  · refine LVd_ref (p := 1) (e := 1) hM hC hI h0 hK ?_ (fun Y hY hY0 => ?_)
    · unfold f_Lw_harm
      have : f_Le_harm X a b = f_Le_harm_8 X := by
        unfold f_Le_harm
        by_cases c1 : a < 0
        · rw [if_pos c1]
        · rw [if_neg c1, if_neg (c.elim (fun q => absurd q c1) id)]
      rw [this]
      unfold f_Le_harm_8
      rw [gCvt_t, if_pos rfl, if_pos lim]
      rfl
    · have : f_Mo_harm Y a b = f_Mo_harm_9 Y a := by
        unfold f_Mo_harm
        by_cases c1 : a < 0
        · rw [if_pos c1]
        · rw [if_neg c1, if_neg (c.elim (fun q => absurd q c1) id)]
      show f_Mo_harm Y a b = _
      rw [this]
      unfold f_Mo_harm_9 f_Mo_harm_14 f_Mo_harm_98
      rw [s_wrong1 hY0 (by decide), gCi_i, if_neg (by decide), z_done_123_1 (w_same rfl), gCi_i]
  · have c1 : ¬ a < 0 := fun q => c (Or.inl q)
    have c2 : (0 : Int32) ≤ b := Classical.not_not.mp (fun q => c (Or.inr q))
    have hG : ∀ Y, Y.I 46 0 = 0 → f_Mo_harm Y a b = (if (Y.I 46 18) = (0 : Int32) then gCi (f_Mo_anyReader Y) (fun x17 X17 => (if x17 = (0 : Int32) then f_Mo_harm_41 X17 a 0 else f_Mo_harm_36 X17 a)) else f_Mo_harm_36 Y a) := fun Y hY0 => by
      unfold f_Mo_harm f_Mo_harm_14
      rw [if_neg c1, if_pos c2, s_wrong0 hY0, gCi_i, if_pos rfl]
    by_cases d : ¬ aS A 18 = 0 ∨ 0 < nro A 4
    · refine LVd_ref (p := 2) (e := 2) hM hC hI h0 hK ?_ (fun Y hY hY0 => ?_)
      · have : f_Le_harm X a b = some (gR.t "java/lang/IllegalStateException", X) := by
          unfold f_Le_harm f_Le_harm_32
          rw [if_neg c1, if_pos c2, cS_18 hC.1]
          by_cases o : aS A 18 = 0
          · have hn := d.elim (fun q => absurd o q) id
            have := nro_le (A := A) 4
            rw [if_pos o, C_openReaders hC, gCi_i, if_neg (nI_nle hn (by omega))]
          · rw [if_neg o]
        unfold f_Lw_harm
        rw [this, gCvt_t, if_neg (by decide), if_pos rfl, if_pos lim]
        rfl
      · have h36 : f_Mo_harm_36 Y a = some (gR.v, Xd (Y.w 46 0 2) 2) := by
          unfold f_Mo_harm_36 f_Mo_harm_41 f_Mo_harm_98
          rw [s_wrong1 hY0 (by decide), gCi_i, if_neg (by decide), z_done_123_2 (w_same rfl), gCi_i]
        show f_Mo_harm Y a b = _
        rw [hG Y hY0, RM_S hY 18 (by decide) (by decide) (by decide)]
        by_cases o : aS A 18 = 0
        · have hn := d.elim (fun q => absurd o q) id
          rw [if_pos o, z_anyReader hY, gCi_i, show decide (0 < nro A 4) = true from decide_eq_true hn, if_neg (by decide), h36]
        · rw [if_neg o, h36]
    · have o : aS A 18 = 0 := Classical.not_not.mp (fun q => d (Or.inl q))
      have hn : ¬ 0 < nro A 4 := fun q => d (Or.inr q)
      obtain ⟨j, hj, rfl⟩ := nI_of c1
      have hG2 : ∀ Y, RM Y A → Y.I 46 0 = 0 → f_Mo_harm Y (nI j) b = f_Mo_harm_41 Y (nI j) 0 := fun Y hY hY0 => by
        rw [hG Y hY0, RM_S hY 18 (by decide) (by decide) (by decide), if_pos o, z_anyReader hY, gCi_i, show decide (0 < nro A 4) = false from decide_eq_false hn, if_pos b2i_f]
      have hL2 : ∀ {r : Option (gR × gX)}, gCa (f_Di_find X (nI j)) (fun x6 X6 => (gO x6 (some (gR.t "java/util/NoSuchElementException", X6)) (fun n7 => (if gFile X6.N n7 then (if (X6.I n7 2) = (0 : Int32) then (if gFile X6.N n7 then gB (X6.w n7 2 1) (fun X11 => some (gR.v, X11)) else none) else some (gR.t "java/lang/IllegalStateException", X6)) else none)))) = r → f_Le_harm X (nI j) b = r := fun hr => by
        unfold f_Le_harm
        rw [if_neg c1, if_pos c2, cS_18 hC.1, if_pos o, C_openReaders hC, gCi_i, if_pos (by rw [show nro A 4 = 0 by omega]; decide)]
        exact hr
      by_cases hh : ∃ f, f ∈ aT A ∧ f.1 = j
      · obtain ⟨f, f1, rfl⟩ := hh
        obtain ⟨i, hi⟩ := List.getElem?_of_mem f1
        have hlt := vs_lt hi
        have hb1 := hb.1
        obtain ⟨t1, -, -, t3, -⟩ := cT_at (RC_T hC) hb ⟨f, f1, rfl⟩
        rw [hrm_at hb hi] at t3
        have q52 : ∀ Y, RM Y A → Y.I 52 i = b2i f.2.2 := fun Y hY => hl_m (g := fun f : zF => b2i f.2.2) hY.2.2.1.2.2.2 hi
        cases ch : f.2.2 with
        | true =>
          rw [ch] at t3
          refine LVd_ref (p := 2) (e := 2) hM hC hI h0 hK ?_ (fun Y hY hY0 => ?_)
          · unfold f_Lw_harm
            rw [hL2 (by rw [C_find hC hb hi, gCa_a, gO_s, if_pos t1, t3, if_neg (by decide)]), gCvt_t, if_neg (by decide), if_pos rfl, if_pos lim]
            rfl
          · show f_Mo_harm Y (nI f.1) b = _
            rw [hG2 Y hY hY0]
            have hp := z_place hY.2.2.1 hb hi
            unfold f_Mo_harm_41 f_Mo_harm_62 f_Mo_harm_98
            rw [s_wrong0 hY0, gCi_i, if_pos rfl, hp, gCi_i, if_pos (nI_pos' (by omega)), s_wrong0 hY0, gCi_i, if_pos rfl, hp, gCi_i, if_pos (gIn_nI (by omega) (by omega)), gn_nI (by omega), q52 Y hY, ch, show b2i true = 1 from rfl, s_wrong1 hY0 (by decide), gCi_i, if_neg (by decide), z_done_123_2 (w_same rfl), gCi_i]
        | false =>
          rw [ch] at t3
          have hC' := RC_hm hC hb (⟨f, f1, rfl⟩ : hav (aT A) f.1)
          have hlo := gFile.lo t1
          have hMX : RM (X.w (nm f.1) 2 1) A := RM_frC hM (frC.rf.w (by omega))
          have hX0 : (X.w (nm f.1) 2 1).I 46 0 = 0 := by rw [gX.w_ne (by omega)]; exact h0
          have hM' := RM_hm hMX hb hi rfl
          have e0 : ((X.w (nm f.1) 2 1).w 52 i 1).I 46 0 = 0 := by rw [gX.w_ne (by decide)]; exact hX0
          refine LVd_ok (Y0 := X.w (nm f.1) 2 1) ?_ hC' (Z := (X.w (nm f.1) 2 1).w 52 i 1) ?_ (RM_d hM') (frM_d (frM.rf.w (by omega))) (Inv_map (hmG_fl _) (Inv_mono hI (Nat.le_succ k))) (KK_map hK)
          · unfold f_Lw_harm
            rw [hL2 (by rw [C_find hC hb hi, gCa_a, gO_s, if_pos t1, t3, if_pos b2i_f, if_pos t1, gB_b]), gCvt_v]
          · show f_Mo_harm (X.w (nm f.1) 2 1) (nI f.1) b = _
            rw [hG2 _ hMX hX0]
            have hp := z_place hMX.2.2.1 hb hi
            unfold f_Mo_harm_41 f_Mo_harm_62 f_Mo_harm_98
            rw [s_wrong0 hX0, gCi_i, if_pos rfl, hp, gCi_i, if_pos (nI_pos' (by omega)), s_wrong0 hX0, gCi_i, if_pos rfl, hp, gCi_i, if_pos (gIn_nI (by omega) (by omega)), gn_nI (by omega), q52 _ hMX, ch, show b2i false = 0 from rfl, s_wrong0 hX0, gCi_i, if_pos rfl, hp, gCi_i, if_pos (gIn_nI (by omega) (by omega)), gn_nI (by omega), gB_b, show vp_nar .boolean 1 = 1 from rfl, z_done_123_0 e0, gCi_i]
      · have hne : ∀ f, f ∈ aT A → nI f.1 ≠ nI j := fun f hf e => hh ⟨f, hf, (nI_eq (by have := hb.2.2 f hf; omega) hj).mp e⟩
        refine LVd_ref (p := 3) (e := 3) hM hC hI h0 hK ?_ (fun Y hY hY0 => ?_)
        · unfold f_Lw_harm
          rw [hL2 (by rw [C_findN hC hb hne, gCa_a, gO_n]), gCvt_t, if_neg (by decide), if_neg (by decide), if_pos rfl, if_pos lim]
          rfl
        · show f_Mo_harm Y (nI j) b = _
          rw [hG2 Y hY hY0]
          unfold f_Mo_harm_41 f_Mo_harm_62 f_Mo_harm_98
          rw [s_wrong0 hY0, gCi_i, if_pos rfl, z_noplace hY.2.2.1 hb hne, gCi_i, if_neg (by decide), s_wrong1 hY0 (by decide), gCi_i, if_neg (by decide), z_done_123_3 (w_same rfl), gCi_i]
