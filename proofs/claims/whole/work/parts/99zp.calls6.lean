/-! THE PURE SIDE: the calls count, harm -/
def nro (A : zA) : Nat → Nat
  | 0 => 0
  | n + 1 => nro A n + if (aV A (84 + 8 * n)).2.2.2.2 ≤ 0 then 0 else 1
theorem nro_le {A : zA} : ∀ n, nro A n ≤ n
  | 0 => Nat.le_refl _
  | n + 1 => by
    have := nro_le (A := A) n
    unfold nro
    by_cases c : (aV A (84 + 8 * n)).2.2.2.2 ≤ 0
    · rw [if_pos c]; omega
    · rw [if_neg c]; omega
theorem C_openReaders {X : gX} {A : zA} {nm : Nat → Nat} {k : Nat} (h : RC X A nm k) : f_Le_openReaders X = some (gR.i (nI (nro A 4)), X) := by
  unfold f_Le_openReaders
  refine gI_at (fun i => (nI (nro A i), nI i)) 4 (gK_lt (by omega)) (fun i hi => ?_) ?_ rfl
  · show f_Le_openReaders_4 X (nI (nro A i)) (nI i) = _
    unfold f_Le_openReaders_4 f_Le_openReaders_24
    rw [if_neg (show ¬ (4 : Int32) ≤ nI i from nI_ge (a := i) (b := 4) hi (by omega)), if_pos (gIn_nI (by omega) (by omega)), gn_nI (by omega), nI_1, nI_1]
    have e : nro A (i + 1) = nro A i + if (aV A (84 + 8 * i)).2.2.2.2 ≤ 0 then 0 else 1 := rfl
    rw [e]
    rcases (RC_W h).2.2 i hi with ⟨r1, r2⟩ | ⟨r1, r2, r3, r4⟩
    · rw [r2, if_pos rfl, if_pos (by rw [r1]; decide)]
      rfl
    · rw [r2, if_neg (by decide), if_neg r1]
  · show f_Le_openReaders_4 X (nI (nro A 4)) (nI 4) = _
    unfold f_Le_openReaders_4
    rw [if_pos (by decide), gLf_s]
theorem z_readersOpen {X : gX} {A : zA} (h : RM X A) : f_Mo_readersOpen X = some (gR.i (nI (nro A 4)), X) := by
  unfold f_Mo_readersOpen
  refine gI_at (fun i => (nI (nro A i), nI i)) 4 (gK_lt (by omega)) (fun i hi => ?_) ?_ rfl
  · show f_Mo_readersOpen_13 X 4 (nI (nro A i)) (nI i) = _
    unfold f_Mo_readersOpen_13 f_Mo_readersOpen_36
    rw [if_neg (show ¬ (4 : Int32) ≤ nI i from nI_ge (a := i) (b := 4) hi (by omega)), if_pos (gIn_nI (by omega) (by omega)), gn_nI (by omega), nI_1, nI_1, (RM_V h _ (gVer_r hi)).1.2.2.2]
    have e : nro A (i + 1) = nro A i + if (aV A (84 + 8 * i)).2.2.2.2 ≤ 0 then 0 else 1 := rfl
    rw [e]
    by_cases c : (aV A (84 + 8 * i)).2.2.2.2 ≤ 0
    · rw [if_pos c, if_pos c]
      rfl
    · rw [if_neg c, if_neg c]
  · show f_Mo_readersOpen_13 X 4 (nI (nro A 4)) (nI 4) = _
    unfold f_Mo_readersOpen_13
    rw [if_pos (by decide), gLf_s]
theorem z_anyReader {X : gX} {A : zA} (h : RM X A) : f_Mo_anyReader X = some (gR.i (b2i (decide (0 < nro A 4))), X) := by
  unfold f_Mo_anyReader
  have key := gI_ex (body := fun s : Int32 => f_Mo_anyReader_10 X 4 s) (fun i => nI i) (fun i => !decide ((aV A (84 + 8 * i)).2.2.2.2 ≤ 0)) (fun _ => (gR.i 1, X)) (gR.i 0, X) 4 (by omega) (fun i hi hp => by
    show f_Mo_anyReader_10 X 4 (nI i) = _
    have hp' : (aV A (84 + 8 * i)).2.2.2.2 ≤ 0 := by simpa using hp
    unfold f_Mo_anyReader_10
    rw [if_neg (show ¬ (4 : Int32) ≤ nI i from nI_ge (a := i) (b := 4) hi (by omega)), if_pos (gIn_nI (by omega) (by omega)), gn_nI (by omega), (RM_V h _ (gVer_r hi)).1.2.2.2, if_pos hp', nI_1]) (fun i hi hp => by
    show f_Mo_anyReader_10 X 4 (nI i) = _
    have hp' : ¬ (aV A (84 + 8 * i)).2.2.2.2 ≤ 0 := by simpa using hp
    unfold f_Mo_anyReader_10
    rw [if_neg (show ¬ (4 : Int32) ≤ nI i from nI_ge (a := i) (b := 4) hi (by omega)), if_pos (gIn_nI (by omega) (by omega)), gn_nI (by omega), (RM_V h _ (gVer_r hi)).1.2.2.2, if_neg hp', gLf_s]) (by
    show f_Mo_anyReader_10 X 4 (nI 4) = _
    unfold f_Mo_anyReader_10
    rw [if_pos (by decide), gLf_s]) (s0 := 0) rfl
  have mono : ∀ n m, n ≤ m → nro A n ≤ nro A m := by
    intro n m hnm
    induction hnm with
    | refl => exact Nat.le_refl _
    | step _ ih => exact Nat.le_trans ih (Nat.le_add_right _ _)
  rcases key with ⟨i, hi, hp, -, e⟩ | ⟨hp, e⟩
  · rw [e]
    have hp' : ¬ (aV A (84 + 8 * i)).2.2.2.2 ≤ 0 := by simpa using hp
    have h1 : nro A (i + 1) = nro A i + 1 := by
      show nro A i + (if (aV A (84 + 8 * i)).2.2.2.2 ≤ 0 then 0 else 1) = _
      rw [if_neg hp']
    have h2 := mono (i + 1) 4 (by omega)
    rw [show decide (0 < nro A 4) = true from decide_eq_true (by omega)]
    rfl
  · rw [e]
    have h0 : ∀ n, n ≤ 4 → nro A n = 0 := by
      intro n
      induction n with
      | zero => intro _; rfl
      | succ n ih =>
        intro hn
        have hp' : (aV A (84 + 8 * n)).2.2.2.2 ≤ 0 := by simpa using hp n (by omega)
        show nro A n + (if (aV A (84 + 8 * n)).2.2.2.2 ≤ 0 then 0 else 1) = _
        rw [if_pos hp', ih (by omega)]
    rw [h0 4 (by omega)]
    rfl
theorem z_bufferLive {X : gX} {A : zA} (h : RM X A) (h23 : aS A 23 = nI (bf A)) (hb : bf A ≤ 4096) : f_Mo_bufferLive X = some (gR.i (nI (cnt (aV A 54).2.1 (dc A - bf A) (bf A))), X) := by
  have e23 : X.I 46 23 = nI (bf A) := (RM_S h 23 (by decide) (by decide) (by decide)).trans h23
  unfold f_Mo_bufferLive
  refine gI_at (fun i => (nI (cnt (aV A 54).2.1 (dc A - bf A) i), nI i)) (bf A) (gK_lt (by omega)) (fun i hi => ?_) ?_ rfl
  · show f_Mo_bufferLive_4 X (nI (cnt (aV A 54).2.1 (dc A - bf A) i)) (nI i) = _
    have hB := (h.2.2.2.2.1 i hi).2
    unfold f_Mo_bufferLive_4 f_Mo_bufferLive_24
    rw [e23, if_neg (nI_ge hi (by omega)), if_pos (gIn_nI (by omega) (by omega)), gn_nI (by omega), hB, nI_1, nI_1]
    cases c : (aV A 54).2.1 (dc A - bf A + i) with
    | false => rw [if_pos b2i_f, cnt_f (by rw [c]; simp)]
    | true => rw [if_neg (by decide), cnt_t c]
  · show f_Mo_bufferLive_4 X (nI (cnt (aV A 54).2.1 (dc A - bf A) (bf A))) (nI (bf A)) = _
    unfold f_Mo_bufferLive_4
    rw [e23, if_pos (nI_le (Nat.le_refl _) (by omega)), gLf_s]
theorem i32_cases {a : Int32} (h1 : ¬ a < 0) (h2 : a ≤ 11) : a = 0 ∨ a = 1 ∨ a = 2 ∨ a = 3 ∨ a = 4 ∨ a = 5 ∨ a = 6 ∨ a = 7 ∨ a = 8 ∨ a = 9 ∨ a = 10 ∨ a = 11 := by
  obtain ⟨j, hj, rfl⟩ := nI_of2 (M := 11) (n := 11) (by decide) h1 h2
  have : j = 0 ∨ j = 1 ∨ j = 2 ∨ j = 3 ∨ j = 4 ∨ j = 5 ∨ j = 6 ∨ j = 7 ∨ j = 8 ∨ j = 9 ∨ j = 10 ∨ j = 11 := by omega
  rcases this with rfl | rfl | rfl | rfl | rfl | rfl | rfl | rfl | rfl | rfl | rfl | rfl <;> decide
/-- the call count -/
theorem L_count {X : gX} {k : Nat} {a : Int32} (h : JJ X k) (hk : k < 600) : ∃ v Y, f_Le_count X a = some (gR.i v, X) ∧ f_Mo_count X a = some (gR.i v, Y) ∧ JJ Y (k + 1) := by
  obtain ⟨A, nm, hM, hC, hI, h0, hK⟩ := h
  have hI1 := Inv_mono hI (Nat.le_succ k)
  suffices hh : ∃ v, f_Le_count X a = some (gR.i v, X) ∧ f_Mo_counted X a = some (gR.i v, X) by
    obtain ⟨v, v1, v2⟩ := hh
    refine ⟨v, Xd X 0, v1, ?_, A, nm, RM_d hM, RC_frM (RC_mono hC (by omega)) (frM_d frM.rf), hI1, Xd_0, hK⟩
    unfold f_Mo_count
    rw [v2, gCi_i, z_done_0_0 h0, gCi_i]
  have e18 := RM_S hM 18 (by decide) (by decide) (by decide)
  have e19 := RM_S hM 19 (by decide) (by decide) (by decide)
  have f18 := cS_18 hC.1
  have f19 := cS_19 hC.1
  have n5 : ∀ c : Int32, (∀ d : Int32, d = 0 ∨ d = 1 ∨ d = 2 ∨ d = 3 ∨ d = 4 → ¬ c = d) → True := fun _ _ => trivial
  by_cases r : a < 0 ∨ ¬ a ≤ 11
  · have ne : ∀ d : Int32, ¬ d < 0 → d ≤ 11 → ¬ a = d := fun d d1 d2 q => by rw [q] at r; exact r.elim d1 (fun q => q d2)
    refine ⟨-1, ?_, ?_⟩
    · unfold f_Le_count f_Le_countOfWriter f_Le_countOfWriter_11
      rw [if_neg (ne 0 (by decide) (by decide)), if_neg (ne 1 (by decide) (by decide)), if_neg (ne 2 (by decide) (by decide)), if_neg (ne 3 (by decide) (by decide)), if_neg (ne 4 (by decide) (by decide))]
      by_cases c1 : a < 5
      · rw [if_pos c1, gCi_i]
      · rw [if_neg c1, if_neg (r.elim (fun q => absurd (Int32.lt_trans q (by decide)) c1) id), gCi_i]
    · unfold f_Mo_counted
      rw [if_neg (ne 0 (by decide) (by decide)), if_neg (ne 1 (by decide) (by decide)), if_neg (ne 2 (by decide) (by decide)), if_neg (ne 3 (by decide) (by decide)), if_neg (ne 4 (by decide) (by decide)), if_neg (ne 5 (by decide) (by decide)), if_neg (ne 6 (by decide) (by decide)), if_neg (ne 7 (by decide) (by decide)), if_neg (ne 8 (by decide) (by decide)), if_neg (ne 9 (by decide) (by decide)), if_neg (ne 10 (by decide) (by decide)), if_neg (ne 11 (by decide) (by decide))]
  · have r1 : ¬ a < 0 := fun q => r (Or.inl q)
    have r2 : a ≤ 11 := Classical.not_not.mp (fun q => r (Or.inr q))
    have lo : ∀ (d : Int32), d = 0 ∨ d = 1 ∨ d = 2 ∨ d = 3 ∨ d = 4 → (∃ v, f_Le_count X d = some (gR.i v, X) ∧ f_Mo_counted X d = some (gR.i v, X)) := by
      intro d hd
      rcases hd with rfl | rfl | rfl | rfl | rfl
      · refine ⟨aS A 12, ?_, ?_⟩
        · unfold f_Le_count
          rw [if_pos rfl, cS_12 hC.1]
        · unfold f_Mo_counted
          rw [if_pos rfl, RM_S hM 12 (by decide) (by decide) (by decide)]
      · refine ⟨nI (aT A).length, ?_, ?_⟩
        · unfold f_Le_count f_Al_size
          rw [if_neg (by decide), if_pos rfl, gCi_i, (cT_len (RC_T hC) (RC_R hC)).1]
        · unfold f_Mo_counted
          rw [if_neg (by decide), if_pos rfl, hM.2.2.1.1]
      · refine ⟨nI (nro A 4), ?_, ?_⟩
        · unfold f_Le_count
          rw [if_neg (by decide), if_neg (by decide), if_pos rfl, C_openReaders hC, gCi_i]
        · unfold f_Mo_counted
          rw [if_neg (by decide), if_neg (by decide), if_pos rfl, z_readersOpen hM, gCi_i]
      · refine ⟨aS A 20, ?_, ?_⟩
        · unfold f_Le_count
          rw [if_neg (by decide), if_neg (by decide), if_neg (by decide), if_pos rfl, cS_20 hC.1]
        · unfold f_Mo_counted
          rw [if_neg (by decide), if_neg (by decide), if_neg (by decide), if_pos rfl, RM_S hM 20 (by decide) (by decide) (by decide)]
      · by_cases o : aS A 18 = 0
        · refine ⟨0, ?_, ?_⟩
          · unfold f_Le_count
            rw [if_neg (by decide), if_neg (by decide), if_neg (by decide), if_neg (by decide), if_pos rfl, f18, if_pos o]
          · unfold f_Mo_counted
            rw [if_neg (by decide), if_neg (by decide), if_neg (by decide), if_neg (by decide), if_pos rfl, e18, if_pos o]
        · refine ⟨1, ?_, ?_⟩
          · unfold f_Le_count
            rw [if_neg (by decide), if_neg (by decide), if_neg (by decide), if_neg (by decide), if_pos rfl, f18, if_neg o]
          · unfold f_Mo_counted
            rw [if_neg (by decide), if_neg (by decide), if_neg (by decide), if_neg (by decide), if_pos rfl, e18, if_neg o]
    have hi : ∀ (d : Int32), d = 5 ∨ d = 6 ∨ d = 7 ∨ d = 8 ∨ d = 9 ∨ d = 10 ∨ d = 11 → (∃ v, f_Le_count X d = some (gR.i v, X) ∧ f_Mo_counted X d = some (gR.i v, X)) := by
      intro d hd
      have hcl : ∀ {r : gR × gX}, f_Le_countOfWriter X d = some r → (∃ v, r = (gR.i v, X)) → f_Le_count X d = some r := by
        intro r hr ⟨v, hv⟩
        unfold f_Le_count
        rcases hd with rfl | rfl | rfl | rfl | rfl | rfl | rfl <;> (rw [if_neg (by decide), if_neg (by decide), if_neg (by decide), if_neg (by decide), if_neg (by decide), hr, hv, gCi_i])
      have d5 : ¬ d < 5 ∧ d ≤ 11 := by rcases hd with rfl | rfl | rfl | rfl | rfl | rfl | rfl <;> decide
      by_cases o : aS A 18 = 0
      · refine ⟨0, hcl ?_ ⟨0, rfl⟩, ?_⟩
        · unfold f_Le_countOfWriter
          rw [if_neg d5.1, if_pos d5.2, f18, if_pos o]
        · unfold f_Mo_counted f_Mo_counted_246
          rcases hd with rfl | rfl | rfl | rfl | rfl | rfl | rfl
          · rw [if_neg (by decide), if_neg (by decide), if_neg (by decide), if_neg (by decide), if_neg (by decide), if_pos rfl, e18, if_pos o]
          · rw [if_neg (by decide), if_neg (by decide), if_neg (by decide), if_neg (by decide), if_neg (by decide), if_neg (by decide), if_pos rfl, e18, if_pos o]
          · rw [if_neg (by decide), if_neg (by decide), if_neg (by decide), if_neg (by decide), if_neg (by decide), if_neg (by decide), if_neg (by decide), if_pos rfl, e18, if_pos o]
          · rw [if_neg (by decide), if_neg (by decide), if_neg (by decide), if_neg (by decide), if_neg (by decide), if_neg (by decide), if_neg (by decide), if_neg (by decide), if_pos rfl, e18, if_pos o]
          · rw [if_neg (by decide), if_neg (by decide), if_neg (by decide), if_neg (by decide), if_neg (by decide), if_neg (by decide), if_neg (by decide), if_neg (by decide), if_neg (by decide), if_pos rfl, e18, if_pos o]
          · rw [if_neg (by decide), if_neg (by decide), if_neg (by decide), if_neg (by decide), if_neg (by decide), if_neg (by decide), if_neg (by decide), if_neg (by decide), if_neg (by decide), if_neg (by decide), if_pos rfl, e18, if_pos o]
          · rw [if_neg (by decide), if_neg (by decide), if_neg (by decide), if_neg (by decide), if_neg (by decide), if_neg (by decide), if_neg (by decide), if_neg (by decide), if_neg (by decide), if_neg (by decide), if_neg (by decide), if_pos rfl, e18, if_pos o]
      · have hw := Wr_of hI o
        obtain ⟨w1, w2, ⟨w3, w4⟩, w5, w8, w9, w10⟩ := hw
        obtain ⟨v1, v2, v3⟩ := VB_of w3 (show dc A - bf A ≤ 4096 by omega)
        have hCV := (RC_W hC).1.1 o
        have h5 := hI.1.1.1.1
        have h23 := hI.1.1.2.1.1
        have h23' := hI.1.1.2.1.2
        have e54 := RM_V hM 54 rfl
        have e23 : X.I 46 23 = nI (bf A) := (RM_S hM 23 (by decide) (by decide) (by decide)).trans h23
        have f5 : X.I 1 3 = nI (dc A) := (cS_5 hC.1).trans h5
        have hbuf : f_Le_buffered X = some (gR.i (nI (bf A)), X) := by
          unfold f_Le_buffered
          rw [f5, hC.2.1 o, h5, h23, pk_sub h23', pk_sub (by omega), show dc A - (dc A - bf A) = bf A by omega]
        have hlb := C_lb (a := 0) (z := dc A) hCV (by omega) w1
        rw [Nat.sub_zero] at hlb
        have hsum : cnt (aV A 54).2.1 0 (dc A) = (fl (aD A) (aV A 54).1).countP (aV A 54).2.1 + cnt (aV A 54).2.1 (dc A - bf A) (bf A) := by
          have q := cnt_add (p := (aV A 54).2.1) (s := 0) (a := dc A - bf A) (bf A)
          rw [show dc A - bf A + bf A = dc A by omega, Nat.zero_add] at q
          rw [q]
          congr 1
          exact cnt_list v2 (fun e he => by have := v3 e he; omega) (fun e _ h2 he => by
            rcases w4 e he with q | q
            · exact q
            · omega)
        have hcw : ∀ v, (if d = (5 : Int32) then some (gR.i (nI (bf A)), X) else (if d = (6 : Int32) then some (gR.i (nI (aV A 54).1.length), X) else (if d = (7 : Int32) then some (gR.i (nI (cnt (aV A 54).2.1 0 (dc A))), X) else (if d = (8 : Int32) then some (gR.i ((nI (fl (aD A) (aV A 54).1).length + nI (bf A)) - nI (cnt (aV A 54).2.1 0 (dc A))), X) else (if d = (9 : Int32) then some (gR.i (aS A 30), X) else (if d = (10 : Int32) then some (gR.i (aV A 54).2.2.2.1, X) else (if aS A 19 = (0 : Int32) then some (gR.i 0, X) else some (gR.i 1, X)))))))) = some (gR.i v, X) → f_Le_count X d = some (gR.i v, X) := by
          intro v hv
          refine hcl ?_ ⟨v, rfl⟩
          unfold f_Le_countOfWriter
          have hlb' : f_Vi_liveBetween X 8 0 (nI (dc A)) = some (gR.i (nI (cnt (aV A 54).2.1 0 (dc A))), X) := hlb
          rw [if_neg d5.1, if_pos d5.2, f18, if_neg o, f5, hlb', gCi_i]
          simp only [hbuf, gCi_i, hCV.1, C_entries hCV (RC_T hC) w2 w3 (show dc A - bf A ≤ 4096 by omega) (fun x hx => (w8 x hx).1), cS_30 hC.1, hCV.2.1, f19]
          exact hv
        have hb4 : cnt (aV A 54).2.1 (dc A - bf A) (bf A) ≤ bf A := cnt_le _
        have hl4 := List.countP_le_length (p := (aV A 54).2.1) (l := fl (aD A) (aV A 54).1)
        have zbl := z_bufferLive hM h23 (by omega)
        rcases hd with rfl | rfl | rfl | rfl | rfl | rfl | rfl
        · refine ⟨_, hcw _ (by rw [if_pos rfl]), ?_⟩
          unfold f_Mo_counted
          rw [if_neg (by decide), if_neg (by decide), if_neg (by decide), if_neg (by decide), if_neg (by decide), if_pos rfl, e18, if_neg o, e23]
        · refine ⟨_, hcw _ (by rw [if_neg (by decide), if_pos rfl]), ?_⟩
          unfold f_Mo_counted
          rw [if_neg (by decide), if_neg (by decide), if_neg (by decide), if_neg (by decide), if_neg (by decide), if_neg (by decide), if_pos rfl, e18, if_neg o, e54.1.1]
        · refine ⟨_, hcw _ (by rw [if_neg (by decide), if_neg (by decide), if_pos rfl]), ?_⟩
          unfold f_Mo_counted
          rw [if_neg (by decide), if_neg (by decide), if_neg (by decide), if_neg (by decide), if_neg (by decide), if_neg (by decide), if_neg (by decide), if_pos rfl, e18, if_neg o, z_live e54 v1, gCi_i, zbl, gCi_i, nI_add, hsum]
        · refine ⟨_, hcw _ (by rw [if_neg (by decide), if_neg (by decide), if_neg (by decide), if_pos rfl]), ?_⟩
          unfold f_Mo_counted
          rw [if_neg (by decide), if_neg (by decide), if_neg (by decide), if_neg (by decide), if_neg (by decide), if_neg (by decide), if_neg (by decide), if_neg (by decide), if_pos rfl, e18, if_neg o, z_docs e54 v1, gCi_i, z_live e54 v1, gCi_i, zbl, gCi_i, e23, hsum, pk_sub hl4, nI_add, pk_sub (by omega), nI_add, pk_sub (by omega)]
          congr 4
          omega
        · refine ⟨_, hcw _ (by rw [if_neg (by decide), if_neg (by decide), if_neg (by decide), if_neg (by decide), if_pos rfl]), ?_⟩
          unfold f_Mo_counted
          rw [if_neg (by decide), if_neg (by decide), if_neg (by decide), if_neg (by decide), if_neg (by decide), if_neg (by decide), if_neg (by decide), if_neg (by decide), if_neg (by decide), if_pos rfl, e18, if_neg o, RM_S hM 30 (by decide) (by decide) (by decide)]
        · refine ⟨_, hcw _ (by rw [if_neg (by decide), if_neg (by decide), if_neg (by decide), if_neg (by decide), if_neg (by decide), if_pos rfl]), ?_⟩
          unfold f_Mo_counted
          rw [if_neg (by decide), if_neg (by decide), if_neg (by decide), if_neg (by decide), if_neg (by decide), if_neg (by decide), if_neg (by decide), if_neg (by decide), if_neg (by decide), if_neg (by decide), if_pos rfl, e18, if_neg o, e54.1.2.1]
        · by_cases p : aS A 19 = 0
          · refine ⟨0, hcw _ (by rw [if_neg (by decide), if_neg (by decide), if_neg (by decide), if_neg (by decide), if_neg (by decide), if_neg (by decide), if_pos p]), ?_⟩
            unfold f_Mo_counted f_Mo_counted_246
            rw [if_neg (by decide), if_neg (by decide), if_neg (by decide), if_neg (by decide), if_neg (by decide), if_neg (by decide), if_neg (by decide), if_neg (by decide), if_neg (by decide), if_neg (by decide), if_neg (by decide), if_pos rfl, e18, if_neg o, e19, if_pos p]
          · refine ⟨1, hcw _ (by rw [if_neg (by decide), if_neg (by decide), if_neg (by decide), if_neg (by decide), if_neg (by decide), if_neg (by decide), if_neg p]), ?_⟩
            unfold f_Mo_counted
            rw [if_neg (by decide), if_neg (by decide), if_neg (by decide), if_neg (by decide), if_neg (by decide), if_neg (by decide), if_neg (by decide), if_neg (by decide), if_neg (by decide), if_neg (by decide), if_neg (by decide), if_pos rfl, e18, if_neg o, e19, if_neg p]
    rcases i32_cases r1 r2 with q | q | q | q | q | q | q | q | q | q | q | q
    · exact lo a (by simp [q])
    · exact lo a (by simp [q])
    · exact lo a (by simp [q])
    · exact lo a (by simp [q])
    · exact lo a (by simp [q])
    · exact hi a (by simp [q])
    · exact hi a (by simp [q])
    · exact hi a (by simp [q])
    · exact hi a (by simp [q])
    · exact hi a (by simp [q])
    · exact hi a (by simp [q])
    · exact hi a (by simp [q])
