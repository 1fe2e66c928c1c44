/-! THE PURE SIDE: the calls serial, seen, segment, harm -/
theorem srt_lt {l : List Nat} {i j d e : Nat} (h : l.Pairwise (· < ·)) (hi : l[i]? = some d) (hj : l[j]? = some e) (hij : i < j) : d < e := by
  obtain ⟨i1, i2⟩ := List.getElem?_eq_some_iff.mp hi
  obtain ⟨j1, j2⟩ := List.getElem?_eq_some_iff.mp hj
  have := List.pairwise_iff_getElem.mp h i j i1 j1 hij
  rw [i2, j2] at this
  exact this
theorem cnt_pre {l : List Nat} {p : Nat → Bool} {j d : Nat} (hs : l.Pairwise (· < ·)) (hc : ∀ e, p e = true → e ∈ l) (hj : l[j]? = some d) : (l.take j).countP p = cnt p 0 d := by
  symm
  refine cnt_list (hs.sublist (List.take_sublist j l)) (fun e he => ?_) (fun e _ h2 h3 => ?_)
  · obtain ⟨t, ht⟩ := List.getElem?_of_mem he
    have h1 := vs_lt ht
    rw [List.length_take] at h1
    rw [List.getElem?_take, if_pos (by omega)] at ht
    have := srt_lt hs ht hj (by omega)
    omega
  · obtain ⟨t, ht⟩ := List.getElem?_of_mem (hc e h3)
    have h1 : t < j := by
      rcases Nat.lt_trichotomy t j with c | c | c
      · exact c
      · subst c
        have := Option.some.inj (ht.symm.trans hj)
        omega
      · have := srt_lt hs hj ht c
        omega
    exact List.mem_of_getElem? (i := t) (by rw [List.getElem?_take, if_pos h1]; exact ht)
/-- the place is the one asked for -/
def ser (V : zV) (b : Int32) (e : Nat) : Bool := V.2.1 e && decide (nI (cnt V.2.1 0 e) = b)
theorem L_serial {X : gX} {k : Nat} {a b : Int32} (h : JJ X k) (hk : k < 600) : LI (f_Lw_serial X a b) (fun Y => f_Mo_serial Y a b) k := by
  obtain ⟨A, nm, hM, hC, hI, h0, hK⟩ := h
  have lim := RC_lim hC (by omega)
  rcases rd_em A a with ⟨i, hr⟩ | hr
  · obtain ⟨o1, o2, o3, o4, o5, o6, o7⟩ := rd_open hC hI hr
    have hi := hr.1
    obtain ⟨v1, v2, v3⟩ := VB_of o2 o6
    have v2' : (fl (aD A) (aV A (84 + 8 * i)).1).Pairwise (· < ·) := v2
    have hb2 : (fl (aD A) (aV A (84 + 8 * i)).1).length ≤ 4096 := v1.2.1
    have hsl : ∀ e, ser (aV A (84 + 8 * i)) b e = true → e ∈ fl (aD A) (aV A (84 + 8 * i)).1 := fun e he => o3 e (by unfold ser at he; simp only [Bool.and_eq_true] at he; exact he.1)
    have turn : ∀ e, e < dc A → f_Le_serial_15 X b (26 + 5 * i + 1) (nI (cnt (aV A (84 + 8 * i)).2.1 0 e)) (nI e) = if ser (aV A (84 + 8 * i)) b e = true then some (Sum.inr (gR.i (aE A 2 e), X)) else some (Sum.inl (nI (cnt (aV A (84 + 8 * i)).2.1 0 (e + 1)), nI (e + 1))) := fun e he => by
      have j1 : gIn (nI e) 4096 = true := gIn_nI (by omega) (by omega)
      have eP : cnt (aV A (84 + 8 * i)).2.1 0 (e + 1) = cnt (aV A (84 + 8 * i)).2.1 0 e + if (aV A (84 + 8 * i)).2.1 e = true then 1 else 0 := by
        show cnt (aV A (84 + 8 * i)).2.1 0 e + (if (aV A (84 + 8 * i)).2.1 (0 + e) = true then 1 else 0) = _
        rw [Nat.zero_add]
      unfold f_Le_serial_15 f_Le_serial_57
      rw [o7, if_neg (nI_ge he (by omega)), if_pos j1, gn_nI (by omega), o1.2.2.2 e (by omega), nI_1, nI_1, eP]
      unfold ser
      cases cl : (aV A (84 + 8 * i)).2.1 e with
      | false => rw [if_pos b2i_f]; simp
      | true =>
        rw [if_neg (by decide)]
        by_cases ck : nI (cnt (aV A (84 + 8 * i)).2.1 0 e) = b
        · rw [if_pos ck, if_pos j1, hC.2.2.1.2.2, gLf_s]; simp [ck]
        · rw [if_neg ck]; simp [ck]
    have key := gI_ex (body := fun s : Int32 × Int32 => f_Le_serial_15 X b (26 + 5 * i + 1) s.1 s.2) (fun e => (nI (cnt (aV A (84 + 8 * i)).2.1 0 e), nI e)) (fun e => ser (aV A (84 + 8 * i)) b e) (fun e => (gR.i (aE A 2 e), X)) (gR.t "java/util/NoSuchElementException", X) (dc A) (by omega) (fun e he hp => by
      show f_Le_serial_15 X b (26 + 5 * i + 1) _ _ = _
      rw [turn e he, if_neg (by rw [hp]; simp)]) (fun e he hp => by
      show f_Le_serial_15 X b (26 + 5 * i + 1) _ _ = _
      rw [turn e he, if_pos hp]) (by
      show f_Le_serial_15 X b (26 + 5 * i + 1) _ (nI (dc A)) = _
      unfold f_Le_serial_15
      rw [o7, if_pos (nI_le (Nat.le_refl _) (by omega)), gLf_s]) (s0 := (0, 0)) rfl
    have rkey := fun Y (hY : RM Y A) (hY0 : Y.I 46 0 = 0) => gI_ex (body := fun s : gX × Int32 × Int32 => f_Mo_serial_12 s.1 b (84 + 8 * i) s.2.1 s.2.2) (fun j => (Y, nI (((fl (aD A) (aV A (84 + 8 * i)).1).take j).countP (aV A (84 + 8 * i)).2.1), nI j)) (fun j => ser (aV A (84 + 8 * i)) b ((fl (aD A) (aV A (84 + 8 * i)).1).getD j 0)) (fun j => (gR.i (aE A 2 ((fl (aD A) (aV A (84 + 8 * i)).1).getD j 0)), Xd Y 0)) (gR.i 0, Xd (Y.w 46 0 3) 1) (fl (aD A) (aV A (84 + 8 * i)).1).length (by omega) (by
      intro j hj hp
      obtain ⟨d, hd⟩ := vs_at hj
      rw [getD_at hd] at hp
      have hdm := v3 d (vs_mem hd)
      have hV := RM_V hY _ (gVer_r hi)
      have q5 := hl_m hV.2.2.2.1 hd
      have q6 := hl_m hV.2.2.2.2.1 hd
      have j1 : gIn (nI j) 4096 = true := gIn_nI (by omega) (by omega)
      have ep := cnt_pre v2' o3 hd
      show f_Mo_serial_12 Y b (84 + 8 * i) (nI (((fl (aD A) (aV A (84 + 8 * i)).1).take j).countP (aV A (84 + 8 * i)).2.1)) (nI j) = _
      unfold f_Mo_serial_12 f_Mo_serial_68
      rw [z_docs hV v1, gCi_i, if_neg (nI_ge hj (by omega)), hY0, if_pos rfl, if_pos j1, gn_nI (by omega), q6, nI_1, nI_1]
      have eP : ((fl (aD A) (aV A (84 + 8 * i)).1).take (j + 1)).countP (aV A (84 + 8 * i)).2.1 = ((fl (aD A) (aV A (84 + 8 * i)).1).take j).countP (aV A (84 + 8 * i)).2.1 + if (aV A (84 + 8 * i)).2.1 d = true then 1 else 0 := by
        rw [List.take_add_one, hd, List.countP_append]
        simp [List.countP_cons]
      rw [eP]
      unfold ser at hp
      cases cl : (aV A (84 + 8 * i)).2.1 d with
      | false => rw [if_pos b2i_f]; simp
      | true =>
        rw [cl, Bool.true_and, decide_eq_false_iff_not, ← ep] at hp
        rw [if_neg (by decide), if_neg hp]
        simp) (by
      intro j hj hp
      obtain ⟨d, hd⟩ := vs_at hj
      rw [getD_at hd] at hp
      have hdm := v3 d (vs_mem hd)
      have hV := RM_V hY _ (gVer_r hi)
      have q5 := hl_m hV.2.2.2.1 hd
      have q6 := hl_m hV.2.2.2.2.1 hd
      have j1 : gIn (nI j) 4096 = true := gIn_nI (by omega) (by omega)
      have ep := cnt_pre v2' o3 hd
      show f_Mo_serial_12 Y b (84 + 8 * i) (nI (((fl (aD A) (aV A (84 + 8 * i)).1).take j).countP (aV A (84 + 8 * i)).2.1)) (nI j) = some (Sum.inr (gR.i (aE A 2 ((fl (aD A) (aV A (84 + 8 * i)).1).getD j 0)), Xd Y 0))
      unfold ser at hp
      simp only [Bool.and_eq_true, decide_eq_true_eq] at hp
      unfold f_Mo_serial_12
      rw [z_docs hV v1, gCi_i, if_neg (nI_ge hj (by omega)), hY0, if_pos rfl, if_pos j1, gn_nI (by omega), q6, hp.1, if_neg (by decide), ep, if_pos hp.2, if_pos j1, q5, if_pos (gIn_nI (by omega) (by omega)), gn_nI (by omega), z_done_3_0 hY0, gCi_i, hY.2.1.2.2, gLf_s, getD_at hd]) (by
      have hV := RM_V hY _ (gVer_r hi)
      show f_Mo_serial_12 Y b (84 + 8 * i) _ (nI (fl (aD A) (aV A (84 + 8 * i)).1).length) = _
      unfold f_Mo_serial_12 f_Mo_serial_74
      rw [z_docs hV v1, gCi_i, if_pos (nI_le (Nat.le_refl _) (by omega)), s_wrong1 hY0 (by decide), gCi_i, z_done_3_3 (w_same rfl), gCi_i, gLf_s]) (s0 := (Y, 0, 0)) rfl
    rcases key with ⟨e, he, hp, hq, ee⟩ | ⟨hq, ee⟩
    · refine LI_same hM hC hI h0 hK (v := aE A 2 e) ?_ (fun Y hY hY0 => ?_)
      · unfold f_Lw_serial f_Le_serial
        rw [C_rdS hC hr, gCat_a, gM_s, if_pos o4, ee, gCit_i, gB_b]
      · show f_Mo_serial Y a b = _
        unfold f_Mo_serial
        rw [z_rdS hY hr, gCa_a, gM_s, if_pos (gVer_r hi)]
        obtain ⟨t, ht⟩ := List.getElem?_of_mem (hsl e hp)
        rcases rkey Y hY hY0 with ⟨j, j1, j2, j3, j4⟩ | ⟨j3, j4⟩
        · rw [j4]
          obtain ⟨d, hd⟩ := vs_at j1
          rw [getD_at hd] at j2 ⊢
          have hdm := v3 d (vs_mem hd)
          have : d = e := by
            rcases Nat.lt_trichotomy d e with c | c | c
            · rw [hq d c] at j2
              cases j2
            · exact c
            · have htj : t < j := by
                rcases Nat.lt_trichotomy t j with c2 | c2 | c2
                · exact c2
                · subst c2
                  have := Option.some.inj (hd.symm.trans ht)
                  omega
                · have := srt_lt v2' hd ht c2
                  omega
              have := j3 t htj
              rw [getD_at ht, hp] at this
              cases this
          rw [this]
        · have := j3 t (vs_lt ht)
          rw [getD_at ht, hp] at this
          cases this
    · refine LI_ref (p := 1) (e := 3) (v := 0) (by omega) hM hC hI h0 hK ?_ (fun Y hY hY0 => ?_)
      · unfold f_Lw_serial f_Le_serial
        rw [C_rdS hC hr, gCat_a, gM_s, if_pos o4, ee, gCit_t, if_pos rfl, if_pos lim]
        rfl
      · show f_Mo_serial Y a b = _
        unfold f_Mo_serial
        rw [z_rdS hY hr, gCa_a, gM_s, if_pos (gVer_r hi)]
        rcases rkey Y hY hY0 with ⟨j, j1, j2, j3, j4⟩ | ⟨j3, j4⟩
        · obtain ⟨d, hd⟩ := vs_at j1
          rw [getD_at hd] at j2
          rw [hq d (v3 d (vs_mem hd))] at j2
          cases j2
        · exact j4
  · refine LI_ref (p := 1) (e := 3) (v := 0) (by omega) hM hC hI h0 hK ?_ (fun Y hY hY0 => ?_)
    · unfold f_Lw_serial f_Le_serial
      rw [C_rdN hC hr, gCat_t, gCit_t, if_pos rfl, if_pos lim]
      rfl
    · have hd : dc A ≤ 4096 := hI.1.1.1.2
      obtain ⟨v1, v2, v3⟩ := VB_of (hI.2.2.1 84 rfl (by decide)).1 hd
      have hdo := z_docs (RM_V (RM_e (e := 3) hY) 84 rfl) v1
      have h74 : f_Mo_serial_74 (Y.w 46 0 3) = some (gR.i 0, Xd (Y.w 46 0 3) 1) := by
        unfold f_Mo_serial_74
        rw [s_wrong, if_neg (by decide), if_neg (by rw [w_same rfl]; decide), gCi_i, z_done_3_3 (w_same rfl), gCi_i]
      show f_Mo_serial Y a b = _
      unfold f_Mo_serial
      rw [z_rdN hY hY0 hr, gCa_a, gM_s, if_pos (show gVer 84 = true from rfl)]
      refine gI_at (fun _ => (Y.w 46 0 3, 0, 0)) 0 (gK_lt (by omega)) (fun j hj => absurd hj (by omega)) ?_ rfl
      show f_Mo_serial_12 (Y.w 46 0 3) b 84 0 0 = _
      unfold f_Mo_serial_12
      rw [hdo, gCi_i]
      by_cases c : nI (fl (aD A) (aV A 84).1).length ≤ 0
      · rw [if_pos c, h74, gLf_s]
      · rw [if_neg c, if_neg (by rw [w_same rfl]; decide), h74, gLf_s]
theorem L_seen {X : gX} {k : Nat} {a b : Int32} (h : JJ X k) (hk : k < 600) : LI (f_Lw_seen X a b) (fun Y => f_Mo_seen Y a b) k := by
  obtain ⟨A, nm, hM, hC, hI, h0, hK⟩ := h
  have lim := RC_lim hC (by omega)
  by_cases c : b < 0 ∨ ¬ b ≤ 2
  · refine LI_ref (p := 1) (e := 1) (v := 0) (by omega) hM hC hI h0 hK ?_ (fun Y hY hY0 => ?_)
    · unfold f_Lw_seen f_Le_seen
      rw [C_rangeT c, gCvt_t, gCit_t, if_pos rfl, if_pos lim]
      rfl
    · have hG : f_Mo_seen Y a b = f_Mo_seen_10 Y a b := by
        unfold f_Mo_seen
        rcases c with c | c
        · rw [if_pos c]
        · by_cases c2 : b < 0
          · rw [if_pos c2]
          · rw [if_neg c2, if_neg c]
      show f_Mo_seen Y a b = _
      rw [hG]
      unfold f_Mo_seen_10 f_Mo_seen_15
      rw [s_wrong1 hY0 (by decide), gCi_i, if_neg (by decide), z_done_13_1 (w_same rfl), gCi_i]
  · have c1 : ¬ b < 0 := fun q => c (Or.inl q)
    have c2 : b ≤ 2 := Classical.not_not.mp (fun q => c (Or.inr q))
    have hG : ∀ Y, f_Mo_seen Y a b = f_Mo_seen_15 Y a b 0 := fun Y => by
      unfold f_Mo_seen
      rw [if_neg c1, if_pos c2]
    rcases rd_em A a with ⟨i, hr⟩ | hr
    · obtain ⟨o1, o2, o3, o4, o5, o6, o7⟩ := rd_open hC hI hr
      have hi := hr.1
      obtain ⟨v1, v2, v3⟩ := VB_of o2 o6
      by_cases d0 : b = 0
      · have hcnt : cnt (aV A (84 + 8 * i)).2.1 0 (dc A) = (fl (aD A) (aV A (84 + 8 * i)).1).countP (aV A (84 + 8 * i)).2.1 := cnt_list v2 (fun e he => by have := v3 e he; omega) (fun e _ _ he => o3 e he)
        refine LI_same hM hC hI h0 hK (v := nI ((fl (aD A) (aV A (84 + 8 * i)).1).countP (aV A (84 + 8 * i)).2.1)) ?_ (fun Y hY hY0 => ?_)
        · have := C_lb (a := 0) (z := dc A) o1 (by omega) o6
          rw [Nat.sub_zero, hcnt] at this
          unfold f_Lw_seen f_Le_seen
          rw [C_rangeV c1 c2, gCvt_v, C_rdS hC hr, gCat_a, gM_s, if_pos o4, if_pos d0, o7]
          rw [show (0 : Int32) = nI 0 from rfl, this, gCi_i, gCit_i, gB_b]
        · show f_Mo_seen Y a b = _
          rw [hG Y]
          unfold f_Mo_seen_15 f_Mo_seen_79
          rw [s_wrong0 hY0, gCi_i, if_pos rfl, z_rdS hY hr, gCa_a, gM_s, if_pos (gVer_r hi), hY0, if_pos rfl, if_pos d0, z_live (RM_V hY _ (gVer_r hi)) v1, gCi_i, z_done_13_0 hY0, gCi_i]
      · by_cases d1 : b = 1
        · refine LI_same hM hC hI h0 hK (v := nI (fl (aD A) (aV A (84 + 8 * i)).1).length) ?_ (fun Y hY hY0 => ?_)
          · unfold f_Lw_seen f_Le_seen
            rw [C_rangeV c1 c2, gCvt_v, C_rdS hC hr, gCat_a, gM_s, if_pos o4, if_neg d0, if_pos d1, C_entries o1 (RC_T hC) hI.2.1.1 o2 o6 o5, gCi_i, gCit_i, gB_b]
          · show f_Mo_seen Y a b = _
            rw [hG Y]
            unfold f_Mo_seen_15 f_Mo_seen_79
            rw [s_wrong0 hY0, gCi_i, if_pos rfl, z_rdS hY hr, gCa_a, gM_s, if_pos (gVer_r hi), hY0, if_pos rfl, if_neg d0, if_pos d1, z_docs (RM_V hY _ (gVer_r hi)) v1, gCi_i, z_done_13_0 hY0, gCi_i]
        · refine LI_same hM hC hI h0 hK (v := nI (aV A (84 + 8 * i)).1.length) ?_ (fun Y hY hY0 => ?_)
          · unfold f_Lw_seen f_Le_seen
            rw [C_rangeV c1 c2, gCvt_v, C_rdS hC hr, gCat_a, gM_s, if_pos o4, if_neg d0, if_neg d1, o1.1, gCit_i, gB_b]
          · show f_Mo_seen Y a b = _
            rw [hG Y]
            unfold f_Mo_seen_15 f_Mo_seen_79
            rw [s_wrong0 hY0, gCi_i, if_pos rfl, z_rdS hY hr, gCa_a, gM_s, if_pos (gVer_r hi), hY0, if_pos rfl, if_neg d0, if_neg d1, (RM_V hY _ (gVer_r hi)).1.1, z_done_13_0 hY0, gCi_i]
    · refine LI_ref (p := 2) (e := 3) (v := 0) (by omega) hM hC hI h0 hK ?_ (fun Y hY hY0 => ?_)
      · unfold f_Lw_seen f_Le_seen
        rw [C_rangeV c1 c2, gCvt_v, C_rdN hC hr, gCat_t, gCit_t, if_neg (by decide), if_pos rfl, if_pos lim]
        rfl
      · show f_Mo_seen Y a b = _
        rw [hG Y]
        unfold f_Mo_seen_15
        rw [s_wrong0 hY0, gCi_i, if_pos rfl, z_rdN hY hY0 hr, gCa_a, gM_s, if_pos (show gVer 84 = true from rfl), if_neg (by rw [w_same rfl]; decide), z_done_13_3 (w_same rfl), gCi_i]
