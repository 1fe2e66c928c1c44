/-! THE PURE SIDE: the calls value, many, serial, seen -/
theorem LI_same {F : Option (gR × gX)} {G : gX → Option (gR × gX)} {X : gX} {A : zA} {nm : Nat → Nat} {k : Nat} {v : Int32} (hM : RM X A) (hC : RC X A nm k) (hI : Inv A k) (h0 : X.I 46 0 = 0) (hK : KK A) (hF : F = some (gR.i 0, X.w 116 0 v)) (hG : ∀ Y, RM Y A → Y.I 46 0 = 0 → G Y = some (gR.i v, Xd Y 0)) : LI F G k := by
  have hMY : RM (X.w 116 0 v) A := RM_frC hM (frC.rf.w (by omega))
  exact LI_ok (X := X) (Y := X) hF hC (Z := X.w 116 0 v) (hG _ hMY (by rw [gX.w_ne (by decide)]; exact h0)) (RM_d hMY) (frM_d frM.rf) (Inv_mono hI (Nat.le_succ k)) hK
theorem LI_ref {F : Option (gR × gX)} {G : gX → Option (gR × gX)} {X : gX} {A : zA} {nm : Nat → Nat} {k p : Nat} {e v : Int32} (hp : 0 < p ∧ p < 100) (hM : RM X A) (hC : RC X A nm k) (hI : Inv A k) (h0 : X.I 46 0 = 0) (hK : KK A) (hF : F = some (gR.i (nI p), X.ex)) (hG : ∀ Y, RM Y A → Y.I 46 0 = 0 → G Y = some (gR.i v, Xd (Y.w 46 0 e) p)) : LI F G k := by
  have hMY : RM X.ex A := RM_frC hM frC.rf.ex
  obtain ⟨e1, e2, e3⟩ := z_ref (e := e) hMY
  exact LI_no (X := X) hp hF hC (Z := X.ex.w 46 0 e) (hG _ hMY h0) (RM_d e1) (frM_d e2) (Inv_mono hI (Nat.le_succ k)) hK
/-- an open reader -/
theorem rd_open {X : gX} {A : zA} {nm : Nat → Nat} {k i : Nat} {a : Int32} (hC : RC X A nm k) (hI : Inv A k) (hr : rdS A a i) : CV X (26 + 5 * i + 1) nm (aV A (84 + 8 * i)) ∧ VI (aH A) (dc A) (wr A) (aV A (84 + 8 * i)) ∧ VC (aH A) (aV A (84 + 8 * i)) ∧ gRea (26 + 5 * i) = true ∧ (∀ x, x ∈ (aV A (84 + 8 * i)).1 → hav (aT A) x.1) ∧ dc A ≤ 4096 ∧ X.I 1 3 = nI (dc A) := by
  obtain ⟨h1, h2, h3⟩ := hr
  have ho : ¬ (aV A (84 + 8 * i)).2.2.2.2 ≤ 0 := by
    unfold rdO at h2
    simp only [Bool.and_eq_true] at h2
    simpa using h2.1
  obtain ⟨p1, p2⟩ := hI.2.2.1 (84 + 8 * i) (gVer_r h1) (by omega)
  refine ⟨?_, p1, p2, ?_, fun x hx => (hI.2.2.2.2.1.1.2.2.2.2 i h1 ho x hx).1, hI.1.1.1.2, (cS_5 hC.1).trans hI.1.1.1.1⟩
  · rcases (RC_W hC).2.2 i h1 with ⟨r1, r2⟩ | ⟨r1, r2, r3, r4⟩
    · rw [r1] at ho
      exact absurd (show (0 : Int32) ≤ 0 by decide) ho
    · exact r4
  · have : i = 0 ∨ i = 1 ∨ i = 2 ∨ i = 3 := by omega
    rcases this with rfl | rfl | rfl | rfl <;> rfl
/-- live, with that key -/
def lk (A : zA) (V : zV) (a : Int32) (e : Nat) : Bool := V.2.1 e && decide (aE A 0 e = a)
def lst (P : Nat → Bool) (l : List Nat) : Nat → Option Nat
  | 0 => none
  | k + 1 => if P (l.getD k 0) = true then some k else lst P l k
theorem lst_s {P : Nat → Bool} {l : List Nat} : ∀ {k j : Nat}, lst P l k = some j → j < k ∧ P (l.getD j 0) = true ∧ ∀ i, j < i → i < k → P (l.getD i 0) = false
  | 0, j, h => by cases h
  | k + 1, j, h => by
    unfold lst at h
    by_cases c : P (l.getD k 0) = true
    · rw [if_pos c] at h
      have := Option.some.inj h
      subst this
      exact ⟨by omega, c, fun i h1 h2 => by omega⟩
    · rw [if_neg c] at h
      obtain ⟨h1, h2, h3⟩ := lst_s h
      refine ⟨by omega, h2, fun i i1 i2 => ?_⟩
      by_cases e : i = k
      · rw [e]; exact Bool.not_eq_true _ ▸ c
      · exact h3 i i1 (by omega)
theorem lst_n {P : Nat → Bool} {l : List Nat} : ∀ {k : Nat}, lst P l k = none → ∀ i, i < k → P (l.getD i 0) = false
  | 0, _, i, hi => absurd hi (by omega)
  | k + 1, h, i, hi => by
    unfold lst at h
    by_cases c : P (l.getD k 0) = true
    · rw [if_pos c] at h
      cases h
    · rw [if_neg c] at h
      by_cases e : i = k
      · rw [e]; exact Bool.not_eq_true _ ▸ c
      · exact lst_n h i (by omega)
theorem getD_at {l : List Nat} {i d : Nat} (h : l[i]? = some d) : l.getD i 0 = d := by rw [List.getD_eq_getElem?_getD, h]; rfl
/-- the loop of value in the reference -/
theorem z_valLoop {X : gX} {A : zA} {n : Nat} {a : Int32} {r : gR × gX} (h : RM X A) (hn : gVer n = true) (hB : VB (aD A) (aV A n)) (hd : ∀ e, e ∈ fl (aD A) (aV A n).1 → e < 4096) (h0 : X.I 46 0 = 0) (hr : f_Mo_value_64 X n (li (lst (lk A (aV A n) a) (fl (aD A) (aV A n).1) (fl (aD A) (aV A n).1).length)) = some r) : gI (fun s : gX × Int32 × Int32 => f_Mo_value_12 s.1 a n s.2.1 s.2.2) gK (X, (-1), 0) = some r := by
  have hV := RM_V h n hn
  have hb2 := hB.2.1
  have hdo := z_docs hV hB
  refine gI_at (fun k => (X, li (lst (lk A (aV A n) a) (fl (aD A) (aV A n).1) k), nI k)) (fl (aD A) (aV A n).1).length (gK_lt (by omega)) (fun k hk => ?_) ?_ rfl
  · show f_Mo_value_12 X a n (li (lst (lk A (aV A n) a) (fl (aD A) (aV A n).1) k)) (nI k) = _
    obtain ⟨d, hdk⟩ := vs_at hk
    have q5 := hl_m hV.2.2.2.1 hdk
    have q6 := hl_m hV.2.2.2.2.1 hdk
    have hd4 := hd d (vs_mem hdk)
    have j1 : gIn (nI k) 4096 = true := gIn_nI (by omega) (by omega)
    have eP : lst (lk A (aV A n) a) (fl (aD A) (aV A n).1) (k + 1) = if lk A (aV A n) a d = true then some k else lst (lk A (aV A n) a) (fl (aD A) (aV A n).1) k := by
      show (if lk A (aV A n) a ((fl (aD A) (aV A n).1).getD k 0) = true then some k else lst (lk A (aV A n) a) (fl (aD A) (aV A n).1) k) = _
      rw [getD_at hdk]
    unfold f_Mo_value_12 f_Mo_value_58
    rw [hdo, gCi_i, if_neg (nI_ge hk (by omega)), h0, if_pos rfl, if_pos j1, gn_nI (by omega), q6, q5, eP, nI_1]
    unfold lk
    cases cl : (aV A n).2.1 d with
    | false => rw [if_pos b2i_f]; simp
    | true =>
      rw [if_neg (by decide), if_pos j1, if_pos (gIn_nI hd4 (by omega)), gn_nI (by omega), h.2.1.1]
      by_cases ck : aE A 0 d = a
      · rw [if_pos ck]; simp [ck, li]
      · rw [if_neg ck]; simp [ck]
  · show f_Mo_value_12 X a n (li (lst (lk A (aV A n) a) (fl (aD A) (aV A n).1) (fl (aD A) (aV A n).1).length)) (nI (fl (aD A) (aV A n).1).length) = _
    unfold f_Mo_value_12
    rw [hdo, gCi_i, if_pos (nI_le (Nat.le_refl _) (by omega)), hr, gLf_s]
theorem L_value {X : gX} {k : Nat} {a b : Int32} (h : JJ X k) (hk : k < 600) : LI (f_Lw_value X a b) (fun Y => f_Mo_value Y a b) k := by
  obtain ⟨A, nm, hM, hC, hI, h0, hK⟩ := h
  have lim := RC_lim hC (by omega)
  rcases rd_em A a with ⟨i, hr⟩ | hr
  · obtain ⟨o1, o2, o3, o4, o5, o6, o7⟩ := rd_open hC hI hr
    have hi := hr.1
    obtain ⟨v1, v2, v3⟩ := VB_of o2 o6
    have hlk : ∀ e, lk A (aV A (84 + 8 * i)) b e = true → e ∈ fl (aD A) (aV A (84 + 8 * i)).1 := fun e he => o3 e (by unfold lk at he; simp only [Bool.and_eq_true] at he; exact he.1)
    have turn : ∀ e, e < dc A → f_Le_value_20 X b (26 + 5 * i + 1) (nI e) = if lk A (aV A (84 + 8 * i)) b e = true then some (Sum.inr (gR.i (aE A 1 e), X)) else some (Sum.inl (nI e - 1)) := fun e he => by
      have j1 : gIn (nI e) 4096 = true := gIn_nI (by omega) (by omega)
      unfold f_Le_value_20 f_Le_value_60
      rw [if_neg (nI_pos (by omega)), if_pos j1, gn_nI (by omega), o1.2.2.2 e (by omega), show nI e + -1 = nI e - 1 by rw [Int32.sub_eq_add_neg]]
      unfold lk
      cases cl : (aV A (84 + 8 * i)).2.1 e with
      | false => rw [if_pos b2i_f]; simp
      | true =>
        rw [if_neg (by decide), if_pos j1, hC.2.2.1.1]
        by_cases ck : aE A 0 e = b
        · rw [if_pos ck, if_pos j1, hC.2.2.1.2.1, gLf_s]; simp [ck]
        · rw [if_neg ck]; simp [ck]
    have key := gI_ex (body := fun s : Int32 => f_Le_value_20 X b (26 + 5 * i + 1) s) (fun j => nI (dc A - j) - 1) (fun j => lk A (aV A (84 + 8 * i)) b (dc A - 1 - j)) (fun j => (gR.i (aE A 1 (dc A - 1 - j)), X)) (gR.t "java/util/NoSuchElementException", X) (dc A) (by omega) (fun j hj hp => by
      show f_Le_value_20 X b (26 + 5 * i + 1) (nI (dc A - j) - 1) = _
      rw [nI_m1 (by omega), show dc A - j - 1 = dc A - 1 - j by omega, turn _ (by omega), if_neg (by rw [hp]; simp), show dc A - (j + 1) = dc A - 1 - j by omega]) (fun j hj hp => by
      show f_Le_value_20 X b (26 + 5 * i + 1) (nI (dc A - j) - 1) = _
      rw [nI_m1 (by omega), show dc A - j - 1 = dc A - 1 - j by omega, turn _ (by omega), if_pos hp]) (by
      show f_Le_value_20 X b (26 + 5 * i + 1) (nI (dc A - dc A) - 1) = _
      rw [Nat.sub_self]
      unfold f_Le_value_20
      rw [if_pos (by decide), gLf_s]) (s0 := nI (dc A) - 1) rfl
    have hsz := fun Y (hY : RM Y A) (hY0 : Y.I 46 0 = 0) (r : gR × gX) hq => z_valLoop (a := b) (r := r) hY (gVer_r hi) v1 (fun e he => by have := v3 e he; omega) hY0 hq
    rcases key with ⟨j, hj, hp, hq, e⟩ | ⟨hq, e⟩
    · refine LI_same hM hC hI h0 hK (v := aE A 1 (dc A - 1 - j)) ?_ (fun Y hY hY0 => ?_)
      · unfold f_Lw_value f_Le_value
        rw [C_rdS hC hr, gCat_a, gM_s, if_pos o4, o7, e, gCit_i, gB_b]
      · show f_Mo_value Y a b = _
        unfold f_Mo_value
        rw [z_rdS hY hr, gCa_a, gM_s, if_pos (gVer_r hi)]
        refine hsz Y hY hY0 _ ?_
        cases hl9 : lst (lk A (aV A (84 + 8 * i)) b) (fl (aD A) (aV A (84 + 8 * i)).1) (fl (aD A) (aV A (84 + 8 * i)).1).length with
        | none =>
          obtain ⟨t, ht⟩ := List.getElem?_of_mem (hlk _ hp)
          have := lst_n hl9 t (vs_lt ht)
          rw [getD_at ht, hp] at this
          cases this
        | some t =>
          obtain ⟨t1, t2, t3⟩ := lst_s hl9
          obtain ⟨d, hd⟩ := vs_at t1
          rw [getD_at hd] at t2
          have hdm := v3 d (vs_mem hd)
          have ed : d = dc A - 1 - j := by
            rcases Nat.lt_trichotomy d (dc A - 1 - j) with c | c | c
            · obtain ⟨s, hs⟩ := List.getElem?_of_mem (hlk _ hp)
              have hst : t < s := by
                rcases Nat.lt_trichotomy t s with c2 | c2 | c2
                · exact c2
                · subst c2
                  have := Option.some.inj (hd.symm.trans hs)
                  omega
                · obtain ⟨s1, s2⟩ := List.getElem?_eq_some_iff.mp hs
                  obtain ⟨d1, d2⟩ := List.getElem?_eq_some_iff.mp hd
                  have := List.pairwise_iff_getElem.mp v2 s t s1 d1 c2
                  rw [s2, d2] at this
                  omega
              have := t3 s hst (vs_lt hs)
              rw [getD_at hs, hp] at this
              cases this
            · exact c
            · have := hq (dc A - 1 - d) (by omega)
              rw [show dc A - 1 - (dc A - 1 - d) = d by omega, t2] at this
              cases this
          have hb2 := v1.2.1
          have ht4 : t < 4096 := by have : (fl (aD A) (aV A (84 + 8 * i)).1).length ≤ 4096 := hb2; omega
          have q5 := hl_m (RM_V hY _ (gVer_r hi)).2.2.2.1 hd
          unfold f_Mo_value_64 f_Mo_value_75
          rw [show li (some t) = nI t from rfl, if_pos (nI_pos' (by omega)), s_wrong0 hY0, gCi_i, if_pos rfl, if_pos (gIn_nI ht4 (by omega)), gn_nI (by omega), q5, if_pos (gIn_nI (by omega) (by omega)), gn_nI (by omega), z_done_3_0 hY0, gCi_i, hY.2.1.2.1, ed]
    · refine LI_ref (p := 1) (e := 3) (v := 0) (by omega) hM hC hI h0 hK ?_ (fun Y hY hY0 => ?_)
      · unfold f_Lw_value f_Le_value
        rw [C_rdS hC hr, gCat_a, gM_s, if_pos o4, o7, e, gCit_t, if_pos rfl, if_pos lim]
        rfl
      · show f_Mo_value Y a b = _
        unfold f_Mo_value
        rw [z_rdS hY hr, gCa_a, gM_s, if_pos (gVer_r hi)]
        refine hsz Y hY hY0 _ ?_
        cases hl9 : lst (lk A (aV A (84 + 8 * i)) b) (fl (aD A) (aV A (84 + 8 * i)).1) (fl (aD A) (aV A (84 + 8 * i)).1).length with
        | some t =>
          obtain ⟨t1, t2, t3⟩ := lst_s hl9
          obtain ⟨d, hd⟩ := vs_at t1
          rw [getD_at hd] at t2
          have hdm := v3 d (vs_mem hd)
          have := hq (dc A - 1 - d) (by omega)
          rw [show dc A - 1 - (dc A - 1 - d) = d by omega, t2] at this
          cases this
        | none =>
          unfold f_Mo_value_64 f_Mo_value_75
          rw [show li none = -1 from rfl, if_neg (by decide), s_wrong1 hY0 (by decide), gCi_i, if_neg (by decide), z_done_3_3 (w_same rfl), gCi_i]
  · refine LI_ref (p := 1) (e := 3) (v := 0) (by omega) hM hC hI h0 hK ?_ (fun Y hY hY0 => ?_)
    · unfold f_Lw_value f_Le_value
      rw [C_rdN hC hr, gCat_t, gCit_t, if_pos rfl, if_pos lim]
      rfl
    · have hd : dc A ≤ 4096 := hI.1.1.1.2
      obtain ⟨v1, v2, v3⟩ := VB_of (hI.2.2.1 84 rfl (by decide)).1 hd
      have hdo := z_docs (RM_V (RM_e (e := 3) hY) 84 rfl) v1
      have h64 : f_Mo_value_64 (Y.w 46 0 3) 84 (-1) = some (gR.i 0, Xd (Y.w 46 0 3) 1) := by
        unfold f_Mo_value_64 f_Mo_value_75
        rw [if_neg (by decide), s_wrong, if_neg (by decide), if_neg (by rw [w_same rfl]; decide), gCi_i, if_neg (by decide), z_done_3_3 (w_same rfl), gCi_i]
      show f_Mo_value Y a b = _
      unfold f_Mo_value
      rw [z_rdN hY hY0 hr, gCa_a, gM_s, if_pos (show gVer 84 = true from rfl)]
      refine gI_at (fun _ => (Y.w 46 0 3, (-1), 0)) 0 (gK_lt (by omega)) (fun j hj => absurd hj (by omega)) ?_ rfl
      show f_Mo_value_12 (Y.w 46 0 3) b 84 (-1) 0 = _
      unfold f_Mo_value_12
      rw [hdo, gCi_i]
      by_cases c : nI (fl (aD A) (aV A 84).1).length ≤ 0
      · rw [if_pos c, h64, gLf_s]
      · rw [if_neg c, if_neg (by rw [w_same rfl]; decide), h64, gLf_s]
/-- the loop of many in the reference -/
theorem z_manyLoop {X : gX} {A : zA} {n : Nat} {a : Int32} {r : gR × gX} (h : RM X A) (hn : gVer n = true) (hB : VB (aD A) (aV A n)) (hd : ∀ e, e ∈ fl (aD A) (aV A n).1 → e < 4096) (hr : (gCi (f_Mo_done X (nI ((fl (aD A) (aV A n).1).countP (lk A (aV A n) a))) 3) (fun x5 X5 => some (gR.i x5, X5))) = some r) : gI (fun s : gX × Int32 × Int32 => f_Mo_many_12 s.1 a n s.2.1 s.2.2) gK (X, 0, 0) = some r := by
  have hV := RM_V h n hn
  have hb2 := hB.2.1
  have hdo := z_docs hV hB
  refine gI_at (fun k => (X, nI (((fl (aD A) (aV A n).1).take k).countP (lk A (aV A n) a)), nI k)) (fl (aD A) (aV A n).1).length (gK_lt (by omega)) (fun k hk => ?_) ?_ rfl
  · show f_Mo_many_12 X a n (nI (((fl (aD A) (aV A n).1).take k).countP (lk A (aV A n) a))) (nI k) = _
    obtain ⟨d, hdk⟩ := vs_at hk
    have q5 := hl_m hV.2.2.2.1 hdk
    have q6 := hl_m hV.2.2.2.2.1 hdk
    have hd4 := hd d (vs_mem hdk)
    have j1 : gIn (nI k) 4096 = true := gIn_nI (by omega) (by omega)
    have eP : ((fl (aD A) (aV A n).1).take (k + 1)).countP (lk A (aV A n) a) = ((fl (aD A) (aV A n).1).take k).countP (lk A (aV A n) a) + if lk A (aV A n) a d = true then 1 else 0 := by
      rw [List.take_add_one, hdk, List.countP_append]
      simp [List.countP_cons]
    unfold f_Mo_many_12 f_Mo_many_50
    rw [hdo, gCi_i, if_neg (nI_ge hk (by omega)), if_pos j1, gn_nI (by omega), q6, q5, eP, nI_1, nI_1]
    unfold lk
    cases cl : (aV A n).2.1 d with
    | false => rw [if_pos b2i_f]; simp
    | true =>
      rw [if_neg (by decide), if_pos j1, if_pos (gIn_nI hd4 (by omega)), gn_nI (by omega), h.2.1.1]
      by_cases ck : aE A 0 d = a
      · rw [if_pos ck]; simp [ck]
      · rw [if_neg ck]; simp [ck]
  · show f_Mo_many_12 X a n (nI (((fl (aD A) (aV A n).1).take (fl (aD A) (aV A n).1).length).countP (lk A (aV A n) a))) (nI (fl (aD A) (aV A n).1).length) = _
    rw [List.take_length]
    unfold f_Mo_many_12
    rw [hdo, gCi_i, if_pos (nI_le (Nat.le_refl _) (by omega))]
    cases q : f_Mo_done X (nI ((fl (aD A) (aV A n).1).countP (lk A (aV A n) a))) 3 with
    | none => rw [q] at hr; cases hr
    | some p =>
      rw [q] at hr
      obtain ⟨p1, p2⟩ := p
      rcases p1 with u | u | u | u
      · cases hr
      · have : r = (gR.i u, p2) := (Option.some.inj hr).symm
        rw [this]
        rfl
      · cases hr
      · cases hr
theorem L_many {X : gX} {k : Nat} {a b : Int32} (h : JJ X k) (hk : k < 600) : LI (f_Lw_many X a b) (fun Y => f_Mo_many Y a b) k := by
  obtain ⟨A, nm, hM, hC, hI, h0, hK⟩ := h
  have lim := RC_lim hC (by omega)
  rcases rd_em A a with ⟨i, hr⟩ | hr
  · obtain ⟨o1, o2, o3, o4, o5, o6, o7⟩ := rd_open hC hI hr
    have hi := hr.1
    obtain ⟨v1, v2, v3⟩ := VB_of o2 o6
    have hcnt : cnt (lk A (aV A (84 + 8 * i)) b) 0 (dc A) = (fl (aD A) (aV A (84 + 8 * i)).1).countP (lk A (aV A (84 + 8 * i)) b) := cnt_list v2 (fun e he => by have := v3 e he; omega) (fun e _ _ he => o3 e (by unfold lk at he; simp only [Bool.and_eq_true] at he; exact he.1))
    refine LI_same hM hC hI h0 hK (v := nI (cnt (lk A (aV A (84 + 8 * i)) b) 0 (dc A))) ?_ (fun Y hY hY0 => ?_)
    · have hl9 : gI (fun s : Int32 × Int32 => f_Le_many_15 X b (26 + 5 * i + 1) s.1 s.2) gK (0, 0) = some (gR.i (nI (cnt (lk A (aV A (84 + 8 * i)) b) 0 (dc A))), X) := by
        refine gI_at (fun j => (nI (cnt (lk A (aV A (84 + 8 * i)) b) 0 j), nI j)) (dc A) (gK_lt (by omega)) (fun e he => ?_) ?_ rfl
        · show f_Le_many_15 X b (26 + 5 * i + 1) (nI (cnt (lk A (aV A (84 + 8 * i)) b) 0 e)) (nI e) = _
          have j1 : gIn (nI e) 4096 = true := gIn_nI (by omega) (by omega)
          have eP : cnt (lk A (aV A (84 + 8 * i)) b) 0 (e + 1) = cnt (lk A (aV A (84 + 8 * i)) b) 0 e + if lk A (aV A (84 + 8 * i)) b e = true then 1 else 0 := by
            show cnt (lk A (aV A (84 + 8 * i)) b) 0 e + (if lk A (aV A (84 + 8 * i)) b (0 + e) = true then 1 else 0) = _
            rw [Nat.zero_add]
          unfold f_Le_many_15 f_Le_many_54
          rw [o7, if_neg (nI_ge he (by omega)), if_pos j1, gn_nI (by omega), o1.2.2.2 e (by omega), eP, nI_1, nI_1]
          unfold lk
          cases cl : (aV A (84 + 8 * i)).2.1 e with
          | false => rw [if_pos b2i_f]; simp
          | true =>
            rw [if_neg (by decide), if_pos j1, hC.2.2.1.1]
            by_cases ck : aE A 0 e = b
            · rw [if_pos ck]; simp [ck]
            · rw [if_neg ck]; simp [ck]
        · show f_Le_many_15 X b (26 + 5 * i + 1) (nI (cnt (lk A (aV A (84 + 8 * i)) b) 0 (dc A))) (nI (dc A)) = _
          unfold f_Le_many_15
          rw [o7, if_pos (nI_le (Nat.le_refl _) (by omega)), gLf_s]
      unfold f_Lw_many f_Le_many
      rw [C_rdS hC hr, gCat_a, gM_s, if_pos o4, hl9, gCit_i, gB_b]
    · show f_Mo_many Y a b = _
      unfold f_Mo_many
      rw [z_rdS hY hr, gCa_a, gM_s, if_pos (gVer_r hi)]
      exact z_manyLoop hY (gVer_r hi) v1 (fun e he => by have := v3 e he; omega) (by rw [z_done_3_0 hY0, gCi_i, hcnt])
  · refine LI_ref (p := 1) (e := 3) (v := 0) (by omega) hM hC hI h0 hK ?_ (fun Y hY hY0 => ?_)
    · unfold f_Lw_many f_Le_many
      rw [C_rdN hC hr, gCat_t, gCit_t, if_pos rfl, if_pos lim]
      rfl
    · have hd : dc A ≤ 4096 := hI.1.1.1.2
      obtain ⟨v1, v2, v3⟩ := VB_of (hI.2.2.1 84 rfl (by decide)).1 hd
      show f_Mo_many Y a b = _
      unfold f_Mo_many
      rw [z_rdN hY hY0 hr, gCa_a, gM_s, if_pos (show gVer 84 = true from rfl)]
      exact z_manyLoop (A := A) (n := 84) (RM_e hY) rfl v1 (fun e he => by have := v3 e he; omega) (by rw [z_done_3_3 (w_same rfl), gCi_i])
