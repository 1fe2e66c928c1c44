/-! THE PURE SIDE: nothing new; what is prepared -/
def nnw (A : zA) : Bool := !decide (aS A 20 ≤ 0) && smV (aV A 54) (aV A 62)
theorem fst_eq {l m : List zS} (h1 : l.length = m.length) (h2 : ∀ i, i < l.length → (l[i]?).map Prod.fst = (m[i]?).map Prod.fst) : l.map Prod.fst = m.map Prod.fst := by
  apply List.ext_getElem?
  intro i
  rw [List.getElem?_map, List.getElem?_map]
  by_cases c : i < l.length
  · exact h2 i c
  · rw [List.getElem?_eq_none_iff.mpr (by omega), List.getElem?_eq_none_iff.mpr (by omega)]
theorem z_nothingNew {E : List Nat} {X : gX} {A : zA} {k p : Nat} (h : RM X A) (hm : MidE E A k p) (hb : bf A = 0) (hk : k ≤ 600) : f_Mo_nothingNew X = some (gR.i (b2i (nnw A)), X) := by
  have hV := RM_V h 54 rfl
  have hU := RM_V h 62 rfl
  have hd := hm.2.1.1.1.2
  obtain ⟨w1, w1'⟩ := hm.2.2.2.2.1.1
  rw [hb, Nat.sub_zero] at w1 w1'
  obtain ⟨v1, v2, v3⟩ := VB_of w1 hd
  obtain ⟨j1, j2⟩ := hm.2.2.2.1 62 rfl (by decide)
  obtain ⟨u1, u2, u3⟩ := VB_of j1 hd
  have hlV : (aV A 54).1.length ≤ 4096 := v1.1
  have hlU : (aV A 62).1.length ≤ 4096 := u1.1
  have hf4 : (fl (aD A) (aV A 54).1).length ≤ 4096 := v1.2.1
  have hvc : VC (aH A) (aV A 54) := fun e he => (w1' e he).elim id (fun q => by omega)
  have h20 := hm.2.1.2.1.2.1
  have hw := hm.2.1.1.2.2.2
  have e20 := RM_S h 20 (by decide) (by decide) (by decide)
  unfold f_Mo_nothingNew f_Mo_nothingNew_41 nnw
  rw [e20]
  by_cases g : aS A 20 ≤ 0
  · have g0 : aS A 20 = 0 := by
      rw [h20.1] at g ⊢
      rcases Nat.eq_zero_or_pos (gn (aS A 20)) with e | e
      · rw [e]; rfl
      · exact absurd g (nI_nle e (by have := h20.2; omega))
    rw [if_pos g0]
    simp [g, b2i]
  · have g0 : ¬ aS A 20 = 0 := fun e => g (by rw [e]; decide)
    rw [if_neg g0, hV.1.1, hU.1.1, hV.1.2.1, hU.1.2.1]
    have eN : (!decide (aS A 20 ≤ 0) && smV (aV A 54) (aV A 62)) = smV (aV A 54) (aV A 62) := by simp [g]
    rw [eN]
    unfold smV sm1
    by_cases c1 : (aV A 54).1.length = (aV A 62).1.length
    · rw [if_pos (by rw [c1])]
      by_cases c2 : (aV A 54).2.2.2.1 = (aV A 62).2.2.2.1
      · rw [if_pos c2]
        have key := gI_ex (body := fun s : Int32 => f_Mo_nothingNew_45 X s) (fun i => nI i) (fun i => decide (¬ ((aV A 54).1[i]?).map Prod.fst = ((aV A 62).1[i]?).map Prod.fst)) (fun _ => (gR.i 0, X)) (match gI (fun s : gX × Int32 => f_Mo_nothingNew_87 s.1 s.2) gK (X, 0) with | some r => r | none => (gR.i 0, X)) (aV A 54).1.length (by omega) (fun i hi hp => ?_) (fun i hi hp => ?_) ?_ (s0 := 0) rfl
        · rcases key with ⟨i, hi, hp, -, e⟩ | ⟨hp, e⟩
          · rw [e]
            have : decide (∀ i, i < (aV A 54).1.length → ((aV A 54).1[i]?).map Prod.fst = ((aV A 62).1[i]?).map Prod.fst) = false := by
              rw [decide_eq_false_iff_not]
              intro q
              exact (of_decide_eq_true hp) (q i hi)
            rw [this]
            simp [b2i]
          · rw [e]
            have hq : ∀ i, i < (aV A 54).1.length → ((aV A 54).1[i]?).map Prod.fst = ((aV A 62).1[i]?).map Prod.fst := fun i hi => by
              have q := hp i hi
              rw [decide_eq_false_iff_not] at q
              exact Classical.not_not.mp q
            have hfl : fl (aD A) (aV A 62).1 = fl (aD A) (aV A 54).1 := by rw [fl_fst, fl_fst, fst_eq c1 hq]
            have key2 := gI_ex (body := fun s : gX × Int32 => f_Mo_nothingNew_87 s.1 s.2) (fun i => (X, nI i)) (fun i => decide (¬ (aV A 54).2.1 ((fl (aD A) (aV A 54).1).getD i 0) = (aV A 62).2.1 ((fl (aD A) (aV A 54).1).getD i 0))) (fun _ => (gR.i 0, X)) (gR.i 1, X) (fl (aD A) (aV A 54).1).length (by have : (fl (aD A) (aV A 54).1).length ≤ 4096 := v1.2.1; omega) (fun i hi hp' => ?_) (fun i hi hp' => ?_) ?_ (s0 := (X, 0)) rfl
            · have hsm : ∀ {b : Bool}, ((∀ i, i < (fl (aD A) (aV A 54).1).length → (aV A 54).2.1 ((fl (aD A) (aV A 54).1).getD i 0) = (aV A 62).2.1 ((fl (aD A) (aV A 54).1).getD i 0)) ↔ b = true) → smE 4096 (aV A 54) (aV A 62) = b := fun {b} hb' => by
                have e1 : smE 4096 (aV A 54) (aV A 62) = true ↔ b = true := by
                  rw [← hb', smE_iff]
                  constructor
                  · intro q i hi
                    obtain ⟨d, hd'⟩ := vs_at hi
                    rw [getD_at hd']
                    have hdl : d < dc A := v3 d (vs_mem hd')
                    exact q d (by omega)
                  · intro q e he
                    by_cases ce : e ∈ fl (aD A) (aV A 54).1
                    · obtain ⟨i, hi⟩ := List.getElem?_of_mem ce
                      have := q i (vs_lt hi)
                      rw [getD_at hi] at this
                      exact this
                    · have f1 : (aV A 54).2.1 e = false := by
                        cases q1 : (aV A 54).2.1 e with
                        | false => rfl
                        | true => exact absurd (hvc e q1) ce
                      have f2 : (aV A 62).2.1 e = false := by
                        cases q1 : (aV A 62).2.1 e with
                        | false => rfl
                        | true => exact absurd (by rw [← hfl]; exact j2 e q1) ce
                      rw [f1, f2]
                cases b with
                | true => exact e1.mpr rfl
                | false =>
                  cases q : smE 4096 (aV A 54) (aV A 62) with
                  | false => rfl
                  | true => exact absurd (e1.mp q) (by simp)
              rcases key2 with ⟨i, hi, hp', -, e'⟩ | ⟨hp', e'⟩
              · rw [e', hsm (b := false) ⟨fun q => absurd (q i hi) (of_decide_eq_true hp'), fun q => by cases q⟩]
                simp [b2i]
              · rw [e', hsm (b := true) ⟨fun _ => rfl, fun _ i hi => by
                  have q := hp' i hi
                  rw [decide_eq_false_iff_not] at q
                  exact Classical.not_not.mp q⟩]
                have : decide (∀ i, i < (aV A 54).1.length → ((aV A 54).1[i]?).map Prod.fst = ((aV A 62).1[i]?).map Prod.fst) = true := decide_eq_true hq
                rw [this]
                simp [c1, c2, b2i]
            · obtain ⟨d, hd'⟩ := vs_at hi
              have hd4 : i < 4096 := by have : (fl (aD A) (aV A 54).1).length ≤ 4096 := v1.2.1; omega
              have q1 := hl_m hV.2.2.2.2.1 hd'
              have q2 := hl_m (g := fun d => b2i ((aV A 62).2.1 d)) hU.2.2.2.2.1 (by rw [hfl]; exact hd')
              have jj : gIn (nI i) 4096 = true := gIn_nI hd4 (by omega)
              rw [decide_eq_false_iff_not, Classical.not_not, getD_at hd'] at hp'
              show f_Mo_nothingNew_87 X (nI i) = _
              unfold f_Mo_nothingNew_87
              rw [z_docs hV v1, gCi_i, if_neg (nI_ge hi (by omega)), if_pos jj, if_pos jj, gn_nI (by omega), q1, q2, if_pos (by rw [hp']), nI_1]
            · obtain ⟨d, hd'⟩ := vs_at hi
              have hd4 : i < 4096 := by have : (fl (aD A) (aV A 54).1).length ≤ 4096 := v1.2.1; omega
              have q1 := hl_m hV.2.2.2.2.1 hd'
              have q2 := hl_m (g := fun d => b2i ((aV A 62).2.1 d)) hU.2.2.2.2.1 (by rw [hfl]; exact hd')
              have jj : gIn (nI i) 4096 = true := gIn_nI hd4 (by omega)
              rw [decide_eq_true_eq, getD_at hd'] at hp'
              show f_Mo_nothingNew_87 X (nI i) = _
              unfold f_Mo_nothingNew_87
              rw [z_docs hV v1, gCi_i, if_neg (nI_ge hi (by omega)), if_pos jj, if_pos jj, gn_nI (by omega), q1, q2, if_neg (fun e => hp' (b2i_in e)), gLf_s]
            · show f_Mo_nothingNew_87 X (nI (fl (aD A) (aV A 54).1).length) = _
              unfold f_Mo_nothingNew_87
              have : (fl (aD A) (aV A 54).1).length ≤ 4096 := v1.2.1
              rw [z_docs hV v1, gCi_i, if_pos (nI_le (Nat.le_refl _) (by omega)), gLf_s]
        · obtain ⟨x, hx⟩ := vs_at hi
          obtain ⟨y, hy⟩ := vs_at (l := (aV A 62).1) (s := i) (by omega)
          rw [decide_eq_false_iff_not, Classical.not_not, hx, hy] at hp
          have e1 : x.1 = y.1 := Option.some.inj hp
          have q1 := hl_m hV.2.1.1 hx
          have q2 : X.I 63 i = nI y.1 := hl_m (g := fun x : zS => nI x.1) hU.2.1.1 hy
          have jj : gIn (nI i) 4097 = true := gIn_nI (by omega) (by omega)
          show f_Mo_nothingNew_45 X (nI i) = _
          unfold f_Mo_nothingNew_45
          rw [hV.1.1, if_neg (nI_ge hi (by omega)), if_pos jj, if_pos jj, gn_nI (by omega), q1, q2, if_pos (by rw [e1]), nI_1]
        · obtain ⟨x, hx⟩ := vs_at hi
          obtain ⟨y, hy⟩ := vs_at (l := (aV A 62).1) (s := i) (by omega)
          rw [decide_eq_true_eq, hx, hy] at hp
          have e1 : ¬ x.1 = y.1 := fun q => hp (congrArg some q)
          have q1 := hl_m hV.2.1.1 hx
          have q2 : X.I 63 i = nI y.1 := hl_m (g := fun x : zS => nI x.1) hU.2.1.1 hy
          have n1 := (w1.1 x (vs_mem hx)).2.1
          have n2 := (j1.1 y (vs_mem hy)).2.1
          have jj : gIn (nI i) 4097 = true := gIn_nI (by omega) (by omega)
          show f_Mo_nothingNew_45 X (nI i) = _
          unfold f_Mo_nothingNew_45
          rw [hV.1.1, if_neg (nI_ge hi (by omega)), if_pos jj, if_pos jj, gn_nI (by omega), q1, q2, if_neg (fun e => e1 ((nI_eq (by omega) (by omega)).mp e)), gLf_s]
        · show f_Mo_nothingNew_45 X (nI (aV A 54).1.length) = _
          unfold f_Mo_nothingNew_45
          rw [hV.1.1, if_pos (nI_le (Nat.le_refl _) (by omega))]
          have : ∃ r, gI (fun s : gX × Int32 => f_Mo_nothingNew_87 s.1 s.2) gK (X, 0) = some r := by
            have key2 := gI_ex (body := fun s : gX × Int32 => f_Mo_nothingNew_87 s.1 s.2) (fun i => (X, nI i)) (fun i => decide (¬ X.I 60 i = X.I 68 i)) (fun _ => (gR.i 0, X)) (gR.i 1, X) (fl (aD A) (aV A 54).1).length (by omega) (fun i hi hp' => ?_) (fun i hi hp' => ?_) ?_ (s0 := (X, 0)) rfl
            · rcases key2 with ⟨i, -, -, -, e'⟩ | ⟨-, e'⟩
              · exact ⟨_, e'⟩
              · exact ⟨_, e'⟩
            · have jj : gIn (nI i) 4096 = true := gIn_nI (by omega) (by omega)
              rw [decide_eq_false_iff_not, Classical.not_not] at hp'
              show f_Mo_nothingNew_87 X (nI i) = _
              unfold f_Mo_nothingNew_87
              rw [z_docs hV v1, gCi_i, if_neg (nI_ge hi (by omega)), if_pos jj, if_pos jj, gn_nI (by omega), if_pos hp', nI_1]
            · have jj : gIn (nI i) 4096 = true := gIn_nI (by omega) (by omega)
              rw [decide_eq_true_eq] at hp'
              show f_Mo_nothingNew_87 X (nI i) = _
              unfold f_Mo_nothingNew_87
              rw [z_docs hV v1, gCi_i, if_neg (nI_ge hi (by omega)), if_pos jj, if_pos jj, gn_nI (by omega), if_neg hp', gLf_s]
            · show f_Mo_nothingNew_87 X (nI (fl (aD A) (aV A 54).1).length) = _
              unfold f_Mo_nothingNew_87
              rw [z_docs hV v1, gCi_i, if_pos (nI_le (Nat.le_refl _) (by omega)), gLf_s]
          obtain ⟨r, er⟩ := this
          rw [er]
          rfl
      · rw [if_neg c2]
        simp [c2, b2i]
    · rw [if_neg (fun q => c1 ((nI_eq (by omega) (by omega)).mp q))]
      simp [c1, b2i]
