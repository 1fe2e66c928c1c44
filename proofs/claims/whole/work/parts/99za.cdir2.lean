/-! THE PURE SIDE: the class's directory: new files, unneeded files -/
def hU (H : zH) (w : Nat) (D : List Nat) (L : Nat → Bool) (tl st en : Nat) : zH := (fun k => if k = w then D else H.1 k, fun k => if k = w then L else H.2.1 k, fun k => if k = w then tl else gTl H k, fun k => if k = w then st else gSt H k, fun k => if k = w then en else gEn H k, H.2.2.2.2.2)
def nmu (nm : Nat → Nat) (w q : Nat) : Nat → Nat := fun k => if k = w then q else nm k
theorem hU_w {H : zH} {w : Nat} {D : List Nat} {L : Nat → Bool} {tl st en : Nat} : (hU H w D L tl st en).1 w = D ∧ (hU H w D L tl st en).2.1 w = L ∧ gTl (hU H w D L tl st en) w = tl ∧ gSt (hU H w D L tl st en) w = st ∧ gEn (hU H w D L tl st en) w = en := ⟨if_pos rfl, if_pos rfl, if_pos rfl, if_pos rfl, if_pos rfl⟩
theorem hU_o {H : zH} {w k : Nat} {D : List Nat} {L : Nat → Bool} {tl st en : Nat} (h : k ≠ w) : (hU H w D L tl st en).1 k = H.1 k ∧ (hU H w D L tl st en).2.1 k = H.2.1 k ∧ gTl (hU H w D L tl st en) k = gTl H k ∧ gSt (hU H w D L tl st en) k = gSt H k ∧ gEn (hU H w D L tl st en) k = gEn H k := ⟨if_neg h, if_neg h, if_neg h, if_neg h, if_neg h⟩
theorem nmu_w {nm : Nat → Nat} {w q : Nat} : nmu nm w q w = q := if_pos rfl
theorem nmu_o {nm : Nat → Nat} {w q k : Nat} (h : k ≠ w) : nmu nm w q k = nm k := if_neg h
/-- only the row of the new file, the directory's and the lists have changed -/
def frD (q : Nat) (X Y : gX) : Prop := (∀ a, a ≠ q → a ≠ 5 → a ≠ 6 → a ≠ 7 → Y.I a = X.I a) ∧ (∀ j, j ≠ 2 → Y.I 5 j = X.I 5 j) ∧ (∀ a, a ≠ 130 → a ≠ 131 → Y.G a = X.G a) ∧ X.N ≤ Y.N
theorem gFile_mono {N M n : Nat} (h : gFile N n = true) (hm : N ≤ M) : gFile M n = true := gFile.of (gFile.lo h) (by have := gFile.hi h; omega)
theorem C_nf39 {X : gX} {q w k tl : Nat} {T : List zF} {nm : Nat → Nat} {H : zH} {Z : List Nat} {D : List Nat} {L : Nat → Bool} (h1 : X.I 6 1 = nI T.length) (h2 : X.I 7 1 = nI Z.length) (hL : T.length ≤ X.L 130) (hL2 : Z.length ≤ X.L 131) (g0 : hl (X.G 130) (T.map (fun f => some (nm f.1)))) (g1 : hl (X.G 131) (Z.map some)) (o0 : ∀ i, gOf X.N (X.G 130 i) = true) (o1 : ∀ i, gOf X.N (X.G 131 i) = true) (nd : (T.map (fun f => nm f.1) ++ Z).Nodup) (nf : ∀ n, n ∈ T.map (fun f => nm f.1) ++ Z → gFile X.N n = true) (hn : T.length + Z.length + 1 = X.N) (hc : ∀ f, f ∈ T → CF X nm H f) (hw : X.I 5 2 = nI w) (hf : ∀ f, f ∈ T → f.1 < w) (hR : RR X k) (hk : k ≤ 600) (hq : gFile X.N q = true) (hq2 : q ∉ T.map (fun f => nm f.1) ++ Z) :
    ∃ Y, f_Di_newFile_39 X (nI tl) q = some (gR.a (some q), Y) ∧ cTZ Y (T ++ [(w, false, false)]) (nmu nm w q) (hU H w D L tl 0 0) Z ∧ frD q X Y ∧ Y.N = X.N ∧ Y.I 5 2 = nI (w + 1) ∧ RR Y k := by
  have hlo := gFile.lo hq
  have hhi := gFile.hi hq
  have hNb := hR.1.1
  unfold f_Di_newFile_39
  simp only [gB_b, w_N, hq, if_true]
  have okq : gOk X.N (some q) = true := by
    unfold gOk
    simp only [Bool.and_eq_true, Bool.or_eq_true, decide_eq_true_eq]
    omega
  simp only [okq, if_true]
  have e0 : ∀ a, a ≠ q → a ≠ 5 → ((((((((X.w q 0 (X.I 5 2)).w q 1 0).w q 2 0).w q 3 1).w q 4 (nI tl)).w q 5 0).w q 6 0).w 5 2 ((((((((X.w q 0 (X.I 5 2)).w q 1 0).w q 2 0).w q 3 1).w q 4 (nI tl)).w q 5 0).w q 6 0).I 5 2 + 1)).I a = X.I a := fun a a1 a2 => by
    rw [gX.w_ne a2, gX.w_ne a1, gX.w_ne a1, gX.w_ne a1, gX.w_ne a1, gX.w_ne a1, gX.w_ne a1, gX.w_ne a1]
  have e5 : (((((((X.w q 0 (X.I 5 2)).w q 1 0).w q 2 0).w q 3 1).w q 4 (nI tl)).w q 5 0).w q 6 0).I 5 = X.I 5 := by
    rw [gX.w_ne (by omega), gX.w_ne (by omega), gX.w_ne (by omega), gX.w_ne (by omega), gX.w_ne (by omega), gX.w_ne (by omega), gX.w_ne (by omega)]
  have e5' : ∀ j, j ≠ 2 → ((((((((X.w q 0 (X.I 5 2)).w q 1 0).w q 2 0).w q 3 1).w q 4 (nI tl)).w q 5 0).w q 6 0).w 5 2 ((((((((X.w q 0 (X.I 5 2)).w q 1 0).w q 2 0).w q 3 1).w q 4 (nI tl)).w q 5 0).w q 6 0).I 5 2 + 1)).I 5 j = X.I 5 j := fun j hj => by
    rw [w_oth (Or.inr hj), e5]
  have e52 : ((((((((X.w q 0 (X.I 5 2)).w q 1 0).w q 2 0).w q 3 1).w q 4 (nI tl)).w q 5 0).w q 6 0).w 5 2 ((((((((X.w q 0 (X.I 5 2)).w q 1 0).w q 2 0).w q 3 1).w q 4 (nI tl)).w q 5 0).w q 6 0).I 5 2 + 1)).I 5 2 = nI (w + 1) := by
    rw [w_same rfl, e5, hw, nI_1]
  have eq : ∀ j, ((((((((X.w q 0 (X.I 5 2)).w q 1 0).w q 2 0).w q 3 1).w q 4 (nI tl)).w q 5 0).w q 6 0).w 5 2 ((((((((X.w q 0 (X.I 5 2)).w q 1 0).w q 2 0).w q 3 1).w q 4 (nI tl)).w q 5 0).w q 6 0).I 5 2 + 1)).I q j = upd (upd (upd (upd (upd (upd (upd (X.I q) 0 (nI w)) 1 0) 2 0) 3 1) 4 (nI tl)) 5 0) 6 0 j := fun j => by
    rw [gX.w_ne (by omega), gX.w_self, gX.w_self, gX.w_self, gX.w_self, gX.w_self, gX.w_self, gX.w_self, hw]
  have eE : gEq X ((((((((X.w q 0 (X.I 5 2)).w q 1 0).w q 2 0).w q 3 1).w q 4 (nI tl)).w q 5 0).w q 6 0).w 5 2 ((((((((X.w q 0 (X.I 5 2)).w q 1 0).w q 2 0).w q 3 1).w q 4 (nI tl)).w q 5 0).w q 6 0).I 5 2 + 1)) := gEq.rf.w.w.w.w.w.w.w.w
  have eG : ((((((((X.w q 0 (X.I 5 2)).w q 1 0).w q 2 0).w q 3 1).w q 4 (nI tl)).w q 5 0).w q 6 0).w 5 2 ((((((((X.w q 0 (X.I 5 2)).w q 1 0).w q 2 0).w q 3 1).w q 4 (nI tl)).w q 5 0).w q 6 0).I 5 2 + 1)).G = X.G := rfl
  generalize (((((((X.w q 0 (X.I 5 2)).w q 1 0).w q 2 0).w q 3 1).w q 4 (nI tl)).w q 5 0).w q 6 0).w 5 2 ((((((((X.w q 0 (X.I 5 2)).w q 1 0).w q 2 0).w q 3 1).w q 4 (nI tl)).w q 5 0).w q 6 0).I 5 2 + 1) = W at e0 e5' e52 eq eE eG ⊢
  obtain ⟨E1, E2, E3, E4⟩ := eE
  obtain ⟨Y, y1, y2, y3, y4, y5, y6, y7, y8⟩ := C_add (X := W) (n := 6) (len := T.length) (q := q) (k := k) (Or.inl rfl) (by rw [e0 6 (by omega) (by omega)]; exact h1) (by rw [E4]; exact hL) (by omega) (RR_fr hR ⟨E1, E2, E3, E4⟩) hk (fun i => by rw [E3, eG]; exact o0 i) (by rw [E3]; exact hq)
  rw [y1, gCi_i]
  have yI : ∀ a, a ≠ q → a ≠ 5 → a ≠ 6 → Y.I a = X.I a := fun a a1 a2 a3 => (y2.1 a a3).trans (e0 a a1 a2)
  have yq : Y.I q = W.I q := y2.1 q (by omega)
  have yN : Y.N = X.N := y2.2.2.1.trans E3
  have hnm : ∀ f, f ∈ T → nmu nm w q f.1 = nm f.1 := fun f hf' => nmu_o (by have := hf f hf'; omega)
  have hmap : (T ++ [(w, false, false)]).map (fun f => nmu nm w q f.1) = T.map (fun f => nm f.1) ++ [q] := by
    rw [List.map_append]
    congr 1
    · exact List.map_congr_left (fun f hf' => hnm f hf')
    · show [nmu nm w q w] = _
      rw [nmu_w]
  refine ⟨Y, rfl, ⟨⟨?_, ?_, ?_, ?_⟩, ⟨?_, ?_⟩, ⟨?_, ?_⟩, ⟨?_, ?_, ?_⟩, ?_⟩, ⟨fun a a1 a2 a3 a4 => yI a a1 a2 a3, fun j hj => ?_, fun a a1 a2 => ?_, by omega⟩, yN, ?_, y8⟩
  · rw [y3, List.length_append]; rfl
  · rw [yI 7 (by omega) (by omega) (by omega)]; exact h2
  · rw [List.length_append]; exact y7
  · rw [y2.2.2.2 131 (by decide), E4]; exact hL2
  · rw [List.map_append]
    refine hl_snoc (r := X.G 130) ?_ (fun i hi => ?_) ?_
    · rw [List.map_congr_left (g := fun f => some (nm f.1)) (fun f hf' => by rw [hnm f hf'])]
      exact g0
    · rw [List.length_map] at hi
      rw [y4 i hi, eG]
    · rw [List.length_map]
      show Y.G 130 T.length = some (nmu nm w q w)
      rw [nmu_w]
      exact y5
  · rw [y2.2.1 131 (by decide), eG]; exact g1
  · intro i; exact y6 i
  · intro i
    rw [y2.2.1 131 (by decide), eG, yN]
    exact o1 i
  · rw [hmap]
    have p1 : (T.map (fun f => nm f.1) ++ [q] ++ Z).Perm (q :: (T.map (fun f => nm f.1) ++ Z)) := by
      rw [List.append_assoc]
      exact List.perm_middle
    exact p1.nodup_iff.mpr (List.nodup_cons.mpr ⟨hq2, nd⟩)
  · intro n hn'
    rw [hmap, List.append_assoc] at hn'
    rw [yN]
    rcases List.mem_append.mp hn' with q1 | q1
    · exact nf n (List.mem_append_left _ q1)
    · rcases List.mem_append.mp q1 with q2 | q2
      · rw [List.mem_singleton.mp q2]; exact hq
      · exact nf n (List.mem_append_right _ q2)
  · rw [List.length_append, yN]
    show T.length + 1 + Z.length = X.N
    omega
  · intro f hf'
    rcases List.mem_append.mp hf' with q1 | q1
    · have a1 := hf f q1
      have hm : nm f.1 ∈ T.map (fun f => nm f.1) ++ Z := List.mem_append_left _ (List.mem_map.mpr ⟨f, q1, rfl⟩)
      have a2 : nm f.1 ≠ q := fun e => hq2 (e ▸ hm)
      have a3 := gFile.lo (nf _ hm)
      obtain ⟨u1, u2, u3, u4, u5⟩ := hU_o (H := H) (w := w) (k := f.1) (D := D) (L := L) (tl := tl) (st := 0) (en := 0) (by omega)
      unfold CF
      rw [hnm f q1, yI (nm f.1) a2 (by omega) (by omega), u3, u4, u5]
      exact hc f q1
    · rw [List.mem_singleton.mp q1]
      obtain ⟨u1, u2, u3, u4, u5⟩ := hU_w (H := H) (w := w) (D := D) (L := L) (tl := tl) (st := 0) (en := 0)
      unfold CF
      show Y.I (nmu nm w q w) 0 = nI w ∧ Y.I (nmu nm w q w) 1 = b2i false ∧ Y.I (nmu nm w q w) 2 = b2i false ∧ Y.I (nmu nm w q w) 4 = nI (gTl (hU H w D L tl 0 0) w) ∧ Y.I (nmu nm w q w) 5 = nI (gSt (hU H w D L tl 0 0) w) ∧ Y.I (nmu nm w q w) 6 = nI (gEn (hU H w D L tl 0 0) w)
      rw [nmu_w, yq, u3, u4, u5, eq, eq, eq, eq, eq, eq]
      exact ⟨rfl, rfl, rfl, rfl, rfl, rfl⟩
  · rw [y2.1 5 (by decide)]; exact e5' j hj
  · rw [y2.2.1 a a1, eG]
  · rw [y2.1 5 (by decide)]; exact e52
theorem nf_I {X : gX} {a : Nat} (h : a ≠ 1000 + X.N) : X.nf.I a = X.I a := if_neg h
theorem C_newFile {X : gX} {w k tl : Nat} {T : List zF} {nm : Nat → Nat} {H : zH} (D : List Nat) (L : Nat → Bool) (hT : cT X T nm H) (hw : X.I 5 2 = nI w) (hf : ∀ f, f ∈ T → f.1 < w) (hlen : T.length < 59000) (hR : RR X k) (hk : k ≤ 600) :
    ∃ Y q, f_Di_newFile X (nI tl) = some (gR.a (some q), Y) ∧ gFile Y.N q = true ∧ cT Y (T ++ [(w, false, false)]) (nmu nm w q) (hU H w D L tl 0 0) ∧ frD q X Y ∧ Y.I 5 2 = nI (w + 1) ∧ RR Y k := by
  obtain ⟨Z, ⟨a1, a2, a3, a4⟩, ⟨b1, b2⟩, ⟨c1, c2⟩, ⟨d1, d2, d3⟩, e1⟩ := hT
  unfold f_Di_newFile f_Al_isEmpty
  have hNb := hR.1.1
  rcases List.eq_nil_or_concat Z with rfl | ⟨Z', z, rfl⟩
  · have hlim := RR_lim hR hk
    rw [a2, if_pos (show nI ([] : List Nat).length = 0 from rfl), gCi_i, if_neg (by decide), if_pos ⟨by omega, by omega⟩, gB_b]
    have hq : gFile X.nf.N (1000 + X.N) = true := gFile.of (by omega) (by show 1000 + X.N < 1000 + (X.N + 1); omega)
    have d3' : T.length = X.N := by simpa using d3
    rw [if_pos hq]
    show ∃ Y q, gCv (some (gR.v, X.nf)) _ = _ ∧ _
    rw [gCv_v]
    obtain ⟨Y, y1, y2, y3, y4, y5, y6⟩ := C_nf39 (X := X.nf) (q := 1000 + X.N) (w := w) (k := k) (tl := tl) (T := T) (nm := nm) (H := H) (Z := []) (D := D) (L := L) (by rw [nf_I (by omega)]; exact a1) (by rw [nf_I (by omega)]; exact a2) a3 a4 b1 b2 (fun i => by
      have := c1 i
      show gOf (X.N + 1) (X.G 130 i) = true
      cases q : X.G 130 i with
      | none => rfl
      | some n => rw [q] at this; exact gFile_mono this (by omega)) (fun i => by
      have := c2 i
      show gOf (X.N + 1) (X.G 131 i) = true
      cases q : X.G 131 i with
      | none => rfl
      | some n => rw [q] at this; exact gFile_mono this (by omega)) d1 (fun n hn => gFile_mono (d2 n hn) (by show X.N ≤ X.N + 1; omega)) (by show T.length + 0 + 1 = X.N + 1; omega) (fun f hf' => by
      have hm := d2 (nm f.1) (List.mem_append_left _ (List.mem_map.mpr ⟨f, hf', rfl⟩))
      have := gFile.hi hm
      unfold CF
      rw [nf_I (by omega)]
      exact e1 f hf') (by rw [nf_I (by omega)]; exact hw) hf (by
      obtain ⟨⟨r1, r2, r3, r4, r5⟩, r6, r7⟩ := hR
      refine ⟨⟨?_, r2, r3, r4, r5⟩, ?_, ?_⟩
      · show X.N + 1 ≤ 60000; omega
      · show 5 * (X.cc + 1) ≤ 610 + 5 * (X.N + 1) + X.L 130 + X.L 131 + 5 * k; omega
      · show X.ss + 7 ≤ 677754 + 7 * (X.N + 1) + 4 * (X.L 130 + X.L 131) + 6 * k; omega) hk hq (fun hm => by
      have := gFile.hi (d2 _ hm)
      omega)
    refine ⟨Y, _, y1, by rw [y4]; exact hq, ⟨_, y2⟩, ⟨fun a q1 q2 q3 q4 => ?_, fun j hj => ?_, y3.2.2.1, ?_⟩, y5, y6⟩
    · rw [y3.1 a q1 q2 q3 q4, nf_I q1]
    · rw [y3.2.1 j hj, nf_I (by omega)]
    · rw [y4]; show X.N ≤ X.N + 1; omega
  · rw [List.length_concat] at a2 a4 d3
    rw [List.concat_eq_append] at b2 d1 d2
    rw [a2, if_neg (nI_ne0 (by omega) (by omega)), gCi_i, if_pos rfl]
    unfold f_Al_size
    rw [gCi_i, a2, nI_pred, C_remove a2 (by omega) (by have := hR.1.2.2.1; omega), gCa_a]
    have hz : X.G 131 Z'.length = some z := hl_m (g := some) b2 (by rw [List.getElem?_append_right (Nat.le_refl _), Nat.sub_self]; rfl)
    have hzf : gFile X.N z = true := d2 z (by simp)
    rw [hz, gM_s, if_pos (show gFile (((X.w 7 2 (X.I 7 2 + 1)).w 7 1 (nI Z'.length)).g (7 + 124) Z'.length none).N z = true from hzf)]
    have hzl := gFile.lo hzf
    have hp : (T.map (fun f => nm f.1) ++ (Z' ++ [z])).Perm (z :: (T.map (fun f => nm f.1) ++ Z')) := by
      rw [← List.append_assoc]
      exact List.perm_append_comm
    have hnd := List.nodup_cons.mp (hp.nodup_iff.mp d1)
    obtain ⟨Y, y1, y2, y3, y4, y5, y6⟩ := C_nf39 (X := ((X.w 7 2 (X.I 7 2 + 1)).w 7 1 (nI Z'.length)).g (7 + 124) Z'.length none) (q := z) (w := w) (k := k) (tl := tl) (T := T) (nm := nm) (H := H) (Z := Z') (D := D) (L := L) (by rw [g_I, gX.w_ne (by decide), gX.w_ne (by decide)]; exact a1) (by rw [g_I, w_same rfl]) a3 (by show Z'.length ≤ X.L 131; omega) (by rw [gX.g_ne (by decide)]; exact b1) (by
      refine hl_mk (fun i x hx => ?_)
      have hlt := vs_lt hx
      rw [show (131 : Nat) = 7 + 124 from rfl, g_oth (Or.inr (by omega))]
      exact hl_m (g := some) b2 (by rw [List.getElem?_append_left hlt]; exact hx)) (fun i => by rw [gX.g_ne (by decide)]; exact c1 i) (fun i => by
      rw [show (131 : Nat) = 7 + 124 from rfl, gX.g_at, if_pos rfl]
      by_cases c : i = Z'.length
      · rw [if_pos c]; rfl
      · rw [if_neg c]; exact c2 i) hnd.2 (fun n hn => by
      rcases List.mem_append.mp hn with q1 | q1
      · exact d2 n (List.mem_append_left _ q1)
      · exact d2 n (List.mem_append_right _ (List.mem_append_left _ q1))) (by show T.length + Z'.length + 1 = X.N; omega) (fun f hf' => by
      have hm := gFile.lo (d2 (nm f.1) (List.mem_append_left _ (List.mem_map.mpr ⟨f, hf', rfl⟩)))
      unfold CF
      rw [g_I, gX.w_ne (by omega), gX.w_ne (by omega)]
      exact e1 f hf') (by rw [g_I, gX.w_ne (by decide), gX.w_ne (by decide)]; exact hw) hf (RR_fr hR gEq.rf.w.w.g) hk hzf hnd.1
    refine ⟨Y, _, y1, by rw [y4]; exact hzf, ⟨_, y2⟩, ⟨fun a q1 q2 q3 q4 => ?_, fun j hj => ?_, fun a q1 q2 => ?_, ?_⟩, y5, y6⟩
    · rw [y3.1 a q1 q2 q3 q4, g_I, gX.w_ne q4, gX.w_ne q4]
    · rw [y3.2.1 j hj, g_I, gX.w_ne (by decide), gX.w_ne (by decide)]
    · rw [y3.2.2.1 a q1 q2, gX.g_ne (by omega)]; rfl
    · rw [y4]; exact Nat.le_refl _
