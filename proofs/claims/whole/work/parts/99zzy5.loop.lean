/-! THE PURE SIDE: the call close: the merges that are left -/
/-- what nobody needs is not synced -/
def UU (B : zA) : Prop := ∀ f, f ∈ aT B → ndd B f.1 = false → f.2.1 = false
/-- A: as close found it; B: after some ended merges, no file dropped -/
def LPP (A B : zA) (k : Nat) : Prop := aT B = aT A ∧ (∀ j, j ≠ 30 → aS B j = aS A j) ∧ (∀ n, n ≠ 54 → aV B n = aV A n) ∧ UU B ∧ KK B ∧ Pre B k ∧ ¬ aS B 18 = 0 ∧ aS B 14 = 0
theorem Mid0_pre {B : zA} {k : Nat} (h : Pre B k) (o : ¬ aS B 18 = 0) : Mid0 B k := ⟨o, h.1, h.2.1, h.2.2.1, ⟨(h.2.2.2.1 o).1, (h.2.2.2.1 o).2.2.1, (h.2.2.2.1 o).2.2.2⟩, h.2.2.2.2.1, fun q => (h.2.2.2.2.2.2.1 q).1, h.2.2.2.2.2.2.2⟩
def stp (B : zA) (m : zM) (a n : Nat) : zA := aTdy (aFn B 0 (fnV B m a n true))
theorem stp_mem {B : zA} {m : zM} {a n : Nat} {y : zS} (hy : y ∈ (aV (stp B m a n) 54).1) : (∃ x, x ∈ (aV B 54).1 ∧ x.1 = y.1 ∧ x.2.1 = y.2.1) ∨ (y.1 = m.2.1 ∧ y.2.1 = none) := by
  have hy1 : y ∈ (fnV B m a n true).1 := (List.mem_filter.mp hy).1
  unfold fnV at hy1
  rw [if_pos rfl] at hy1
  rcases List.mem_append.mp hy1 with q | q
  · exact Or.inl ⟨y, List.mem_of_mem_take q, rfl, rfl⟩
  · rcases List.mem_cons.mp q with q | q
    · right
      rw [q]
      exact ⟨rfl, rfl⟩
    · exact Or.inl ⟨y, List.mem_of_mem_drop q, rfl, rfl⟩
theorem stp_S {B : zA} {m : zM} {a n j : Nat} (h : j ≠ 30) : aS (stp B m a n) j = aS B j := by
  show upd (aS B) 30 (aS B 30 - 1) j = _
  rw [upd_at, if_neg h]
theorem stp_V {B : zA} {m : zM} {a n v : Nat} (h : v ≠ 54) : aV (stp B m a n) v = aV B v := by
  show (if v = 54 then _ else (if v = 54 then _ else aV B v)) = _
  rw [if_neg h, if_neg h]
theorem stp_1 {B : zA} {m : zM} {a n e : Nat} : nd1 (stp B m a n) e = nd1 B e := nd1_V (stp_S (by decide)) (stp_V (by decide))
theorem stp_2 {B : zA} {m : zM} {a n e : Nat} : nd2 (stp B m a n) e = nd2 B e := by
  unfold nd2
  rw [stp_S (by decide), stp_V (by decide)]
theorem stp_5 {B : zA} {m : zM} {a n e : Nat} : nd5 (stp B m a n) 4 e = nd5 B 4 e := nd5_V (fun v hv => stp_V (by omega))
theorem nd_1 {B : zA} {e : Nat} (h : nd1 B e = true) : ndd B e = true := by
  unfold ndd
  rw [h]
  simp
theorem nd_2 {B : zA} {e : Nat} (h : nd2 B e = true) : ndd B e = true := by
  unfold ndd
  rw [h]
  simp
theorem nd_5 {B : zA} {e : Nat} (h : nd5 B 4 e = true) : ndd B e = true := by
  unfold ndd
  rw [h]
  simp
theorem inV_or {l : List zS} {e : Nat} (h : inV true l e = true) : ∃ x, x ∈ l ∧ (e = x.1 ∨ x.2.1 = some e) := by
  unfold inV at h
  obtain ⟨x, x1, x2⟩ := List.any_eq_true.mp h
  simp only [Bool.or_eq_true, Bool.and_eq_true, decide_eq_true_eq, true_and] at x2
  exact ⟨x, x1, x2⟩
theorem nd4_ex {l : List zM} {e : Nat} (h : nd4 l e = true) : ∃ m, m ∈ l ∧ e = m.2.1 := by
  unfold nd4 at h
  obtain ⟨m, m1, m2⟩ := List.any_eq_true.mp h
  exact ⟨m, m1, of_decide_eq_true m2⟩
theorem ndd_stp {B : zA} {m : zM} {a n e : Nat} (o : ¬ aS B 18 = 0) (hj : (aM B)[0]? = some m) (h : ndd (stp B m a n) e = true) : ndd B e = true := by
  unfold ndd at h
  simp only [Bool.or_eq_true] at h
  rcases h with (((q | q) | q) | q) | q
  · rw [stp_1] at q
    exact nd_1 q
  · rw [stp_2] at q
    exact nd_2 q
  · unfold nd3 at q
    simp only [Bool.and_eq_true] at q
    obtain ⟨y, y1, y2⟩ := inV_or q.2
    rcases stp_mem y1 with ⟨x, x1, x2, x3⟩ | ⟨x2, x3⟩
    · rcases y2 with y2 | y2
      · rw [y2, ← x2]
        exact nd3_t o (inV_seg x1)
      · exact nd3_t o (inV_lst x1 (by rw [x3]; exact y2))
    · rcases y2 with y2 | y2
      · rw [y2, x2]
        exact nd4_t (vs_mem hj)
      · rw [x3] at y2
        cases y2
  · obtain ⟨m', m1, m2⟩ := nd4_ex q
    rw [m2]
    exact nd4_t ((List.eraseIdx_sublist _ _).subset m1)
  · rw [stp_5] at q
    exact nd_5 q
theorem syn_in {t : List zF} {f : zF} (h : f ∈ t) (hs : f.2.1 = true) : syn t f.1 = true := by
  unfold syn
  exact List.any_eq_true.mpr ⟨f, h, by simp [hs]⟩
theorem UU_stp {B : zA} {m : zM} {a n : Nat} (o : ¬ aS B 18 = 0) (hU : UU B) (hK : KK B) (hL : WL B) : UU (stp B m a n) := by
  intro f hf hn
  have hf' : f ∈ aT B := hf
  cases hs : f.2.1 with
  | false => rfl
  | true =>
    exfalso
    have hsy := syn_in hf' hs
    obtain ⟨k1, k2, k3⟩ := hK o
    unfold ndd at hn
    simp only [Bool.or_eq_false_iff] at hn
    obtain ⟨⟨⟨⟨a1, a2⟩, a3⟩, a4⟩, a5⟩ := hn
    rw [stp_1] at a1
    rw [stp_2] at a2
    rw [stp_5] at a5
    have n1 : ¬ aS B 20 ≤ 0 → inV true (aV B 62).1 f.1 = true → False := fun q1 q2 => by
      have : nd1 B f.1 = true := by unfold nd1; rw [q2]; simp [q1]
      rw [a1] at this
      cases this
    have n2 : ¬ aS B 19 = 0 → inV true (aV B 70).1 f.1 = true → False := fun q1 q2 => by
      have : nd2 B f.1 = true := by unfold nd2; rw [q2]; simp [q1]
      rw [a2] at this
      cases this
    cases hb : ndd B f.1 with
    | false =>
      have := hU f hf' hb
      rw [hs] at this
      cases this
    | true =>
      unfold ndd at hb
      rw [a1, a2, a5] at hb
      simp only [Bool.false_or, Bool.or_false, Bool.or_eq_true] at hb
      rcases hb with q | q
      · unfold nd3 at q
        simp only [Bool.and_eq_true] at q
        obtain ⟨x, x1, x2⟩ := inV_or q.2
        rcases x2 with x2 | x2
        · rw [x2] at hsy n1 n2
          rcases k1 x x1 hsy with ⟨r1, r2⟩ | ⟨_, r1, r2⟩
          · exact n2 r1 r2
          · exact n1 r1 r2
        · rcases hL x x1 f.1 x2 with ⟨r1, y, y1, y2⟩ | ⟨_, r1, y, y1, y2⟩
          · exact n2 r1 (inV_lst y1 y2)
          · exact n1 r1 (inV_lst y1 y2)
      · obtain ⟨m', m1, m2⟩ := nd4_ex q
        rw [m2, (k2 m' m1).1] at hsy
        cases hsy
theorem LPP_0 {A : zA} {k : Nat} (hI : Inv A k) (o : ¬ aS A 18 = 0) (hK : KK A) : LPP A A k := by
  have h14 : aS A 14 = 0 := by
    by_cases c : aS A 14 = 0
    · exact c
    · exact absurd (hI.2.2.2.2.2.2.1 c) o
  refine ⟨rfl, fun _ _ => rfl, fun _ _ => rfl, fun f hf hn => ?_, hK, Pre_of hI, o, h14⟩
  rw [hI.2.2.2.2.2.2.2.1 h14 f hf] at hn
  cases hn
theorem LPP_stp {A B : zA} {k a n : Nat} {m : zM} (h : LPP A B k) (hj : (aM B)[0]? = some m) (hp : MP B m a n) : LPP A (stp B m a n) k := by
  obtain ⟨h1, h2, h3, h4, h5, h6, h7, h8⟩ := h
  have hm0 := Mid0_pre h6 h7
  refine ⟨h1, fun j hj => (stp_S hj).trans (h2 j hj), fun v hv => (stp_V hv).trans (h3 v hv), UU_stp h7 h4 h5 hm0.2.2.2.2.1.2.2, KK_tdy (KK_fn hm0 hj h5), Pre_tdy (Mid0_fnV hm0 hj hp), ?_, ?_⟩
  · rw [stp_S (by decide)]; exact h7
  · rw [stp_S (by decide)]; exact h8
theorem aTf_s {B : zA} (h : aS B 14 = 0) : aTf B = sT B ((aT B).filter (fun f => ndd B f.1)) := by
  unfold aTf
  rw [if_pos h]
theorem aTf_stp {B : zA} {m : zM} {a n : Nat} (o : ¬ aS B 18 = 0) (h14 : aS B 14 = 0) (hj : (aM B)[0]? = some m) : aTf (aTdy (aFn (sT B ((aT B).filter (fun f => ndd B f.1))) 0 (fnV (sT B ((aT B).filter (fun f => ndd B f.1))) m a n true))) = aTf (stp B m a n) := by
  have e : ((aT B).filter (fun f => ndd B f.1)).filter (fun f => ndd (stp B m a n) f.1) = (aT B).filter (fun f => ndd (stp B m a n) f.1) := by
    rw [List.filter_filter]
    refine List.filter_congr (fun f _ => ?_)
    cases q : ndd (stp B m a n) f.1 with
    | false => rfl
    | true => rw [ndd_stp o hj q]; rfl
  have e14 : aS (stp B m a n) 14 = 0 := by rw [stp_S (by decide)]; exact h14
  have e2 : aTf (stp B m a n) = sT (stp B m a n) ((aT B).filter (fun f => ndd (stp B m a n) f.1)) := aTf_s e14
  have e3 : aTf (sT (stp B m a n) ((aT B).filter (fun f => ndd B f.1))) = sT (stp B m a n) (((aT B).filter (fun f => ndd B f.1)).filter (fun f => ndd (stp B m a n) f.1)) := aTf_s (B := sT (stp B m a n) ((aT B).filter (fun f => ndd B f.1))) e14
  rw [e2, ← e, ← e3]
  rfl
theorem C_step {Z : gX} {A B : zA} {nm : Nat → Nat} {k k' a n : Nat} {m : zM} (hZ : RC Z (aTf B) nm k') (h : LPP A B k) (hj : (aM B)[0]? = some m) (hp : MP B m a n) (hk : k ≤ 600) (hk' : k' ≤ 600) : ∃ Y, f_Le_endMerge Z 0 1 = some (gR.v, Y) ∧ RC Y (aTf (stp B m a n)) nm k' ∧ frC Z Y := by
  obtain ⟨h1, h2, h3, h4, h5, h6, h7, h8⟩ := h
  have e := aTf_s h8
  have hI := Inv_tf h6
  rw [e] at hZ hI
  have hm0 := Mid0_of hI h7
  obtain ⟨Y, y1, y2, y3⟩ := C_endMerge (b := true) (j := 0) (m := m) (a := a) (n := n) hZ hm0 hk hk' hj hp
  rw [aTf_stp h7 h8 hj] at y2
  exact ⟨Y, y1, y2, y3⟩
theorem nI_dn {n : Nat} (h : n < 4) : nI (n + 1) + (-1) = nI n := by
  have : n = 0 ∨ n = 1 ∨ n = 2 ∨ n = 3 := by omega
  rcases this with rfl | rfl | rfl | rfl <;> rfl
theorem cl_loop {A : zA} {k k' : Nat} (hk : k ≤ 600) (hk' : k' ≤ 600) : ∀ (n : Nat) (B : zA), LPP A B k → (aM B).length = n → ∃ D, LPP A D k ∧ aM D = [] ∧ (∀ Z nm, RC Z (aTf B) nm k' → ∃ Z', (∀ f, gI (fun s : gX × Int32 => f_Le_close_13 s.1 s.2) (f + n) (Z, nI n) = gI (fun s : gX × Int32 => f_Le_close_13 s.1 s.2) f (Z', 0)) ∧ RC Z' (aTf D) nm k' ∧ frC Z Z') ∧ (∀ Y, RM Y B → ∃ Y', (∀ f, gI (fun s : gX => f_Mo_close0_35 s) (f + n) Y = gI (fun s : gX => f_Mo_close0_35 s) f Y') ∧ RM Y' D ∧ frM Y Y' ∧ Y'.I 46 0 = Y.I 46 0)
  | 0, B, h, hl => ⟨B, h, List.eq_nil_of_length_eq_zero hl, fun Z nm hZ => ⟨Z, fun f => rfl, hZ, frC.rf⟩, fun Y hY => ⟨Y, fun f => rfl, hY, frM.rf, rfl⟩⟩
  | n + 1, B, h, hl => by
    obtain ⟨m, hm⟩ := vs_at (l := aM B) (s := 0) (by omega)
    have hPre := h.2.2.2.2.2.1
    have ho := h.2.2.2.2.2.2.1
    have h30 := hPre.1.2.2.1.1
    have h4 := hPre.1.2.2.1.2
    have hm0 := Mid0_pre hPre ho
    obtain ⟨a, q, hp⟩ := MP_ex hm0.2.2.2.2.1.1 (hm0.2.2.2.2.1.2.1.1 m (vs_mem hm))
    obtain ⟨D, d1, d2, d3, d4⟩ := cl_loop hk hk' n (stp B m a q) (LPP_stp h hm hp) (by
      show ((aM B).eraseIdx 0).length = n
      rw [List.length_eraseIdx, if_pos (by omega)]
      omega)
    refine ⟨D, d1, d2, fun Z nm hZ => ?_, fun Y hY => ?_⟩
    · obtain ⟨W, w1, w2, w3⟩ := C_step hZ h hm hp hk hk'
      obtain ⟨Z', z1, z2, z3⟩ := d3 W nm w2
      refine ⟨Z', fun f => ?_, z2, w3.tr z3⟩
      rw [← z1 f]
      refine gI_l (body := fun s : gX × Int32 => f_Le_close_13 s.1 s.2) (k := f + n) (x := (Z, nI (n + 1))) (y := (W, nI n)) ?_
      show f_Le_close_13 Z (nI (n + 1)) = _
      unfold f_Le_close_13
      rw [if_neg (nI_nle (by omega) (by omega)), w1, gCv_v, nI_dn (by omega)]
    · obtain ⟨W, w1, w2, w3, w4⟩ := z_ending (b := true) hY hm0 hk hm hp
      obtain ⟨Y', y1, y2, y3, y4⟩ := d4 W w2
      refine ⟨Y', fun f => ?_, y2, w3.tr y3, y4.trans w4⟩
      rw [← y1 f]
      refine gI_l (body := fun s : gX => f_Mo_close0_35 s) (k := f + n) (x := Y) (y := W) ?_
      have w1' : f_Mo_ending Y 0 1 = some (gR.v, W) := w1
      show f_Mo_close0_35 Y = _
      unfold f_Mo_close0_35
      rw [RM_S hY 30 (by decide) (by decide) (by decide), h30, hl, if_neg (nI_nle (by omega) (by omega)), w1', gCv_v]
/-- files that nobody needs any more -/
def lo (D : zA) : List Nat := ((aT D).filter (fun f => !ndd D f.1)).map (fun f => f.1)
theorem lo_mem {D : zA} {e : Nat} (h : e ∈ lo D) : ∃ f, f ∈ aT D ∧ f.1 = e ∧ ndd D e = false := by
  obtain ⟨f, f1, f2⟩ := List.mem_map.mp h
  obtain ⟨f3, f4⟩ := List.mem_filter.mp f1
  refine ⟨f, f3, f2, ?_⟩
  rw [← f2]
  simpa using f4
theorem lo_xE {D : zA} (h14 : aS D 14 = 0) : xE (lo D) D = aTf D := by
  have e : (aT D).filter (fun f => !decide (f.1 ∈ lo D)) = (aT D).filter (fun f => ndd D f.1) := by
   refine List.filter_congr (fun f hf => ?_)
   cases q : ndd D f.1 with
   | false =>
     have : f.1 ∈ lo D := List.mem_map.mpr ⟨f, List.mem_filter.mpr ⟨hf, by rw [q]; rfl⟩, rfl⟩
     simp [this]
   | true =>
     have : ¬ f.1 ∈ lo D := fun r => by
       obtain ⟨u, u1, u2, u3⟩ := lo_mem r
       rw [q] at u3
       cases u3
     simp [this]
  rw [aTf_s h14]
  unfold xE
  rw [e]
theorem nd_false {D : zA} {e : Nat} (h : ndd D e = false) : nd1 D e = false ∧ nd5 D 4 e = false := by
  unfold ndd at h
  simp only [Bool.or_eq_false_iff] at h
  exact ⟨h.1.1.1.1, h.2⟩
theorem lo_GE {A D : zA} {k : Nat} (h : LPP A D k) : GE (lo D) D := by
  obtain ⟨h1, h2, h3, h4, h5, h6, h7, h8⟩ := h
  refine ⟨fun f hf he => ?_, fun e he => ?_, fun x hx => ⟨fun q => ?_, fun l hl q => ?_⟩, fun e he => ?_⟩
  · obtain ⟨u, u1, u2, u3⟩ := lo_mem he
    exact h4 f hf u3
  · obtain ⟨u, u1, u2, u3⟩ := lo_mem he
    rw [← u2]
    exact h6.2.1.2 u u1
  · obtain ⟨u, u1, u2, u3⟩ := lo_mem q
    rw [nd3_t h7 (inV_seg hx)] at u3
    cases u3
  · obtain ⟨u, u1, u2, u3⟩ := lo_mem q
    rw [nd3_t h7 (inV_lst hx hl)] at u3
    cases u3
  · obtain ⟨u, u1, u2, u3⟩ := lo_mem he
    exact nd_false u3
theorem lo_len {A D : zA} {k : Nat} (hI : Inv A k) (h : LPP A D k) : (lo D).length ≤ 9000 := by
  obtain ⟨h1, h2, h3, h4, h5, h6, h7, h8⟩ := h
  have o : ¬ aS A 18 = 0 := by rw [← h2 18 (by decide)]; exact h7
  have h14 : aS A 14 = 0 := by rw [← h2 14 (by decide)]; exact h8
  have hlen : (aV A 54).1.length ≤ 4096 := VL_of hI 54 rfl (fun _ => o)
  have q := nd_len (l := lo D) (m := lsL (aV A 54).1 ++ (aM A).map (fun m => m.2.1)) (by
    unfold lo List.Nodup
    rw [List.pairwise_map]
    exact (h6.2.1.1.2.1.sublist List.filter_sublist).imp (fun {a b} hab => by omega)) (fun e he => by
    obtain ⟨u, u1, u2, u3⟩ := lo_mem he
    have n1 : nd1 D e = nd1 A e := nd1_V (h2 20 (by decide)) (h3 62 (by decide))
    have n2 : nd2 D e = nd2 A e := by
      unfold nd2
      rw [h2 19 (by decide), h3 70 (by decide)]
    have n5 : nd5 D 4 e = nd5 A 4 e := nd5_V (fun v hv => h3 v (by omega))
    have hA : ndd A e = true := by
      rw [← u2]
      exact hI.2.2.2.2.2.2.2.1 h14 u (by rw [← h1]; exact u1)
    unfold ndd at u3 hA
    simp only [Bool.or_eq_false_iff] at u3
    rw [← n1, ← n2, ← n5, u3.1.1.1.1, u3.1.1.1.2, u3.2] at hA
    simp only [Bool.false_or, Bool.or_false, Bool.or_eq_true] at hA
    rw [List.mem_append]
    rcases hA with r | r
    · left
      unfold nd3 at r
      simp only [Bool.and_eq_true] at r
      exact inV_L r.2
    · obtain ⟨m', m1, m2⟩ := nd4_ex r
      exact Or.inr (List.mem_map.mpr ⟨m', m1, m2.symm⟩))
  have q2 := lsL_len hlen
  have q3 := hI.1.2.2.1.2
  rw [List.length_append, List.length_map] at q
  omega
theorem lo_Mid {A D : zA} {k : Nat} (hI : Inv A k) (h : LPP A D k) : MidE (lo D) D k 0 := by
  have hl := lo_len hI h
  have hL := h
  obtain ⟨h1, h2, h3, h4, h5, h6, h7, h8⟩ := h
  obtain ⟨w1, w2, w3, w4⟩ := h6.2.2.2.1 h7
  refine ⟨h7, h6.1, ⟨h6.2.1.1, h6.2.1.2, ?_, hl⟩, h6.2.2.1, ⟨w1, w2, w3, WLi_0.mpr w4⟩, h6.2.2.2.2.1, ⟨fun q => absurd q h7, fun q => absurd h8 q, fun _ f hf => ?_, h6.2.2.2.2.2.2.2⟩⟩
  · rw [h1]
    have := hI.2.1.2.2
    omega
  · cases q : ndd D f.1 with
    | true => exact Or.inl rfl
    | false => exact Or.inr (List.mem_map.mpr ⟨f, List.mem_filter.mpr ⟨hf, by rw [q]; rfl⟩, rfl⟩)
