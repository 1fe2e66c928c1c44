/-! THE PURE SIDE: what always holds, step by step -/
theorem nd_len {l : List Nat} : ∀ {m : List Nat}, l.Nodup → (∀ x, x ∈ l → x ∈ m) → l.length ≤ m.length := by
  induction l with
  | nil => intro m _ _; exact Nat.zero_le _
  | cons a l ih =>
    intro m h hs
    obtain ⟨h1, h2⟩ := List.nodup_cons.mp h
    have ha : a ∈ m := hs a (by simp)
    have h3 := ih (m := m.erase a) h2 (fun x hx => (List.mem_erase_of_ne (a := x) (b := a) (fun e => h1 (by rw [← e]; exact hx))).mpr (hs x (by simp [hx])))
    rw [List.length_erase_of_mem ha] at h3
    have h4 := List.length_pos_of_mem ha
    simp only [List.length_cons]
    omega
def lsL (l : List zS) : List Nat := l.map (fun x => x.1) ++ l.filterMap (fun x => x.2.1)
theorem lsL_len {l : List zS} (h : l.length ≤ 4096) : (lsL l).length ≤ 8192 := by
  unfold lsL
  have := List.length_filterMap_le (fun x : zS => x.2.1) l
  rw [List.length_append, List.length_map]
  omega
theorem inV_L {b : Bool} {l : List zS} {k : Nat} (h : inV b l k = true) : k ∈ lsL l := by
  unfold inV at h
  obtain ⟨x, h1, h2⟩ := List.any_eq_true.mp h
  simp only [Bool.or_eq_true, Bool.and_eq_true, decide_eq_true_eq] at h2
  unfold lsL
  rw [List.mem_append]
  rcases h2 with h2 | ⟨-, h2⟩
  · exact Or.inl (List.mem_map.mpr ⟨x, h1, h2.symm⟩)
  · exact Or.inr (List.mem_filterMap.mpr ⟨x, h1, h2⟩)
theorem inV_S {l : List zS} {k : Nat} (h : inV false l k = true) : k ∈ l.map (fun x => x.1) := by
  unfold inV at h
  obtain ⟨x, h1, h2⟩ := List.any_eq_true.mp h
  simp only [Bool.or_eq_true, Bool.and_eq_true, decide_eq_true_eq, Bool.false_eq_true, false_and, or_false] at h2
  exact List.mem_map.mpr ⟨x, h1, h2.symm⟩
def wL (A : zA) : List Nat := if aS A 18 = 0 then [] else lsL (aV A 54).1
def rL (A : zA) (i : Nat) : List Nat := (aV A (84 + 8 * i)).1.map (fun x => x.1)
theorem need_lenE {E : List Nat} {A : zA} (hb : TB (aT A)) (h62 : (aV A 62).1.length ≤ 4096) (h70 : (aV A 70).1.length ≤ 4096) (h54 : ¬ aS A 18 = 0 → (aV A 54).1.length ≤ 4096) (hr : ∀ i, i < 4 → (aV A (84 + 8 * i)).1.length ≤ 4096) (hm : (aM A).length ≤ 4) (hn : ∀ f, f ∈ aT A → ndd A f.1 = true ∨ f.1 ∈ E) : (aT A).length ≤ 41000 + E.length := by
  have h1 := nd_len (l := (aT A).map (fun f => f.1)) (m := ((aV A 62).2.2.1 :: lsL (aV A 62).1) ++ (((aV A 70).2.2.1 :: lsL (aV A 70).1) ++ (wL A ++ ((aM A).map (fun m => m.2.1) ++ (rL A 0 ++ (rL A 1 ++ (rL A 2 ++ (rL A 3 ++ E)))))))) (by
    unfold List.Nodup
    rw [List.pairwise_map]
    exact hb.2.1.imp (fun {a b} hab => by omega)) (fun k hk => by
    obtain ⟨f, hf, rfl⟩ := List.mem_map.mp hk
    rcases hn f hf with h2 | h2
    case inr =>
      simp only [List.mem_append, List.mem_cons]
      exact Or.inr (Or.inr (Or.inr (Or.inr (Or.inr (Or.inr (Or.inr (Or.inr h2)))))))
    unfold ndd nd1 nd2 nd3 nd4 nd5 at h2
    simp only [Bool.or_eq_true, Bool.and_eq_true, decide_eq_true_eq, List.mem_append, List.mem_cons] at h2 ⊢
    rcases h2 with (((⟨-, q | q⟩ | ⟨-, q | q⟩) | ⟨q0, q⟩) | q) | q
    · exact Or.inl (Or.inr (inV_L q))
    · exact Or.inl (Or.inl q)
    · exact Or.inr (Or.inl (Or.inr (inV_L q)))
    · exact Or.inr (Or.inl (Or.inl q))
    · refine Or.inr (Or.inr (Or.inl ?_))
      unfold wL
      rw [if_neg (by simpa using q0)]
      exact inV_L q
    · obtain ⟨m, m1, m2⟩ := List.any_eq_true.mp q
      exact Or.inr (Or.inr (Or.inr (Or.inl (List.mem_map.mpr ⟨m, m1, (of_decide_eq_true m2).symm⟩))))
    · obtain ⟨i, i1, i2⟩ := List.any_eq_true.mp q
      have i3 := List.mem_range.mp i1
      simp only [Bool.and_eq_true] at i2
      have i4 := inV_S i2.2
      have : i = 0 ∨ i = 1 ∨ i = 2 ∨ i = 3 := by omega
      refine Or.inr (Or.inr (Or.inr (Or.inr ?_)))
      rcases this with rfl | rfl | rfl | rfl
      · exact Or.inl i4
      · exact Or.inr (Or.inl i4)
      · exact Or.inr (Or.inr (Or.inl i4))
      · exact Or.inr (Or.inr (Or.inr (Or.inl i4))))
  have e1 := lsL_len h62
  have e2 := lsL_len h70
  have e3 : (wL A).length ≤ 8192 := by
    unfold wL
    by_cases c : aS A 18 = 0
    · rw [if_pos c]; simp
    · rw [if_neg c]; exact lsL_len (h54 c)
  have e4 : ∀ i, i < 4 → (rL A i).length ≤ 4096 := fun i hi => by unfold rL; rw [List.length_map]; exact hr i hi
  have r0 := e4 0 (by omega)
  have r1 := e4 1 (by omega)
  have r2 := e4 2 (by omega)
  have r3 := e4 3 (by omega)
  simp only [List.length_append, List.length_cons, List.length_map] at h1
  omega
theorem need_len {A : zA} (hb : TB (aT A)) (h62 : (aV A 62).1.length ≤ 4096) (h70 : (aV A 70).1.length ≤ 4096) (h54 : ¬ aS A 18 = 0 → (aV A 54).1.length ≤ 4096) (hr : ∀ i, i < 4 → (aV A (84 + 8 * i)).1.length ≤ 4096) (hm : (aM A).length ≤ 4) (hn : ∀ f, f ∈ aT A → ndd A f.1 = true) : (aT A).length ≤ 41000 := need_lenE (E := []) hb h62 h70 h54 hr hm (fun f hf => Or.inl (hn f hf))
/-- the writer's lists from the i-th on are those of what it prepared last -/
def WLi (A : zA) (i : Nat) : Prop := ∀ j x, i ≤ j → (aV A 54).1[j]? = some x → ∀ k, x.2.1 = some k → (¬ aS A 19 = 0 ∧ ∃ y, y ∈ (aV A 70).1 ∧ y.2.1 = some k) ∨ (aS A 19 = 0 ∧ ¬ aS A 20 ≤ 0 ∧ ∃ y, y ∈ (aV A 62).1 ∧ y.2.1 = some k)
theorem WLi_0 {A : zA} : WLi A 0 ↔ WL A := by
  constructor
  · intro h x hx k hk
    obtain ⟨j, hj⟩ := List.getElem?_of_mem hx
    exact h j x (by omega) hj k hk
  · intro h j x _ hx k hk
    exact h x (vs_mem hx) k hk
def J2E (E : List Nat) (A : zA) : Prop := TB (aT A) ∧ (∀ f, f ∈ aT A → f.1 < wr A) ∧ (aT A).length ≤ 41000 + E.length ∧ E.length ≤ 9000
def J6E (E : List Nat) (A : zA) (k : Nat) : Prop := (aS A 18 = 0 → aM A = [] ∧ aS A 19 = 0) ∧ (¬ aS A 14 = 0 → aS A 18 = 0) ∧ (aS A 14 = 0 → ∀ f, f ∈ aT A → ndd A f.1 = true ∨ f.1 ∈ E) ∧ ∀ i, i < 4 → (aV A (84 + 8 * i)).2.2.2.2 = nI (gn (aV A (84 + 8 * i)).2.2.2.2) ∧ gn (aV A (84 + 8 * i)).2.2.2.2 ≤ k
/-- within a call: the writer is open; E: files left over -/
def MidE (E : List Nat) (A : zA) (k i : Nat) : Prop := ¬ aS A 18 = 0 ∧ J1 A k ∧ J2E E A ∧ J3 A ∧ (WV A ∧ WK A ∧ WM A ∧ WLi A i) ∧ J5 A ∧ J6E E A k
def Mid (A : zA) (k i : Nat) : Prop := MidE [] A k i
theorem Mid_of {A : zA} {k : Nat} (h : Inv A k) (ho : ¬ aS A 18 = 0) : Mid A k 0 := by
  obtain ⟨h1, h2, h3, h4, h5, h6⟩ := h
  obtain ⟨a1, a2, a3, a4⟩ := h4 ho
  exact ⟨ho, h1, ⟨h2.1, h2.2.1, h2.2.2, Nat.zero_le _⟩, h3, ⟨a1, a2, a3, WLi_0.mpr a4⟩, h5, ⟨h6.1, h6.2.1, fun q f hf => Or.inl (h6.2.2.1 q f hf), h6.2.2.2⟩⟩
theorem Mid_inv {A : zA} {k : Nat} (h : Mid A k 0) : Inv A k := by
  obtain ⟨ho, h1, h2, h3, ⟨a1, a2, a3, a4⟩, h5, h6⟩ := h
  exact ⟨h1, ⟨h2.1, h2.2.1, h2.2.2.1⟩, h3, fun _ => ⟨a1, a2, a3, WLi_0.mp a4⟩, h5, ⟨h6.1, h6.2.1, fun q f hf => (h6.2.2.1 q f hf).elim id (fun q => absurd q (by simp)), h6.2.2.2⟩⟩
/-- S' is as S where it matters -/
def eqS (S S' : Nat → Int32) : Prop := ∀ j, j ≠ 12 → j ≠ 13 → j ≠ 24 → S' j = S j
theorem MI_S {A : zA} {S' : Nat → Int32} {m : zM} (e : eqS (aS A) S') (h : MI A m) : MI (sS A S') m := by
  have e5 := e 5 (by decide) (by decide) (by decide)
  have e11 := e 11 (by decide) (by decide) (by decide)
  have e23 := e 23 (by decide) (by decide) (by decide)
  have e34 := e 34 (by decide) (by decide) (by decide)
  unfold MI at h ⊢
  show (0 < m.1 ∧ m.1 ≤ gn (S' 34)) ∧ (FI (aH A) (gn (S' 5) - gn (S' 23)) m.2.1 ∧ m.2.1 < gn (S' 11) ∧ _) ∧ _
  rw [e5, e11, e23, e34]
  exact h
theorem ndd_S {A : zA} {S' : Nat → Int32} {k : Nat} (e : eqS (aS A) S') : ndd (sS A S') k = ndd A k := by
  have e18 := e 18 (by decide) (by decide) (by decide)
  have e19 := e 19 (by decide) (by decide) (by decide)
  have e20 := e 20 (by decide) (by decide) (by decide)
  unfold ndd nd1 nd2 nd3
  show (!decide (S' 20 ≤ 0) && _ || !decide (S' 19 = 0) && _ || !decide (S' 18 = 0) && _ || _ || _) = _
  rw [e18, e19, e20]
  rfl
theorem J_S {A : zA} {k : Nat} {S' : Nat → Int32} (e : eqS (aS A) S') : (J1 A k → J1 (sS A S') k) ∧ (J2 A → J2 (sS A S')) ∧ (J3 A → J3 (sS A S')) ∧ (J5 A → J5 (sS A S')) ∧ (J6 A k → J6 (sS A S') k) := by
  have e5 := e 5 (by decide) (by decide) (by decide)
  have e11 := e 11 (by decide) (by decide) (by decide)
  have e14 := e 14 (by decide) (by decide) (by decide)
  have e18 := e 18 (by decide) (by decide) (by decide)
  have e19 := e 19 (by decide) (by decide) (by decide)
  have e20 := e 20 (by decide) (by decide) (by decide)
  have e23 := e 23 (by decide) (by decide) (by decide)
  have e25 := e 25 (by decide) (by decide) (by decide)
  have e30 := e 30 (by decide) (by decide) (by decide)
  have e32 := e 32 (by decide) (by decide) (by decide)
  have e34 := e 34 (by decide) (by decide) (by decide)
  refine ⟨fun h => ?_, fun h => ?_, fun h => ?_, fun h => ?_, fun h => ?_⟩
  · unfold J1 at h ⊢
    show ((S' 5 = nI (gn (S' 5)) ∧ gn (S' 5) ≤ 4096) ∧ (S' 23 = nI (gn (S' 23)) ∧ gn (S' 23) ≤ gn (S' 5)) ∧ (S' 11 = nI (gn (S' 11)) ∧ gn (S' 11) ≤ 10000 * k)) ∧ ((S' 25 = nI (gn (S' 25)) ∧ 2 ≤ gn (S' 25) ∧ gn (S' 25) ≤ 64) ∧ (S' 20 = nI (gn (S' 20)) ∧ gn (S' 20) ≤ k) ∧ (S' 34 = nI (gn (S' 34)) ∧ gn (S' 34) ≤ k) ∧ (S' 32 = nI (gn (S' 32)) ∧ gn (S' 32) ≤ k)) ∧ (S' 30 = nI (aM A).length ∧ (aM A).length ≤ 4) ∧ ((S' 18 = 0 ∨ S' 18 = 1) ∧ (S' 19 = 0 ∨ S' 19 = 1) ∧ (S' 14 = 0 ∨ S' 14 = 1))
    rw [e5, e11, e14, e18, e19, e20, e23, e25, e30, e32, e34]
    exact h
  · unfold J2 at h ⊢
    show TB (aT A) ∧ (∀ f, f ∈ aT A → f.1 < gn (S' 11)) ∧ (aT A).length ≤ 41000
    rw [e11]
    exact h
  · intro n h1 h2
    show VI (aH A) (gn (S' 5)) (gn (S' 11)) (aV A n) ∧ VC (aH A) (aV A n)
    rw [e5, e11]
    exact h n h1 h2
  · unfold J5 HV at h ⊢
    show ((¬ S' 20 ≤ 0 → _) ∧ (¬ S' 19 = 0 → _) ∧ (¬ S' 18 = 0 → _) ∧ _) ∧ (¬ S' 20 ≤ 0 → _) ∧ (¬ S' 19 = 0 → _)
    rw [e18, e19, e20]
    exact h
  · unfold J6 at h ⊢
    show (S' 18 = 0 → _ ∧ S' 19 = 0) ∧ (¬ S' 14 = 0 → S' 18 = 0) ∧ (S' 14 = 0 → ∀ f, f ∈ aT A → ndd (sS A S') f.1 = true) ∧ _
    rw [e18, e19, e14]
    refine ⟨h.1, h.2.1, fun q f hf => ?_, h.2.2.2⟩
    rw [ndd_S e]
    exact h.2.2.1 q f hf
theorem J2E_S {E : List Nat} {A : zA} {S' : Nat → Int32} (e : eqS (aS A) S') (h : J2E E A) : J2E E (sS A S') := by
  have e11 := e 11 (by decide) (by decide) (by decide)
  unfold J2E at h ⊢
  show TB (aT A) ∧ (∀ f, f ∈ aT A → f.1 < gn (S' 11)) ∧ (aT A).length ≤ 41000 + E.length ∧ E.length ≤ 9000
  rw [e11]
  exact h
theorem J6E_S {E : List Nat} {A : zA} {k : Nat} {S' : Nat → Int32} (e : eqS (aS A) S') (h : J6E E A k) : J6E E (sS A S') k := by
  have e14 := e 14 (by decide) (by decide) (by decide)
  have e18 := e 18 (by decide) (by decide) (by decide)
  have e19 := e 19 (by decide) (by decide) (by decide)
  unfold J6E at h ⊢
  show (S' 18 = 0 → _ ∧ S' 19 = 0) ∧ (¬ S' 14 = 0 → S' 18 = 0) ∧ (S' 14 = 0 → ∀ f, f ∈ aT A → ndd (sS A S') f.1 = true ∨ f.1 ∈ E) ∧ _
  rw [e18, e19, e14]
  refine ⟨h.1, h.2.1, fun q f hf => ?_, h.2.2.2⟩
  rw [ndd_S e]
  exact h.2.2.1 q f hf
theorem Mid_S {E : List Nat} {A : zA} {k i : Nat} {S' : Nat → Int32} (e : eqS (aS A) S') (h : MidE E A k i) : MidE E (sS A S') k i := by
  obtain ⟨ho, h1, h2, h3, ⟨⟨a1, a1'⟩, a2, ⟨a3, a3', a3''⟩, a4⟩, h5, h6⟩ := h
  obtain ⟨p1, p2, p3, p5, p6⟩ := J_S (k := k) e
  have e5 := e 5 (by decide) (by decide) (by decide)
  have e11 := e 11 (by decide) (by decide) (by decide)
  have e18 := e 18 (by decide) (by decide) (by decide)
  have e19 := e 19 (by decide) (by decide) (by decide)
  have e20 := e 20 (by decide) (by decide) (by decide)
  have e23 := e 23 (by decide) (by decide) (by decide)
  refine ⟨by show ¬ S' 18 = 0; rw [e18]; exact ho, p1 h1, J2E_S e h2, p3 h3, ⟨⟨?_, ?_⟩, a2, ⟨fun m hm => MI_S e (a3 m hm), a3', a3''⟩, ?_⟩, p5 h5, J6E_S e h6⟩
  · show VI (aH A) (gn (S' 5) - gn (S' 23)) (gn (S' 11)) (aV A 54)
    rw [e5, e11, e23]
    exact a1
  · show ∀ e, _ → _ ∨ (gn (S' 5) - gn (S' 23) ≤ e ∧ e < gn (S' 5))
    rw [e5, e23]
    exact a1'
  · unfold WLi at a4 ⊢
    show ∀ j x, i ≤ j → (aV A 54).1[j]? = some x → ∀ k, x.2.1 = some k → (¬ S' 19 = 0 ∧ _) ∨ (S' 19 = 0 ∧ ¬ S' 20 ≤ 0 ∧ _)
    rw [e19, e20]
    exact a4
theorem eqS_act {A : zA} : eqS (aS A) (aS (aActd A)) := fun j h1 h2 _ => aActd_S h1 h2
theorem Mid_act {E : List Nat} {A : zA} {k i : Nat} (h : MidE E A k i) : MidE E (aActd A) k i := Mid_S eqS_act h
/-- a new file changes nothing of the old ones -/
theorem FI_U {H : zH} {d w k : Nat} {D : List Nat} {L : Nat → Bool} {tl st en : Nat} (h : FI H d k) (hk : k ≠ w) : FI (hU H w D L tl st en) d k := by
  obtain ⟨u1, u2, u3, u4, u5⟩ := hU_o (H := H) (D := D) (L := L) (tl := tl) (st := st) (en := en) hk
  unfold FI
  rw [u1, u3, u4, u5]
  exact h
theorem fl_U {H : zH} {w : Nat} {D : List Nat} {L : Nat → Bool} {tl st en : Nat} {l : List zS} (h : ∀ x, x ∈ l → x.1 ≠ w) : fl (hU H w D L tl st en).1 l = fl H.1 l := fl_cong (fun x hx => (hU_o (h x hx)).1)
theorem VI_U {H : zH} {d w : Nat} {V : zV} {D : List Nat} {L : Nat → Bool} {tl st en : Nat} (h : VI H d w V) : VI (hU H w D L tl st en) d (w + 1) V := by
  refine ⟨fun x hx => ?_, ?_⟩
  · obtain ⟨h1, h2, h3, h4⟩ := h.1 x hx
    refine ⟨FI_U h1 (by omega), by omega, h3, fun k hk => ?_⟩
    obtain ⟨k1, k2, k3⟩ := h4 k hk
    obtain ⟨u1, u2, u3, u4, u5⟩ := hU_o (H := H) (k := k) (D := D) (L := L) (tl := tl) (st := st) (en := en) (show k ≠ w by omega)
    obtain ⟨v1, -⟩ := hU_o (H := H) (k := x.1) (D := D) (L := L) (tl := tl) (st := st) (en := en) (show x.1 ≠ w by omega)
    rw [u3, v1, u2]
    exact ⟨by omega, k2, k3⟩
  · refine h.2.imp_of_mem (fun {x y} hx hy hxy => ?_)
    have h1 := (h.1 x hx).2.1
    have h2 := (h.1 y hy).2.1
    obtain ⟨-, -, -, -, u5⟩ := hU_o (H := H) (k := x.1) (D := D) (L := L) (tl := tl) (st := st) (en := en) (show x.1 ≠ w by omega)
    obtain ⟨-, -, -, v4, -⟩ := hU_o (H := H) (k := y.1) (D := D) (L := L) (tl := tl) (st := st) (en := en) (show y.1 ≠ w by omega)
    rw [u5, v4]
    exact hxy
theorem VC_U {H : zH} {d w : Nat} {V : zV} {D : List Nat} {L : Nat → Bool} {tl st en : Nat} (h : VC H V) (hi : VI H d w V) : VC (hU H w D L tl st en) V := by
  intro e he
  rw [fl_U (fun x hx => by have := (hi.1 x hx).2.1; omega)]
  exact h e he
theorem VI_mono {H : zH} {d d' w : Nat} {V : zV} (h : VI H d w V) (hd : d ≤ d') : VI H d' w V := by
  refine ⟨fun x hx => ?_, h.2⟩
  obtain ⟨⟨f1, f2, f3, f4, f5⟩, h2, h3⟩ := h.1 x hx
  exact ⟨⟨f1, f2, f3, by omega, f5⟩, h2, h3⟩
theorem wr_new {A : zA} {H : zH} (h : aS A 11 = nI (wr A)) (hw : wr A < 2000000000) : wr (aNew A H) = wr A + 1 ∧ aS (aNew A H) 11 = nI (wr A + 1) := by
  have e : aS (aNew A H) 11 = nI (wr A + 1) := by
    show upd (aS A) 11 (aS A 11 + 1) 11 = _
    rw [upd_at, if_pos rfl, h, nI_1]
  refine ⟨?_, e⟩
  show gn (aS (aNew A H) 11) = _
  rw [e, gn_nI (by omega)]
theorem hav_app {t : List zF} {u : List zF} {k : Nat} (h : hav t k) : hav (t ++ u) k := by
  obtain ⟨f, h1, h2⟩ := h
  exact ⟨f, List.mem_append_left _ h1, h2⟩
theorem syn_app {t : List zF} {w k : Nat} (h : syn t k = true) : syn (t ++ [(w, false, false)]) k = true := by
  unfold syn at h ⊢
  rw [List.any_append, h, Bool.true_or]
theorem TB_app {t : List zF} {w : Nat} (h : TB t) (hf : ∀ f, f ∈ t → f.1 < w) (hl : t.length < 60000) (hw : w < 1000000000) : TB (t ++ [(w, false, false)]) := by
  refine ⟨by rw [List.length_append]; simp only [List.length_cons, List.length_nil]; omega, List.pairwise_append.mpr ⟨h.2.1, by simp, fun a ha b hb => ?_⟩, fun f hf' => ?_⟩
  · rw [List.mem_singleton.mp hb]
    exact hf a ha
  · rcases List.mem_append.mp hf' with q | q
    · exact h.2.2 f q
    · rw [List.mem_singleton.mp q]
      exact hw
theorem NW_mid {E : List Nat} {A : zA} {k i : Nat} (h : MidE E A k i) : NW A := by
  obtain ⟨ho, h1, h2, h3, ⟨⟨a1, a1'⟩, a2, ⟨a3, a3', a3''⟩, a4⟩, ⟨h5, h5', h5''⟩, h6⟩ := h
  have hh : ∀ k, hav (aT A) k → k < wr A := fun k ⟨f, f1, f2⟩ => by rw [← f2]; exact h2.2.1 f f1
  refine ⟨fun n hn hn' x hx => ?_, fun q => hh _ (h5.1 q).2, fun q => hh _ (h5.2.1 q).2, fun m hm => (a3 m hm).2.1.2.1⟩
  by_cases c : n = 54
  · subst c
    obtain ⟨b1, b2, b3, b4⟩ := a1.1 x hx
    exact ⟨b2, fun k hk => (b4 k hk).1⟩
  · obtain ⟨b1, b2, b3, b4⟩ := (h3 n hn c).1.1 x hx
    exact ⟨b2, fun k hk => (b4 k hk).1⟩
