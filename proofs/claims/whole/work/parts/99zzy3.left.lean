/-! THE PURE SIDE: files left over within close -/
def xE (E : List Nat) (B : zA) : zA := sT B ((aT B).filter (fun f => !decide (f.1 ∈ E)))
/-- those left over are not synced, and nobody but the law's own reference counts them -/
def GE (E : List Nat) (B : zA) : Prop := (∀ f, f ∈ aT B → f.1 ∈ E → f.2.1 = false) ∧ (∀ e, e ∈ E → e < wr B) ∧ (∀ x, x ∈ (aV B 54).1 → ¬ x.1 ∈ E ∧ ∀ l, x.2.1 = some l → ¬ l ∈ E) ∧ ∀ e, e ∈ E → nd1 B e = false ∧ nd5 B 4 e = false
def cP (E : List Nat) (r : Bool × zA) : Bool × zA := (r.1, if r.1 = true then xE E r.2 else r.2)
theorem cP_t {E : List Nat} {A : zA} : cP E (true, A) = (true, xE E A) := rfl
theorem cP_f {E : List Nat} {A : zA} : cP E (false, A) = (false, A) := rfl
theorem nd5_V {A B : zA} {e : Nat} (h : ∀ n, 84 ≤ n → aV B n = aV A n) : nd5 B 4 e = nd5 A 4 e := by
  unfold nd5
  congr 1
  funext i
  rw [h (84 + 8 * i) (by omega)]
theorem nd1_V {A B : zA} {e : Nat} (h20 : aS B 20 = aS A 20) (h : aV B 62 = aV A 62) : nd1 B e = nd1 A e := by
  unfold nd1
  rw [h20, h]
theorem GE_gen {E : List Nat} {B C : zA} (g : GE E B) (hw : wr B ≤ wr C) (h20 : aS C 20 = aS B 20) (h62 : aV C 62 = aV B 62) (h84 : ∀ n, 84 ≤ n → aV C n = aV B n) (hT : ∀ f, f ∈ aT C → f.1 ∈ E → f.2.1 = false) (hV : ∀ x, x ∈ (aV C 54).1 → ¬ x.1 ∈ E ∧ ∀ l, x.2.1 = some l → ¬ l ∈ E) : GE E C := by
  refine ⟨hT, fun e he => Nat.lt_of_lt_of_le (g.2.1 e he) hw, hV, fun e he => ?_⟩
  rw [nd1_V h20 h62, nd5_V h84]
  exact g.2.2.2 e he
theorem GE_w {E : List Nat} {B : zA} (g : GE E B) : ¬ wr B ∈ E := fun q => Nat.lt_irrefl _ (g.2.1 _ q)
theorem aLose_T {A : zA} {t : List zF} : aLose (sT A t) = sT (aLose A) (t.filter (fun f => f.2.1)) := rfl
theorem xE_lose {E : List Nat} {B : zA} (g : GE E B) : aLose (xE E B) = aLose B := by
  have e : ((aT B).filter (fun f => !decide (f.1 ∈ E))).filter (fun f => f.2.1) = (aT B).filter (fun f => f.2.1) := by
    rw [List.filter_filter]
    refine List.filter_congr (fun f hf => ?_)
    by_cases c : f.1 ∈ E
    · rw [g.1 f hf c]; rfl
    · simp [c]
  unfold xE
  rw [aLose_T, e]
  rfl
theorem flt_app {E : List Nat} {t : List zF} {w : Nat} (hw : ¬ w ∈ E) : (t ++ [(w, false, false)]).filter (fun f : zF => !decide (f.1 ∈ E)) = t.filter (fun f => !decide (f.1 ∈ E)) ++ [(w, false, false)] := by
  rw [List.filter_append]
  congr 1
  simp [hw]
theorem xE_new {E : List Nat} {B : zA} {H : zH} (hw : ¬ gn (aS B 11) ∈ E) : xE E (aNew B H) = aNew (xE E B) H := by
  show sT (aNew B H) ((aT B ++ [(gn (aS B 11), false, false)]).filter (fun f => !decide (f.1 ∈ E))) = _
  rw [flt_app hw]
  rfl
theorem wr_ac {B : zA} : wr (aActd B) = wr B := congrArg gn (aActd_S (by decide) (by decide))
theorem xE_newA {E : List Nat} {B : zA} {H : zH} (hw : ¬ wr B ∈ E) : xE E (aNew (aActd B) H) = aNew (aActd (xE E B)) H := by
  have hw' : ¬ gn (aS (aActd B) 11) ∈ E := by rw [show gn (aS (aActd B) 11) = wr B from wr_ac]; exact hw
  rw [xE_new hw']
  rfl
theorem xE_fl {E : List Nat} {B : zA} (hw : ¬ wr B ∈ E) : xE E (aFl B) = aFl (xE E B) := by
  have e : xE E (aFl B) = aFl0 (sV1 (xE E (aNew (aActd B) (aFlH B))) 54 ((aV B 54).1 ++ [(wr B, none, 0)], (aV B 54).2)) := rfl
  rw [e, xE_newA hw]
  rfl
theorem xE_wl {E : List Nat} {B : zA} {i : Nat} {x : zS} (hw : ¬ wr B ∈ E) : xE E (aWl B i x) = aWl (xE E B) i x := by
  have e : xE E (aWl B i x) = sV1 (xE E (aNew (aActd B) (wlH B x))) 54 ((aV B 54).1.set i (x.1, some (wr B), x.2.2), (aV B 54).2) := rfl
  rw [e, xE_newA hw]
  rfl
theorem xE_own {E : List Nat} {B : zA} (hw : ¬ wr B ∈ E) : xE E (aOwn B) = aOwn (xE E B) := by
  have e : xE E (aOwn B) = xE E (aNew (aActd B) (hU (aH B) (wr B) [] (fun _ => false) 0 0 0)) := rfl
  rw [e, xE_newA hw]
  rfl
theorem syn_xE {E : List Nat} {B : zA} {j : Nat} (hj : ¬ j ∈ E) : syn (aT (xE E B)) j = syn (aT B) j := by
  show syn ((aT B).filter (fun f => !decide (f.1 ∈ E))) j = _
  unfold syn
  rw [List.any_filter]
  congr 1
  funext f
  by_cases c : f.1 = j
  · have : ¬ f.1 ∈ E := by rw [c]; exact hj
    simp [this]
  · simp [c]
theorem xE_syn {E : List Nat} {B : zA} {j : Nat} : xE E (aSyn (aActd B) j) = aSyn (aActd (xE E B)) j := by
  have e : ((aT B).map (syG j)).filter (fun f => !decide (f.1 ∈ E)) = ((aT B).filter (fun f => !decide (f.1 ∈ E))).map (syG j) := by
    rw [List.filter_map]
    congr 1
    refine List.filter_congr (fun f _ => ?_)
    show (!decide ((syG j f).1 ∈ E)) = _
    rw [(syG_fl j f).1]
  show sT (aActd B) (((aT B).map (syG j)).filter (fun f => !decide (f.1 ∈ E))) = _
  rw [e]
  rfl
theorem T_app {E : List Nat} {B : zA} (g : GE E B) {f : zF} (hf : f ∈ aT B ++ [(wr B, false, false)]) (he : f.1 ∈ E) : f.2.1 = false := by
  rcases List.mem_append.mp hf with q | q
  · exact g.1 f q he
  · rw [List.mem_singleton.mp q]
theorem wr_actn {B : zA} {H : zH} (p3 : aS B 11 = nI (wr B)) (hw : wr B < 2000000000) : wr (aNew (aActd B) H) = wr B + 1 := by
  rw [(wr_new (A := aActd B) (H := H) (by rw [wr_ac, aActd_S (by decide) (by decide)]; exact p3) (by rw [wr_ac]; exact hw)).1, wr_ac]
theorem GE_fl {E E' : List Nat} {B : zA} {k i : Nat} (hm : MidE E' B k i) (hk : k ≤ 600) (hw : wr B + 1 ≤ 10000 * k) (g : GE E B) : GE E (aFl B) := by
  have p3 := hm.2.1.1.2.2.1
  have eT : aT (aFl B) = aT B ++ [(wr B, false, false)] := by
    show aT B ++ [(gn (aS (aActd B) 11), false, false)] = _
    rw [aActd_S (by decide) (by decide)]
  have ew : wr (aFl B) = wr B + 1 := wr_actn (H := aFlH B) p3 (by omega)
  refine GE_gen g (by rw [ew]; omega) ?_ rfl (fun n hn => if_neg (by omega)) (fun f hf he => T_app g (by rw [eT] at hf; exact hf) he) (fun x hx => ?_)
  · show upd (upd (aS (aActd B)) 11 (aS (aActd B) 11 + 1)) 23 0 20 = _
    rw [upd_at, if_neg (by decide), upd_at, if_neg (by decide)]
    exact aActd_S (by decide) (by decide)
  · have hx' : x ∈ (aV B 54).1 ++ [(wr B, none, 0)] := hx
    rcases List.mem_append.mp hx' with q | q
    · exact g.2.2.1 x q
    · rw [List.mem_singleton.mp q]
      exact ⟨GE_w g, fun l hl => by cases hl⟩
theorem GE_wl {E E' : List Nat} {B : zA} {k i : Nat} {x : zS} (hm : MidE E' B k i) (hk : k ≤ 600) (hw : wr B + 1 ≤ 10000 * k) (hx : (aV B 54).1[i]? = some x) (g : GE E B) : GE E (aWl B i x) := by
  have p3 := hm.2.1.1.2.2.1
  have eT : aT (aWl B i x) = aT B ++ [(wr B, false, false)] := by
    show aT B ++ [(gn (aS (aActd B) 11), false, false)] = _
    rw [aActd_S (by decide) (by decide)]
  have ew : wr (aWl B i x) = wr B + 1 := wr_actn (H := wlH B x) p3 (by omega)
  refine GE_gen g (by rw [ew]; omega) ?_ rfl (fun n hn => if_neg (by omega)) (fun f hf he => T_app g (by rw [eT] at hf; exact hf) he) (fun y hy => ?_)
  · show upd (aS (aActd B)) 11 (aS (aActd B) 11 + 1) 20 = _
    rw [upd_at, if_neg (by decide)]
    exact aActd_S (by decide) (by decide)
  · have hy' : y ∈ (aV B 54).1.set i (x.1, some (wr B), x.2.2) := hy
    rcases List.mem_or_eq_of_mem_set hy' with q | q
    · exact g.2.2.1 y q
    · rw [q]
      exact ⟨(g.2.2.1 x (vs_mem hx)).1, fun l hl => by rw [← Option.some.inj hl]; exact GE_w g⟩
theorem flR_a {A : zA} (c : flS A = true) (d : aS A 13 = 0) : flR A = (false, aLose A) := by unfold flR; rw [if_pos c, if_pos d]
theorem flR_b {A : zA} (c : flS A = true) (d : ¬ aS A 13 = 0) : flR A = (true, aFl A) := by unfold flR; rw [if_pos c, if_neg d]
theorem flR_c {A : zA} (c : ¬ flS A = true) : flR A = (true, aFl0 A) := by unfold flR; rw [if_neg c]
theorem flR_xE {E E' : List Nat} {B : zA} {k i : Nat} (hm : MidE E' B k i) (hk : k ≤ 600) (hw : wr B + 1 ≤ 10000 * k) (g : GE E B) : flR (xE E B) = cP E (flR B) ∧ ((flR B).1 = true → GE E (flR B).2) := by
  by_cases c : flS B = true
  · by_cases d : aS B 13 = 0
    · rw [flR_a (A := xE E B) c d, flR_a c d, xE_lose g]
      exact ⟨rfl, fun q => by cases q⟩
    · rw [flR_b (A := xE E B) c d, flR_b c d, cP_t, xE_fl (GE_w g)]
      exact ⟨rfl, fun _ => GE_fl hm hk hw g⟩
  · rw [flR_c (A := xE E B) c, flR_c c]
    exact ⟨rfl, fun _ => ⟨g.1, g.2.1, g.2.2.1, g.2.2.2⟩⟩
theorem wlF_xE {E E' : List Nat} {k : Nat} (hk : k ≤ 600) : ∀ (n i : Nat) (B : zA), MidE E' B k i → wr B + n ≤ 10000 * k → GE E B → wlF n i (xE E B) = cP E (wlF n i B) ∧ ((wlF n i B).1 = true → GE E (wlF n i B).2)
  | 0, i, B, _, _, g => ⟨rfl, fun _ => g⟩
  | n + 1, i, B, hm, hw, g => by
    cases hx : (aV B 54).1[i]? with
    | none =>
      rw [wlF_n hx, wlF_n (A := xE E B) hx]
      exact ⟨rfl, fun _ => g⟩
    | some x =>
      have e1 : lRt (aH (xE E B)) (aV (xE E B) 54) x = lRt (aH B) (aV B 54) x := rfl
      rw [wlF_s hx, wlF_s (A := xE E B) hx, e1]
      by_cases c : lRt (aH B) (aV B 54) x = true
      · rw [if_pos c, if_pos c]
        exact wlF_xE hk n (i + 1) B (Mid_i hm (by omega)) (by omega) g
      · rw [if_neg c, if_neg c, show aS (xE E B) 13 = aS B 13 from rfl]
        by_cases d : aS B 13 = 0
        · rw [if_pos d, if_pos d, xE_lose g]
          exact ⟨rfl, fun q => by cases q⟩
        · rw [if_neg d, if_neg d, ← xE_wl (x := x) (i := i) (GE_w g)]
          obtain ⟨m1, m2⟩ := Mid_wl hm hx (by omega) hk
          exact wlF_xE hk n (i + 1) _ m1 (by omega) (GE_wl hm hk (by omega) hx g)
theorem sy1_xE {E : List Nat} {B : zA} {j : Nat} (hj : ¬ j ∈ E) (g : GE E B) : sy1 j (xE E B) = cP E (sy1 j B) ∧ ((sy1 j B).1 = true → GE E (sy1 j B).2) := by
  unfold sy1
  rw [syn_xE hj, show aS (xE E B) 13 = aS B 13 from rfl]
  by_cases c : syn (aT B) j = true
  · rw [if_pos c, if_pos c]
    exact ⟨rfl, fun _ => g⟩
  · rw [if_neg c, if_neg c]
    by_cases d : aS B 13 = 0
    · rw [if_pos d, if_pos d, xE_lose g]
      exact ⟨rfl, fun q => by cases q⟩
    · rw [if_neg d, if_neg d, cP_t, xE_syn]
      refine ⟨rfl, fun _ => GE_gen g ?_ (aActd_S (A := B) (j := 20) (by decide) (by decide)) rfl (fun _ _ => rfl) (fun f hf he => ?_) g.2.2.1⟩
      · show wr B ≤ wr (aActd B)
        rw [wr_ac]
        exact Nat.le_refl _
      · have hf' : f ∈ (aT B).map (syG j) := hf
        obtain ⟨u, u1, u2⟩ := List.mem_map.mp hf'
        have c1 : f.1 = u.1 := by rw [← u2]; exact (syG_fl j u).1
        have c2 : ¬ u.1 = j := fun q => hj (by rw [← q, ← c1]; exact he)
        have c3 : syG j u = u := by unfold syG; rw [if_neg c2]
        rw [c3] at u2
        rw [← u2]
        exact g.1 u u1 (by rw [← c1]; exact he)
theorem syX_xE {E : List Nat} {B : zA} {x : zS} (g : GE E B) (hx : x ∈ (aV B 54).1) : syX x (xE E B) = cP E (syX x B) ∧ ((syX x B).1 = true → GE E (syX x B).2) := by
  obtain ⟨s1, s2⟩ := sy1_xE (g.2.2.1 x hx).1 g
  unfold syX
  rw [s1]
  by_cases c : (sy1 x.1 B).1 = true
  · rw [if_pos c, if_pos (show (cP E (sy1 x.1 B)).1 = true from c), show (cP E (sy1 x.1 B)).2 = xE E (sy1 x.1 B).2 from if_pos c]
    cases hl : x.2.1 with
    | none => exact ⟨rfl, fun _ => s2 c⟩
    | some l => exact sy1_xE ((g.2.2.1 x hx).2 l hl) (s2 c)
  · rw [if_neg c, if_neg (show ¬ (cP E (sy1 x.1 B)).1 = true from c)]
    exact ⟨rfl, fun q => absurd q c⟩
theorem syF_n {n i : Nat} {A : zA} (hx : (aV A 54).1[i]? = none) : syF (n + 1) i A = (true, A) := by
  unfold syF
  rw [hx]
theorem syF_xE {E : List Nat} : ∀ (n i : Nat) (B : zA), GE E B → syF n i (xE E B) = cP E (syF n i B) ∧ ((syF n i B).1 = true → GE E (syF n i B).2)
  | 0, i, B, g => ⟨rfl, fun _ => g⟩
  | n + 1, i, B, g => by
    cases hx : (aV B 54).1[i]? with
    | none =>
      rw [syF_n hx, syF_n (A := xE E B) hx]
      exact ⟨rfl, fun _ => g⟩
    | some x =>
      rw [syF_s hx, syF_s (A := xE E B) hx]
      obtain ⟨s1, s2⟩ := syX_xE g (vs_mem hx)
      rw [s1]
      by_cases c : (syX x B).1 = true
      · rw [if_pos c, if_pos (show (cP E (syX x B)).1 = true from c), show (cP E (syX x B)).2 = xE E (syX x B).2 from if_pos c]
        exact syF_xE n (i + 1) _ (s2 c)
      · rw [if_neg c, if_neg (show ¬ (cP E (syX x B)).1 = true from c)]
        exact ⟨rfl, fun q => absurd q c⟩
theorem GE_own {E E' : List Nat} {B : zA} {k i : Nat} (hm : MidE E' B k i) (hk : k ≤ 600) (hw : wr B + 1 ≤ 10000 * k) (g : GE E B) : GE E (aOwn B) := by
  have p3 := hm.2.1.1.2.2.1
  have hB : nwB B (aOwn B) [] (fun _ => false) 0 0 0 := nwB_of p3
  obtain ⟨bS, b11, bH, bV, bM, bT⟩ := hB
  have ew : wr (aOwn B) = wr B + 1 := wr_actn p3 (by omega)
  refine GE_gen g (by rw [ew]; omega) (bS 20 (by decide) (by decide) (by decide)) (by rw [bV]) (fun n _ => by rw [bV]) (fun f hf he => T_app g (by rw [bT] at hf; exact hf) he) (by rw [bV]; exact g.2.2.1)
theorem prO_xE {E E' : List Nat} {B : zA} {k i : Nat} (hm : MidE E' B k i) (hk : k ≤ 600) (hw : wr B + 1 ≤ 10000 * k) (g : GE E B) : prO (xE E B) = cP E (prO B) ∧ ((prO B).1 = true → GE E (prO B).2 ∧ (aV (prO B).2 70).1 = (aV (prO B).2 54).1 ∧ ¬ (aV (prO B).2 70).2.2.1 ∈ E) := by
  obtain ⟨s1, s2⟩ := sy1_xE (B := aOwn B) (GE_w g) (GE_own hm hk hw g)
  unfold prO
  rw [show aS (xE E B) 13 = aS B 13 from rfl, show wr (xE E B) = wr B from rfl, ← xE_own (GE_w g), s1]
  by_cases d : aS B 13 = 0
  · rw [if_pos d, if_pos d, xE_lose g]
    exact ⟨rfl, fun q => by cases q⟩
  · rw [if_neg d, if_neg d]
    by_cases c : (sy1 (wr B) (aOwn B)).1 = true
    · rw [if_pos c, if_pos (show (cP E (sy1 (wr B) (aOwn B))).1 = true from c), show (cP E (sy1 (wr B) (aOwn B))).2 = xE E (sy1 (wr B) (aOwn B)).2 from if_pos c]
      have g2 := s2 c
      generalize (sy1 (wr B) (aOwn B)).2 = C at g2 ⊢
      refine ⟨rfl, fun _ => ⟨GE_gen g2 (Nat.le_refl _) rfl rfl (fun n hn => if_neg (by omega)) g2.1 g2.2.2.1, rfl, GE_w g⟩⟩
    · rw [if_neg c, if_neg (show ¬ (cP E (sy1 (wr B) (aOwn B))).1 = true from c)]
      exact ⟨rfl, fun q => absurd q c⟩
