/-! MAPS. The world as a map from NAMES (numbers of our own choice) to an address and what lies there; one hypothesis (gz) for all that a walk carries along. A name may be given anew: then what it stood for is forgotten. -/
abbrev gm_M : Type := Nat → Option (Nat × va_E)
def gm_up (h : gm_M) (n : Nat) (x : Nat × va_E) : gm_M := fun q => if q = n then some x else h q
theorem gm_self {h : gm_M} {n : Nat} {x : Nat × va_E} : gm_up h n x n = some x := if_pos rfl
theorem gm_off {h : gm_M} {n q : Nat} {x : Nat × va_E} (hne : q ≠ n) : gm_up h n x q = h q := if_neg hne
theorem gm_at {h : gm_M} {n q : Nat} {x : Nat × va_E} {y : Option (Nat × va_E)} (f : h q = y) (hne : q ≠ n) : gm_up h n x q = y := (if_neg hne).trans f
/-- every named thing lies in the list, and no two names share an address -/
def gm_S (h : gm_M) (ws : va_W) : Prop := (∀ (n : Nat) (x : Nat × va_E), h n = some x → ∃ k : Nat, ws[k]? = some x) ∧ ∀ (n n' : Nat) (x x' : Nat × va_E), h n = some x → h n' = some x' → x.1 = x'.1 → n = n'
theorem gm_S.set {h : gm_M} {ws : va_W} {k n a : Nat} {x y : va_E} (hS : gm_S h ws) (hn : h n = some (a, x)) (hk : ws[k]? = some (a, x)) : gm_S (gm_up h n (a, y)) (ws.set k (a, y)) := by
  have hlt := (List.getElem?_eq_some_iff.mp hk).1
  refine ⟨fun b z hb => ?_, fun b b' z z' hb hb' e => ?_⟩
  · by_cases e : b = n
    · rw [e, gm_self] at hb
      cases hb
      exact ⟨k, List.getElem?_set_self hlt⟩
    · rw [gm_off e] at hb
      obtain ⟨j, hj⟩ := hS.1 b z hb
      have hne : k ≠ j := fun q => by
        rw [← q, hk] at hj
        have hz : (a, x) = z := Option.some.inj hj
        exact e (hS.2 b n z (a, x) hb hn (by rw [← hz]))
      exact ⟨j, by rw [List.getElem?_set_ne hne]; exact hj⟩
  · by_cases e1 : b = n
    · by_cases e2 : b' = n
      · rw [e1, e2]
      · rw [e1, gm_self] at hb
        rw [gm_off e2] at hb'
        cases hb
        exact e1.trans (hS.2 n b' (a, x) z' hn hb' e)
    · rw [gm_off e1] at hb
      by_cases e2 : b' = n
      · rw [e2, gm_self] at hb'
        cases hb'
        exact (hS.2 b n z (a, x) hb hn e).trans e2.symm
      · rw [gm_off e2] at hb'
        exact hS.2 b b' z z' hb hb' e
theorem gm_S.push {h : gm_M} {ws : va_W} {A : Nat → Prop} {q : Nat} {x : va_E} (n : Nat) (hS : gm_S h ws) (hD : va_D A (ws ++ [(q, x)])) : gm_S (gm_up h n (q, x)) (ws ++ [(q, x)]) := by
  have hl : (ws ++ [(q, x)])[ws.length]? = some (q, x) := gs_last rfl
  have hout : ∀ (b : Nat) (z : Nat × va_E), h b = some z → z.1 ≠ q := fun b z hb e => by
    obtain ⟨j, hj⟩ := hS.1 b z hb
    have h1 := hD.1 j ws.length _ _ (gs_app hj) hl e
    have h2 := (List.getElem?_eq_some_iff.mp hj).1
    omega
  refine ⟨fun b z hb => ?_, fun b b' z z' hb hb' e => ?_⟩
  · by_cases e : b = n
    · rw [e, gm_self] at hb
      cases hb
      exact ⟨ws.length, hl⟩
    · rw [gm_off e] at hb
      obtain ⟨j, hj⟩ := hS.1 b z hb
      exact ⟨j, gs_app hj⟩
  · by_cases e1 : b = n
    · by_cases e2 : b' = n
      · rw [e1, e2]
      · rw [e1, gm_self] at hb
        rw [gm_off e2] at hb'
        cases hb
        exact absurd e.symm (hout b' z' hb')
    · rw [gm_off e1] at hb
      by_cases e2 : b' = n
      · rw [e2, gm_self] at hb'
        cases hb'
        exact absurd e (hout b z hb)
      · rw [gm_off e2] at hb'
        exact hS.2 b b' z z' hb hb' e
/-- all names but those of ks stand as they stood -/
def gm_g (h h' : gm_M) (ks : List Nat) : Prop := ∀ n : Nat, n ∉ ks → h' n = h n
theorem gm_g.rf {h : gm_M} {ks : List Nat} : gm_g h h ks := fun _ _ => rfl
theorem gm_g.put {h h' : gm_M} {ks : List Nat} {n : Nat} {x : Nat × va_E} (hg : gm_g h h' ks) (hn : n ∈ ks) : gm_g h (gm_up h' n x) ks := fun b hb => (gm_off (fun e => hb (by rw [e]; exact hn))).trans (hg b hb)
theorem gm_g.call {h h' h2 : gm_M} {ks ks' : List Nat} (hg : gm_g h h' ks) (hc : gm_g h' h2 ks') (hs : ∀ k ∈ ks', k ∈ ks) : gm_g h h2 ks := fun b hb => (hc b (fun e => hb (hs b e))).trans (hg b hb)
theorem gm_g.at {h h' : gm_M} {ks : List Nat} {n : Nat} {x : Option (Nat × va_E)} (hg : gm_g h h' ks) (f : h n = x) (hn : n ∉ ks) : h' n = x := (hg n hn).trans f
/-- all that a walk carries: the map h is the heap's, what was written lies in A -/
def gz (D : va_G) (A : Nat → Prop) (H0 : Heap) (h : gm_M) (H : Heap) (locs : List Loc) : Prop := ∃ ws : va_W, gm_S h ws ∧ va_P D classes ws H ∧ va_D A ws ∧ va_S A H0 H locs
/-- a contract's outcome over maps -/
def gm_p (post : Option Value ⊕ String → gm_M → Prop) : Option Value ⊕ String → va_W → Prop := fun r ws => ∃ h : gm_M, gm_S h ws ∧ post r h
section GZR
variable {p : Program} {l : Launch} {e : Env} {R : Room} {s : State} {m : MethodId} {args : Array Value} {below : List Frame} {meth : Method} {c : Code} {H : Heap} {locs : List Loc} {cells slots : Nat} {Q : State → Prop} {cc : ByteArray}
variable {D : va_G} {tys : List (ClassId × FieldType)} {h : gm_M} {A : Nat → Prop} {pc : Nat} {ls : Array Slot} {rest st0 : List Value} {H0 : Heap} {a n0 : Nat}
theorem gz_get (hx : p.tables.exec = Jvm.exec) (hb : c.code = cc) {own C : String} {T : u_T} {N ci index : Nat} (hts : ∀ w ∈ gx_all, w.before args s = true) (hin : ∀ w ∈ u_ws C T N, w ∈ gx_all) (hown : s.vm.findClass own = some m.cls) (hK : va_K D classes tys s) (Z : gz D A H0 h H locs) {fs : List Value} (he : h n0 = some (a, Sum.inr (ci, fs))) (hc : classes[ci]? = some (C, T, N)) (k : Nat) (hk : k < N) (hlink : Cond.fieldLink own index (T k).1 (T k).2.1 (T k).2.2.1 ∈ gx_all) {v : Value} (hv : fs[k]? = some v) (hdg : decode cc pc = .ok (.getfield index, 3))
    (kk : W p l e R s m args below meth c H locs cells slots Q (F0 m (pc + 3) ls (v :: rest))) : W p l e R s m args below meth c H locs cells slots Q (F0 m pc ls (Value.ref a :: rest)) := by
  obtain ⟨ws, h1, h2, h3, h4⟩ := Z
  obtain ⟨q0, hq⟩ := h1.1 _ _ he
  exact va_get hx hb hts hin hown hK h2 q0 hq hc k hk (hts _ hlink) (fun _ h9 => h9) hv hdg kk
theorem gz_put (hx : p.tables.exec = Jvm.exec) (hb : c.code = cc) {own C : String} {T : u_T} {N ci index : Nat} (hts : ∀ w ∈ gx_all, w.before args s = true) (hin : ∀ w ∈ u_ws C T N, w ∈ gx_all) {ty0 : Nat → FieldType} (hty : ∀ k, k < N → parseFieldDescriptor (T k).2.2.1 = some (ty0 k)) (hnm : ∀ a, a < N → ∀ b, b < N → a ≠ b → (T a).2.1 ≠ (T b).2.1) (hown : s.vm.findClass own = some m.cls) (hK : va_K D classes tys s) (Z : gz D A H0 h H locs) {fs : List Value} (he : h n0 = some (a, Sum.inr (ci, fs))) (hc : classes[ci]? = some (C, T, N)) (k : Nat) (hk : k < N) (hlink : Cond.fieldLink own index (T k).1 (T k).2.1 (T k).2.2.1 ∈ gx_all) (hfin : (T k).2.2.2 = false) {ty : FieldType} {v : Value} (hd : parseFieldDescriptor (T k).2.2.1 = some ty) (hn : narrow ty v = v) (hfit : fits ty v = true) (hl : k < fs.length) (hdg : decode cc pc = .ok (.putfield index, 3))
    (kk : ∀ (H1 : Heap) (locs1 : List Loc), gz D A H0 (gm_up h n0 (a, Sum.inr (ci, fs.set k v))) H1 locs1 → W p l e R s m args below meth c H1 locs1 cells slots Q (F0 m (pc + 3) ls rest)) : W p l e R s m args below meth c H locs cells slots Q (F0 m pc ls (v :: Value.ref a :: rest)) := by
  obtain ⟨ws, h1, h2, h3, h4⟩ := Z
  obtain ⟨q0, hq⟩ := h1.1 _ _ he
  exact va_put hx hb hts hin ty0 hty hnm hown hK h2 h3 h4 q0 hq hc k hk (hts _ hlink) (fun _ h9 => h9) hfin hd hn hfit hl hdg (fun H1 locs1 a1 a2 a3 => kk H1 locs1 ⟨_, h1.set he hq, a1, a2, a3⟩)
theorem gz_iald (hx : p.tables.exec = Jvm.exec) (hb : c.code = cc) (hK : va_K D classes tys s) (Z : gz D A H0 h H locs) (t0 : Nat) {cA : ClassId} {n : Nat} {f : Nat → Int32} (ha : h n0 = some (a, Sum.inl (cA, n, Sum.inl f))) (ht : tys[t0]? = some (cA, FieldType.int)) {i : Int32} {j : Nat} (hj : j < n) (hi : i = nI j) (hn : n < 2 ^ 31) (hdg : decode cc pc = .ok (.iaload, 1))
    (kk : W p l e R s m args below meth c H locs cells slots Q (F0 m (pc + 1) ls (Value.int (f j) :: rest))) : W p l e R s m args below meth c H locs cells slots Q (F0 m pc ls (Value.int i :: Value.ref a :: rest)) := by
  subst hi
  obtain ⟨ws, h1, h2, h3, h4⟩ := Z
  obtain ⟨q0, hq⟩ := h1.1 _ _ ha
  exact va_iald hx hb hK h2 q0 t0 hq ht (vp_in_nI hj hn) hdg (by rw [nI_clamp (by omega)]; exact kk)
theorem gz_zald (hx : p.tables.exec = Jvm.exec) (hb : c.code = cc) (hK : va_K D classes tys s) (Z : gz D A H0 h H locs) (t0 : Nat) {cA : ClassId} {n : Nat} {f : Nat → Int32} (ha : h n0 = some (a, Sum.inl (cA, n, Sum.inl f))) (ht : tys[t0]? = some (cA, FieldType.boolean)) {i : Int32} {j : Nat} (hj : j < n) (hi : i = nI j) (hn : n < 2 ^ 31) (hdg : decode cc pc = .ok (.baload, 1))
    (kk : W p l e R s m args below meth c H locs cells slots Q (F0 m (pc + 1) ls (Value.int (f j) :: rest))) : W p l e R s m args below meth c H locs cells slots Q (F0 m pc ls (Value.int i :: Value.ref a :: rest)) := by
  subst hi
  obtain ⟨ws, h1, h2, h3, h4⟩ := Z
  obtain ⟨q0, hq⟩ := h1.1 _ _ ha
  exact va_zald hx hb hK h2 q0 t0 hq ht (vp_in_nI hj hn) hdg (by rw [nI_clamp (by omega)]; exact kk)
theorem gz_aald (hx : p.tables.exec = Jvm.exec) (hb : c.code = cc) (hK : va_K D classes tys s) (Z : gz D A H0 h H locs) (t0 : Nat) {cA : ClassId} {C : String} {n : Nat} {f : Nat → Option Nat} (ha : h n0 = some (a, Sum.inl (cA, n, Sum.inr (Sum.inr (Sum.inr (Sum.inr f)))))) (ht : tys[t0]? = some (cA, FieldType.object C)) {i : Int32} {j : Nat} (hj : j < n) (hi : i = nI j) (hn : n < 2 ^ 31) {v : Value} (hv : va_rf (f j) = v) (hdg : decode cc pc = .ok (.aaload, 1))
    (kk : W p l e R s m args below meth c H locs cells slots Q (F0 m (pc + 1) ls (v :: rest))) : W p l e R s m args below meth c H locs cells slots Q (F0 m pc ls (Value.int i :: Value.ref a :: rest)) := by
  subst hi
  obtain ⟨ws, h1, h2, h3, h4⟩ := Z
  obtain ⟨q0, hq⟩ := h1.1 _ _ ha
  exact va_aldq hx hb hK h2 q0 t0 hq ht (vp_in_nI hj hn) hdg (by rw [nI_clamp (by omega), hv]; exact kk)
theorem gz_iast (hx : p.tables.exec = Jvm.exec) (hb : c.code = cc) (hK : va_K D classes tys s) (Z : gz D A H0 h H locs) (t0 : Nat) {cA : ClassId} {n : Nat} {f : Nat → Int32} (ha : h n0 = some (a, Sum.inl (cA, n, Sum.inl f))) (ht : tys[t0]? = some (cA, FieldType.int)) {i x : Int32} {j : Nat} (hj : j < n) (hi : i = nI j) (hn : n < 2 ^ 31) (hdg : decode cc pc = .ok (.iastore, 1))
    (kk : ∀ (H1 : Heap) (locs1 : List Loc), gz D A H0 (gm_up h n0 (a, Sum.inl (cA, n, Sum.inl (upd f j x)))) H1 locs1 → W p l e R s m args below meth c H1 locs1 cells slots Q (F0 m (pc + 1) ls rest)) : W p l e R s m args below meth c H locs cells slots Q (F0 m pc ls (Value.int x :: Value.int i :: Value.ref a :: rest)) := by
  subst hi
  obtain ⟨ws, h1, h2, h3, h4⟩ := Z
  obtain ⟨q0, hq⟩ := h1.1 _ _ ha
  have ec : (nI j).toNatClampNeg = j := nI_clamp (by omega)
  exact va_iast hx hb hK h2 h3 h4 q0 t0 hq ht (vp_in_nI hj hn) hdg (fun H1 locs1 a1 a2 a3 => by
    rw [ec] at a1 a2
    exact kk H1 locs1 ⟨_, h1.set ha hq, a1, a2, a3⟩)
theorem gz_zast (hx : p.tables.exec = Jvm.exec) (hb : c.code = cc) (hK : va_K D classes tys s) (Z : gz D A H0 h H locs) (t0 : Nat) {cA : ClassId} {n : Nat} {f : Nat → Int32} (ha : h n0 = some (a, Sum.inl (cA, n, Sum.inl f))) (ht : tys[t0]? = some (cA, FieldType.boolean)) {i x : Int32} {j : Nat} (hj : j < n) (hi : i = nI j) (hn : n < 2 ^ 31) (hdg : decode cc pc = .ok (.bastore, 1))
    (kk : ∀ (H1 : Heap) (locs1 : List Loc), gz D A H0 (gm_up h n0 (a, Sum.inl (cA, n, Sum.inl (upd f j (vp_nar .boolean x))))) H1 locs1 → W p l e R s m args below meth c H1 locs1 cells slots Q (F0 m (pc + 1) ls rest)) : W p l e R s m args below meth c H locs cells slots Q (F0 m pc ls (Value.int x :: Value.int i :: Value.ref a :: rest)) := by
  subst hi
  obtain ⟨ws, h1, h2, h3, h4⟩ := Z
  obtain ⟨q0, hq⟩ := h1.1 _ _ ha
  have ec : (nI j).toNatClampNeg = j := nI_clamp (by omega)
  exact va_zast hx hb hK h2 h3 h4 q0 t0 hq ht (vp_in_nI hj hn) hdg (fun H1 locs1 a1 a2 a3 => by
    rw [ec] at a1 a2
    exact kk H1 locs1 ⟨_, h1.set ha hq, a1, a2, a3⟩)
theorem gz_aast (hx : p.tables.exec = Jvm.exec) (hb : c.code = cc) (hK : va_K D classes tys s) (Z : gz D A H0 h H locs) (t0 ci : Nat) {cA : ClassId} {r : vw_C} {n v : Nat} {vs : List Value} {f : Nat → Option Nat} (ha : h n0 = some (a, Sum.inl (cA, n, Sum.inr (Sum.inr (Sum.inr (Sum.inr f)))))) (ht : tys[t0]? = some (cA, FieldType.object r.1)) {n1 : Nat} (hv : h n1 = some (v, Sum.inr (ci, vs))) (hc : classes[ci]? = some r) {i : Int32} {j : Nat} (hj : j < n) (hi : i = nI j) (hn : n < 2 ^ 31) (hdg : decode cc pc = .ok (.aastore, 1))
    (kk : ∀ (H1 : Heap) (locs1 : List Loc), gz D A H0 (gm_up h n0 (a, Sum.inl (cA, n, Sum.inr (Sum.inr (Sum.inr (Sum.inr (va_up f j (some v)))))))) H1 locs1 → W p l e R s m args below meth c H1 locs1 cells slots Q (F0 m (pc + 1) ls rest)) : W p l e R s m args below meth c H locs cells slots Q (F0 m pc ls (Value.ref v :: Value.int i :: Value.ref a :: rest)) := by
  subst hi
  obtain ⟨ws, h1, h2, h3, h4⟩ := Z
  obtain ⟨q0, hq⟩ := h1.1 _ _ ha
  obtain ⟨q1, hq1⟩ := h1.1 _ _ hv
  have ec : (nI j).toNatClampNeg = j := nI_clamp (by omega)
  exact va_astq hx hb hK h2 h3 h4 q0 t0 q1 ci hq ht hq1 hc (vp_in_nI hj hn) hdg (fun H1 locs1 a1 a2 a3 => by
    rw [ec] at a1 a2
    exact kk H1 locs1 ⟨_, h1.set ha hq, a1, a2, a3⟩)
theorem gz_alen (hx : p.tables.exec = Jvm.exec) (hb : c.code = cc) (hK : va_K D classes tys s) (Z : gz D A H0 h H locs) (t0 : Nat) {cA : ClassId} {x : vp_A} (ha : h n0 = some (a, Sum.inl (cA, x))) {ty : FieldType} (ht : tys[t0]? = some (cA, ty)) {v : Int32} (hv : Int32.ofNat x.1 = v) (hdg : decode cc pc = .ok (.arraylength, 1))
    (kk : W p l e R s m args below meth c H locs cells slots Q (F0 m (pc + 1) ls (Value.int v :: rest))) : W p l e R s m args below meth c H locs cells slots Q (F0 m pc ls (Value.ref a :: rest)) := by
  obtain ⟨ws, h1, h2, h3, h4⟩ := Z
  obtain ⟨q0, hq⟩ := h1.1 _ _ ha
  exact va_alen hx hb hK h2 q0 t0 hq ht hv hdg kk
theorem gz_new (nm : Nat) (hx : p.tables.exec = Jvm.exec) (hb : c.code = cc) {own C : String} {T : u_T} {N ci index : Nat} (hts : ∀ w ∈ gx_all, w.before args s = true) (hin : ∀ w ∈ u_ws C T N, w ∈ gx_all) (ty : Nat → FieldType) (hty : ∀ k, k < N → parseFieldDescriptor (T k).2.2.1 = some (ty k)) (hown : s.vm.findClass own = some m.cls) (hcl : Cond.classLink own index C ∈ gx_all) (hinst : Cond.instantiable C N ∈ gx_all) (hini : Cond.initialized C ∈ gx_all) (hK : va_K D classes tys s) (Z : gz D A H0 h H locs) (hA : ∀ q, H0.size ≤ q → A q) (hc : classes[ci]? = some (C, T, N)) {fs : List Value} (hfs : ∀ j, j < N → defaultValue (ty j) = vp_V fs j) (hcells : cells + 1 ≤ R.cells) (hslots : slots + N ≤ R.slots) (hdg : decode cc pc = .ok (.new index, 3))
    (kk : ∀ (q : Nat) (H1 : Heap), gz D A H0 (gm_up h nm (q, Sum.inr (ci, fs))) H1 locs → W p l e R s m args below meth c H1 locs (cells + 1) (slots + N) Q (F0 m (pc + 3) ls (Value.ref q :: rest))) : W p l e R s m args below meth c H locs cells slots Q (F0 m pc ls rest) := by
  obtain ⟨ws, h1, h2, h3, h4⟩ := Z
  exact va_new hx hb hts hin ty hty hown (hts _ hcl) (hts _ hinst) (hts _ hini) hK h2 h3 h4 hA hc hfs hcells hslots hdg (fun q H1 a1 a2 a3 => kk q H1 ⟨_, h1.push nm a2, a1, a2, a3⟩)
theorem gz_newq (nm : Nat) (hx : p.tables.exec = Jvm.exec) (hb : c.code = cc) {own C : String} {index : Nat} (hts : ∀ w ∈ gx_all, w.before args s = true) (hown : s.vm.findClass own = some m.cls) (hcl : Cond.classLink own index C ∈ gx_all) (hover : Cond.arrayOver (.object C) ∈ gx_all) (hK : va_K D classes tys s) (Z : gz D A H0 h H locs) (hA : ∀ q, H0.size ≤ q → A q) (ti : Nat) {cI : ClassId} (ht : tys[ti]? = some (cI, FieldType.object C)) {n : Int32} {N' : Nat} (hn : ¬ n < 0) (hN : n.toNatClampNeg = N') (hbytes : N' * 4 ≤ 536870912) (hcells : cells + 1 ≤ R.cells) (hslots : slots + N' ≤ R.slots) (hdg : decode cc pc = .ok (.anewarray index, 3))
    (kk : ∀ (q : Nat) (H1 : Heap), gz D A H0 (gm_up h nm (q, Sum.inl (cI, N', Sum.inr (Sum.inr (Sum.inr (Sum.inr (fun _ => none))))))) H1 locs → W p l e R s m args below meth c H1 locs (cells + 1) (slots + N') Q (F0 m (pc + 3) ls (Value.ref q :: rest))) : W p l e R s m args below meth c H locs cells slots Q (F0 m pc ls (Value.int n :: rest)) := by
  obtain ⟨ws, h1, h2, h3, h4⟩ := Z
  exact gx_newq hx hb hown (hts _ hcl) (hts _ hover) hK h2 h3 h4 hA ti ht hn hN hbytes hcells hslots hdg (fun q H1 a1 a2 a3 => kk q H1 ⟨_, h1.push nm a2, a1, a2, a3⟩)
/-- ends of a method -/
theorem gz_iret (hx : p.tables.exec = Jvm.exec) (hb : c.code = cc) (hr : meth.sig.returnType = some .int) (hlocks : meth.locks = false) (hK : va_K D classes tys s) {post : Option Value ⊕ String → gm_M → Prop} {mc ms : Nat} {v : Int32} (Z : gz D A s.heap h H locs) (h1 : cells ≤ mc) (h2 : slots ≤ ms) (hp : post (Sum.inl (some (Value.int v))) h) (hdg : decode cc pc = .ok (.ireturn, 1)) : W p l e R s m args below meth c H locs cells slots (gx_MQ below (gx_Q D classes tys A (gm_p post)) args s mc ms A) (F0 m pc ls [Value.int v]) := by
  obtain ⟨ws, a1, a2, a3, a4⟩ := Z
  refine W.widen (k := mc) (n := ms) h1 h2 ?_
  exact gx_ret (W.iret (v := v) hx hb hr (gx_post a2 hK a3 a4 ⟨h, a1, hp⟩) a4.2.2 hdg)
theorem gz_zret (hx : p.tables.exec = Jvm.exec) (hb : c.code = cc) (hr : meth.sig.returnType = some .boolean) (hlocks : meth.locks = false) (hK : va_K D classes tys s) {post : Option Value ⊕ String → gm_M → Prop} {mc ms : Nat} {v : Int32} (Z : gz D A s.heap h H locs) (h1 : cells ≤ mc) (h2 : slots ≤ ms) (hv : narrow .boolean (.int v) = .int v) (hp : post (Sum.inl (some (Value.int v))) h) (hdg : decode cc pc = .ok (.ireturn, 1)) : W p l e R s m args below meth c H locs cells slots (gx_MQ below (gx_Q D classes tys A (gm_p post)) args s mc ms A) (F0 m pc ls [Value.int v]) := by
  obtain ⟨ws, a1, a2, a3, a4⟩ := Z
  refine W.widen (k := mc) (n := ms) h1 h2 ?_
  exact gx_ret (W.zret (v := v) (ty := .boolean) hx hb hr hv (gx_post a2 hK a3 a4 ⟨h, a1, hp⟩) a4.2.2 hdg)
theorem gz_vret (hx : p.tables.exec = Jvm.exec) (hb : c.code = cc) (hr : meth.sig.returnType = none) (hlocks : meth.locks = false) (hK : va_K D classes tys s) {post : Option Value ⊕ String → gm_M → Prop} {mc ms : Nat} (Z : gz D A s.heap h H locs) (h1 : cells ≤ mc) (h2 : slots ≤ ms) (hp : post (Sum.inl none) h) (hdg : decode cc pc = .ok (.return_, 1)) : W p l e R s m args below meth c H locs cells slots (gx_MQ below (gx_Q D classes tys A (gm_p post)) args s mc ms A) (F0 m pc ls []) := by
  obtain ⟨ws, a1, a2, a3, a4⟩ := Z
  refine W.widen (k := mc) (n := ms) h1 h2 ?_
  exact gx_ret (W.vret hx hb hr (gx_post a2 hK a3 a4 ⟨h, a1, hp⟩) a4.2.2 hdg)
/-- an exception of a callee goes on -/
theorem gz_pass {post : Option Value ⊕ String → gm_M → Prop} {x mc ms : Nat} {st : List Value} {E : String} {ce : Cell} (hne : c.exceptionTable.isEmpty = true) (hlocks : meth.locks = false) (hce : H[x]? = some ce ∧ ce.vm = .none ∧ s.vm.findClass E = some ce.cls) (hK : va_K D classes tys s) (Z : gz D A s.heap h H locs) (h1 : cells ≤ mc) (h2 : slots ≤ ms) (hp : post (Sum.inr E) h) : gx_T p l e R s m args below meth c H locs cells slots (gx_MQ below (gx_Q D classes tys A (gm_p post)) args s mc ms A) (F0 m pc ls st) x := by
  obtain ⟨ws, a1, a2, a3, a4⟩ := Z
  exact gx_pass hne hlocks hce a2 hK a3 a4 h1 h2 ⟨h, a1, hp⟩
/-- THE CALL over maps -/
theorem gz_call {y : MethodName} {bytes : ByteArray} {maxL nL mc ms z : Nat} {ret : Option FieldType} {rm : Room} {post : Option Value ⊕ String → gm_M → Prop} {av : List Value} {ig : Instr} (Z : gz D A s.heap h H locs)
    (hM : ∀ ws : va_W, gm_S h ws → gx_Met l y [Cond.code y bytes maxL ret] rm (gx_P z H.size D classes tys ws av) (gx_Q D classes tys (va_A ws H.size) (gm_p post)) mc ms (va_A ws H.size)) (hI : gx_inv p l e R s m args below meth c H locs cells slots y av.toArray (F0 m pc ls st0) rest) (cw : gx_W R s y bytes maxL ret rm mc ms) (hb : c.code = cc) (hml : c.maxLocals = nL)
    (hz : z ≤ s.heap.size) (hK : va_K D classes tys s) (hY : gx_Y z D s) (hAz : ∀ q : Nat, A q → z ≤ q) (hA : ∀ q : Nat, s.heap.size ≤ q → A q) (hsize : ls.size = nL) (hW : 2 * (F0 m pc ls st0).monitorRoom + (rest.map fun v => v.category).sum ≤ 8) (hdg : decode cc pc = .ok (ig, 3)) (hf : cells + mc ≤ R.cells ∧ slots + ms ≤ R.slots)
    (kr : ∀ (v : Option Value) (h1 : gm_M) (H1 : Heap) (L : List Loc), post (Sum.inl v) h1 → gz D A s.heap h1 H1 L → W p l e R s m args below meth c H1 L (cells + mc) (slots + ms) Q (F0 m (pc + 3) ls (v.toList ++ rest)))
    (kt : ∀ (x : Nat) (E : String) (ce : Cell) (h1 : gm_M) (H1 : Heap) (L : List Loc), post (Sum.inr E) h1 → (H1[x]? = some ce ∧ ce.vm = .none ∧ s.vm.findClass E = some ce.cls) → gz D A s.heap h1 H1 L → gx_T p l e R s m args below meth c H1 L (cells + mc) (slots + ms) Q (F0 m pc ls rest) x) :
    W p l e R s m args below meth c H locs cells slots Q (F0 m pc ls st0) := by
  obtain ⟨ws, a1, a2, a3, a4⟩ := Z
  refine gx_call (hM ws a1) hI cw hb hml gx_blind (gx_pre hz a2 hK a3 hY a4 hAz av) rfl hsize hW hdg hf (fun v st t L h0 hW9 hQ hL => ?_) (fun x st t L h0 hW9 hQ hL => ?_)
  · obtain ⟨ws1, ⟨h1, b1, hp⟩, b2, -, b3, b4⟩ := gx_back h0 hW9 hQ hL a3 a4 hA
    exact kr v h1 _ _ hp ⟨ws1, b1, b2, b3, b4⟩
  · obtain ⟨E, ws1, ce, ⟨h1, b1, hp⟩, hce, b2, -, b3, b4⟩ := gx_backT h0 hW9 hQ hL a3 a4 hA
    exact kt x E ce h1 _ _ hp hce ⟨ws1, b1, b2, b3, b4⟩
/-- A LOOP: I k holds at its head the k-th time; the room taken may grow -/
theorem gz_loop {N : Nat} (cl sl : Nat → Nat) (I : Nat → gm_M → Array Slot → Prop)
    (step : ∀ (k : Nat) (h : gm_M) (H : Heap) (locs : List Loc) (ls : Array Slot), k < N → I k h ls → gz D A s.heap h H locs → (∀ (h1 : gm_M) (H1 : Heap) (locs1 : List Loc) (ls1 : Array Slot), I (k + 1) h1 ls1 → gz D A s.heap h1 H1 locs1 → W p l e R s m args below meth c H1 locs1 (cl (k + 1)) (sl (k + 1)) Q (F0 m pc ls1 [])) → W p l e R s m args below meth c H locs (cl k) (sl k) Q (F0 m pc ls []))
    (exit : ∀ (h : gm_M) (H : Heap) (locs : List Loc) (ls : Array Slot), I N h ls → gz D A s.heap h H locs → W p l e R s m args below meth c H locs (cl N) (sl N) Q (F0 m pc ls [])) :
    ∀ (r k : Nat) (h : gm_M) (H : Heap) (locs : List Loc) (ls : Array Slot), k + r = N → I k h ls → gz D A s.heap h H locs → W p l e R s m args below meth c H locs (cl k) (sl k) Q (F0 m pc ls []) := by
  intro r
  induction r with
  | zero =>
    intro k h H locs ls hk hI Z
    have e9 : k = N := by omega
    subst e9
    exact exit h H locs ls hI Z
  | succ r ih =>
    intro k h H locs ls hk hI Z
    exact step k h H locs ls (by omega) hI Z (fun h1 H1 locs1 ls1 hI1 Z1 => ih (k + 1) h1 H1 locs1 ls1 (by omega) hI1 Z1)
/-- a reference or null is stored: of a reference it is known what it is -/
theorem gz_aastO (hx : p.tables.exec = Jvm.exec) (hb : c.code = cc) (hK : va_K D classes tys s) (Z : gz D A H0 h H locs) (t0 ci : Nat) {cA : ClassId} {r : vw_C} {n : Nat} {x : Option Nat} {f : Nat → Option Nat} (ha : h n0 = some (a, Sum.inl (cA, n, Sum.inr (Sum.inr (Sum.inr (Sum.inr f)))))) (ht : tys[t0]? = some (cA, FieldType.object r.1)) (hv : ∀ v, x = some v → ∃ (n1 : Nat) (vs : List Value), h n1 = some (v, Sum.inr (ci, vs))) (hc : classes[ci]? = some r) {i : Int32} {j : Nat} (hj : j < n) (hi : i = nI j) (hn : n < 2 ^ 31) (hdg : decode cc pc = .ok (.aastore, 1))
    (kk : ∀ (H1 : Heap) (locs1 : List Loc), gz D A H0 (gm_up h n0 (a, Sum.inl (cA, n, Sum.inr (Sum.inr (Sum.inr (Sum.inr (va_up f j x))))))) H1 locs1 → W p l e R s m args below meth c H1 locs1 cells slots Q (F0 m (pc + 1) ls rest)) : W p l e R s m args below meth c H locs cells slots Q (F0 m pc ls (va_rf x :: Value.int i :: Value.ref a :: rest)) := by
  cases x with
  | some v =>
    obtain ⟨n1, vs, h9⟩ := hv v rfl
    exact gz_aast hx hb hK Z t0 ci ha ht h9 hc hj hi hn hdg kk
  | none =>
    subst hi
    obtain ⟨ws, h1, h2, h3, h4⟩ := Z
    obtain ⟨q0, hq⟩ := h1.1 _ _ ha
    have ec : (nI j).toNatClampNeg = j := nI_clamp (by omega)
    exact va_astqN hx hb hK h2 h3 h4 q0 t0 hq ht (vp_in_nI hj hn) hdg (fun H1 locs1 a1 a2 a3 => by
      rw [ec] at a1 a2
      exact kk H1 locs1 ⟨_, h1.set ha hq, a1, a2, a3⟩)
theorem gz_recv {ci : Nat} {q : vw_C} {fs : List Value} (hK : va_K D classes tys s) (Z : gz D A H0 h H locs) (hc : classes[ci]? = some q) (he : h n0 = some (a, Sum.inr (ci, fs))) : ∃ cell : Cell, H[a]? = some cell ∧ cell.vm.isStatics = false ∧ s.vm.findClass q.1 = some cell.cls := by
  obtain ⟨ws, h1, h2, h3, h4⟩ := Z
  obtain ⟨q0, hq⟩ := h1.1 _ _ he
  exact va_recv hK h2 hc hq
end GZR
