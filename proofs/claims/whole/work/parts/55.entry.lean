/-! THE LAW'S ENTRY: every word of gx_all holds there and stays. -/
/-- words that stay at a later state whose heap is alike below -/
def gx_kind : Cond → Bool
  | .declares _ | .privateMethod _ | .castable .. | .methodLinkNest .. | .stringRef .. | .arrayOver _ | .arrayClass _ | .laysStatic .. => true
  | .not (.castable ..) => true
  | .isRef (.static ..) => true
  | .isRef (.mirror _) => true
  | .arrayOf (.static ..) (.object _) => true
  | .eq (.length (.static ..)) (.int _) => true
  | c => c.onTables && c.keeps
theorem gx_selfvm (T : State) : T.setVm T.vm = T := by cases T; rfl
theorem gx_stayS {args : Array Value} {s T : State} (hW : s.WarmedH T.vm) (hq : ∀ q : Nat, q < s.heap.size → T.heap[q]? = s.heap[q]?) {C n d : String} (h : (Cond.laysStatic C n d).before args s = true) (a : Array Value) : (Cond.laysStatic C n d).before a T = true := by
  have h1 := Cond.laysStatic_setVm hW.alike h
  obtain ⟨c, k, i, f, x, cell, hc, hi, hst, hx, hcell, hs, hcls, hlt, hty⟩ := Cond.laysStatic_spec h1
  have hxl : x < s.heap.size := (Array.getElem?_eq_some_iff.mp hcell).1
  exact Cond.laysStatic_of (s := T) (c := c) (i := i) (a := x) (k := k) (f := f) (cell := cell) hc hi hst hx (by rw [hq x hxl]; exact hcell) hs hcls hlt hty
theorem gx_stayR {args : Array Value} {s T : State} (hW : s.WarmedH T.vm) (hq : ∀ q : Nat, q < s.heap.size → T.heap[q]? = s.heap[q]?) {C n d : String} (h : (Cond.isRef (.static C n d)).before args s = true) (a : Array Value) : (Cond.isRef (.static C n d)).before a T = true := by
  have h1 : (Cond.isRef (.static C n d)).before args (s.setVm T.vm) = true := Cond.holds_shifted (State.Shifted.of_warmed hW) _ [] rfl h
  have hf : (s.setVm T.vm).fieldNamed? C n d true = T.fieldNamed? C n d true := rfl
  simp only [Cond.before, Cond.holds, Cond.value, Term.eval, hf] at h1 ⊢
  cases h2 : T.fieldNamed? C n d true with
  | none => simp [h2] at h1
  | some y =>
    obtain ⟨c, k, slot⟩ := y
    simp only [h2, Option.bind_eq_bind, Option.bind_some] at h1 ⊢
    cases h3 : k.statics with
    | none => simp [h3] at h1
    | some x =>
      simp only [h3, Option.bind_some] at h1 ⊢
      have e1 : (s.setVm T.vm).heap[x]? = s.heap[x]? := rfl
      rw [e1] at h1
      rcases Nat.lt_or_ge x s.heap.size with hx | hx
      · rw [hq x hx]; exact h1
      · rw [Array.getElem?_eq_none hx] at h1; simp at h1
theorem gx_stayMi {args : Array Value} {s T : State} (hW : s.WarmedH T.vm) {C : String} (h : (Cond.isRef (.mirror C)).before args s = true) (a : Array Value) : (Cond.isRef (.mirror C)).before a T = true := by
  obtain ⟨mi, hmi⟩ := va_Mi.of h
  obtain ⟨c, k, h1, h2, h3⟩ := va_Mi.moved hW.alike hmi
  simp [Cond.before, Cond.holds, Cond.value, Term.eval, h1, h2, h3]
theorem gx_stSt {s T : State} (hq : ∀ q : Nat, q < s.heap.size → T.heap[q]? = s.heap[q]?) {C n d : String} {args a : Array Value} {v : Value} (h : (Term.static C n d).eval args (s.setVm T.vm) none [] (s.setVm T.vm) = some v) : (Term.static C n d).eval a T none [] T = some v := by
  have hf : (s.setVm T.vm).fieldNamed? C n d true = T.fieldNamed? C n d true := rfl
  simp only [Term.eval, hf] at h ⊢
  cases h2 : T.fieldNamed? C n d true with
  | none => simp [h2] at h
  | some y =>
    obtain ⟨c, k, slot⟩ := y
    simp only [h2, Option.bind_eq_bind, Option.bind_some] at h ⊢
    cases h3 : k.statics with
    | none => simp [h3] at h
    | some x =>
      simp only [h3, Option.bind_some] at h ⊢
      have e1 : (s.setVm T.vm).heap[x]? = s.heap[x]? := rfl
      rw [e1] at h
      rcases Nat.lt_or_ge x s.heap.size with hx | hx
      · rw [hq x hx]; exact h
      · rw [Array.getElem?_eq_none hx] at h; simp at h
theorem gx_stAr {s T : State} (hq : ∀ q : Nat, q < s.heap.size → T.heap[q]? = s.heap[q]?) {x : Nat} {cell : Cell} (h : (s.setVm T.vm).arrayAt? x = some cell) : T.arrayAt? x = some cell := by
  unfold State.arrayAt? at h ⊢
  have e1 : (s.setVm T.vm).heap[x]? = s.heap[x]? := rfl
  rw [e1] at h
  rcases Nat.lt_or_ge x s.heap.size with hx | hx
  · rw [hq x hx]; exact h
  · rw [Array.getElem?_eq_none hx] at h; simp at h
theorem gx_stayL {args : Array Value} {s T : State} (hW : s.WarmedH T.vm) (hq : ∀ q : Nat, q < s.heap.size → T.heap[q]? = s.heap[q]?) {C n d : String} {j : Int32} (h : (Cond.eq (.length (.static C n d)) (.int j)).before args s = true) (a : Array Value) : (Cond.eq (.length (.static C n d)) (.int j)).before a T = true := by
  have h1 : (Cond.eq (.length (.static C n d)) (.int j)).before args (s.setVm T.vm) = true := Cond.holds_shifted (State.Shifted.of_warmed hW) _ [] rfl h
  have hv : ∀ v, (Term.length (.static C n d)).eval args (s.setVm T.vm) none [] (s.setVm T.vm) = some v → (Term.length (.static C n d)).eval a T none [] T = some v := by
    intro v hv
    simp only [Term.eval] at hv ⊢
    cases e : (Term.static C n d).eval args (s.setVm T.vm) none [] (s.setVm T.vm) with
    | none => simp only [Term.eval] at e; rw [e] at hv; simp at hv
    | some w =>
      have e2 := gx_stSt hq (a := a) e
      simp only [Term.eval] at e e2
      rw [e] at hv
      rw [e2]
      cases w with
      | ref x =>
        simp only [Option.bind_eq_bind, Option.bind_some] at hv ⊢
        cases e3 : (s.setVm T.vm).arrayAt? x with
        | none => simp [e3] at hv
        | some cell =>
          rw [e3] at hv
          rw [gx_stAr hq e3]
          exact hv
      | _ => simp at hv
  cases e : (Term.length (.static C n d)).eval args (s.setVm T.vm) none [] (s.setVm T.vm) with
  | none => simp only [Cond.before, Cond.holds, Cond.value] at h1; rw [e] at h1; simp at h1
  | some v =>
    simp only [Cond.before, Cond.holds, Cond.value] at h1 ⊢
    rw [e] at h1
    rw [hv v e]
    exact h1
theorem gx_stayO {args : Array Value} {s T : State} (hW : s.WarmedH T.vm) (hq : ∀ q : Nat, q < s.heap.size → T.heap[q]? = s.heap[q]?) {C n d : String} {E : String} (h : (Cond.arrayOf (.static C n d) (.object E)).before args s = true) (a : Array Value) : (Cond.arrayOf (.static C n d) (.object E)).before a T = true := by
  have h1 : (Cond.arrayOf (.static C n d) (.object E)).before args (s.setVm T.vm) = true := Cond.holds_shifted (State.Shifted.of_warmed hW) _ [] rfl h
  have hk : (s.setVm T.vm).knowsType (.object E) = T.knowsType (.object E) := by simp only [State.knowsType, State.vm_setVm]
  cases e : (Term.static C n d).eval args (s.setVm T.vm) none [] (s.setVm T.vm) with
  | none => simp only [Cond.before, Cond.holds, Cond.value] at h1; rw [e] at h1; simp at h1
  | some v =>
    simp only [Cond.before, Cond.holds, Cond.value] at h1 ⊢
    rw [e, hk] at h1
    rw [gx_stSt hq e]
    cases v with
    | ref x =>
      have e1 : (s.setVm T.vm).heap[x]? = s.heap[x]? := rfl
      simp only [e1] at h1
      rcases Nat.lt_or_ge x s.heap.size with hx | hx
      · simp only [hq x hx]; exact h1
      · simp [Array.getElem?_eq_none hx] at h1
    | _ => exact h1
theorem gx_stay {args a : Array Value} {s T : State} (hW : s.WarmedH T.vm) (hq : ∀ q : Nat, q < s.heap.size → T.heap[q]? = s.heap[q]?) (w : Cond) (hk : gx_kind w = true) (h : w.before args s = true) : w.before a T = true := by
  have gen : w.onTables = true → w.keeps = true → w.before a T = true := fun h1 h2 => by
    have h3 := Cond.onTables_warm (T := T) (args' := a) hW h1 h2 h
    rwa [gx_selfvm] at h3
  have face : w.onTables = true → w.faceAtom = true → w.before a T = true := fun h1 h2 => by
    have h3 := Cond.faceAtom_setVm hW.alike w h2 h
    rw [Cond.onTables_vm (A' := a) (U' := T) T.vm w h1, gx_selfvm] at h3
    exact h3
  cases w with
  | declares x => exact face rfl rfl
  | privateMethod x => exact face rfl rfl
  | castable x y => exact face rfl rfl
  | methodLinkNest c i x y => exact Cond.methodLinkNest_warmed hW h
  | stringRef c i x => exact Cond.stringRef_warmed hW h
  | arrayOver ty =>
    have h3 := (Cond.arrayOver_setVmC (args := args) hW.alike ty).trans h
    exact h3
  | arrayClass ty => exact Cond.before_shiftedFace (State.Shifted.of_warmed hW) (.arrayClass ty) rfl h
  | laysStatic c n d => exact gx_stayS hW hq h a
  | not c =>
    cases c with
    | castable x y =>
      have e2 : (Cond.not (.castable x y)).before args (s.setVm T.vm) = (Cond.not (.castable x y)).before args s := by
        simp only [Cond.before, Cond.holds, Cond.value, State.vm_setVm, hW.alike.findClass, hW.alike.assignable]
      exact e2.trans h
    | _ => exact gen (by simp_all [gx_kind]) (by simp_all [gx_kind])
  | arrayOf t ty =>
    cases t with
    | static C n d =>
      cases ty with
      | object E => exact gx_stayO hW hq h a
      | _ => exact gen (by simp_all [gx_kind]) (by simp_all [gx_kind])
    | _ => exact gen (by simp_all [gx_kind]) (by simp_all [gx_kind])
  | eq t u =>
    cases t with
    | length t =>
      cases t with
      | static C n d =>
        cases u with
        | int j => exact gx_stayL hW hq h a
        | _ => exact gen (by simp_all [gx_kind]) (by simp_all [gx_kind])
      | _ => exact gen (by simp_all [gx_kind]) (by simp_all [gx_kind])
    | _ => exact gen (by simp_all [gx_kind]) (by simp_all [gx_kind])
  | isRef t =>
    cases t with
    | static C n d => exact gx_stayR hW hq h a
    | mirror C => exact gx_stayMi hW h a
    | _ => exact gen (by simp_all [gx_kind]) (by simp_all [gx_kind])
  | _ => exact gen (by simp_all [gx_kind]) (by simp_all [gx_kind])
theorem gx_kinds : ∀ w ∈ gx_all, gx_kind w = true := List.all_eq_true.mp (by decide +kernel)
theorem gx_stSh {s T : State} (hW : s.WarmedH T.vm) {args : Array Value} {t : Nat} (h : gx_sT.eval args s none [] s = some (.ref t)) : gx_sT.eval args (s.setVm T.vm) none [] (s.setVm T.vm) = some (.ref t) := (Term.eval_setVm hW.alike gx_sT [] rfl).trans h
theorem gx_Yof {args : Array Value} {s : State} {D : va_G} (h : ∀ w ∈ gx_all, w.before args s = true) (hv : gx_sT.eval args s none [] s = some (.ref (gx_av D))) (hlt : gx_av D < s.heap.size) : gx_Y s.heap.size D s := ⟨hlt, fun a V hW hq => ⟨fun w hw => gx_stay hW hq w (gx_kinds w hw) (h w hw), gx_stSt hq (gx_stSh hW hv)⟩⟩
theorem gx_exts : ∀ w ∈ gx_ext, w ∈ flatC (.and given_1 narrow_1) := by
  have h : gx_ext.all (fun w => decide (w ∈ flatC (.and given_1 narrow_1))) = true := by decide +kernel
  intro w hw
  exact of_decide_eq_true (List.all_eq_true.mp h w hw)
theorem gx_hts0 {args : Array Value} {s : State} (h1 : ∀ w ∈ lw_tbl, w.before args s = true) (h2 : (Jvm.Cond.and given_1 narrow_1).before args s = true) : ∀ w ∈ gx_all, w.before args s = true := by
  intro w hw
  rcases List.mem_append.mp hw with h | h
  · exact h1 w h
  · exact flat_of_before _ h2 w (gx_exts w h)
/-- the static's value at the law's entry -/
theorem gx_av0 {args : Array Value} {s : State} (h : ∀ w ∈ gx_all, w.before args s = true) : ∃ t : Nat, gx_sT.eval args s none [] s = some (.ref t) ∧ t < s.heap.size := by
  have h1 : (Cond.arrayOf gx_sT (.object "java/lang/Object")).before args s = true := h _ (List.mem_append_right _ (by unfold gx_ext gx_sT; simp))
  simp only [Cond.before, Cond.holds, Cond.value] at h1
  cases e : gx_sT.eval args s none [] s with
  | none => rw [e] at h1; simp at h1
  | some v =>
    rw [e] at h1
    cases v with
    | ref t =>
      refine ⟨t, rfl, ?_⟩
      rcases Nat.lt_or_ge t s.heap.size with hx | hx
      · exact hx
      · simp [Array.getElem?_eq_none hx] at h1
    | _ => simp at h1
/-- at the law's entry -/
theorem gx_Y0 {args : Array Value} {s : State} {D : va_G} (h1 : ∀ w ∈ lw_tbl, w.before args s = true) (h2 : (Jvm.Cond.and given_1 narrow_1).before args s = true) (hv : gx_sT.eval args s none [] s = some (.ref (gx_av D))) (hlt : gx_av D < s.heap.size) : gx_Y s.heap.size D s := gx_Yof (gx_hts0 h1 h2) hv hlt
