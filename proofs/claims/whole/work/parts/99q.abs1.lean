/-! THE PURE SIDE: the abstract ledger; a Version's rows hold a list of segments -/
/-- a segment: its file, its list, its merge -/
abbrev zS : Type := Nat × Option Nat × Nat
/-- a version: segments, which entries are live, own, serial, number -/
abbrev zV : Type := List zS × (Nat → Bool) × Nat × Int32 × Int32
def lsd (Ls : Nat → Nat → Bool) : Option Nat → Nat → Bool
  | none, _ => true
  | some k, d => Ls k d
def fl (D : Nat → List Nat) (l : List zS) : List Nat := l.flatMap (fun x => D x.1)
def lf (D : Nat → List Nat) (Ls : Nat → Nat → Bool) (l : List zS) : List Bool := l.flatMap (fun x => (D x.1).map (lsd Ls x.2.1))
def off (D : Nat → List Nat) (l : List zS) (s : Nat) : Nat := (fl D (l.take s)).length
theorem fl_app {D : Nat → List Nat} {a b : List zS} : fl D (a ++ b) = fl D a ++ fl D b := List.flatMap_append
theorem fl_1 {D : Nat → List Nat} {x : zS} : fl D [x] = D x.1 := by simp [fl]
theorem fl_nil {D : Nat → List Nat} : fl D [] = [] := rfl
theorem lf_app {D : Nat → List Nat} {Ls : Nat → Nat → Bool} {a b : List zS} : lf D Ls (a ++ b) = lf D Ls a ++ lf D Ls b := List.flatMap_append
theorem lf_1 {D : Nat → List Nat} {Ls : Nat → Nat → Bool} {x : zS} : lf D Ls [x] = (D x.1).map (lsd Ls x.2.1) := by simp [lf]
theorem lf_nil {D : Nat → List Nat} {Ls : Nat → Nat → Bool} : lf D Ls [] = [] := rfl
theorem lf_len {D : Nat → List Nat} {Ls : Nat → Nat → Bool} : ∀ l : List zS, (lf D Ls l).length = (fl D l).length
  | [] => rfl
  | x :: l => by
    rw [show x :: l = [x] ++ l from rfl, lf_app, fl_app, List.length_append, List.length_append, lf_len l, lf_1, fl_1, List.length_map]
theorem off_0 {D : Nat → List Nat} {l : List zS} : off D l 0 = 0 := by simp [off, fl]
theorem off_end {D : Nat → List Nat} {l : List zS} : off D l l.length = (fl D l).length := by simp [off]
theorem off_s {D : Nat → List Nat} {l : List zS} {s : Nat} {x : zS} (e : l[s]? = some x) : off D l (s + 1) = off D l s + (D x.1).length := by
  unfold off
  rw [List.take_add_one, e, fl_app]
  simp [fl]
theorem off_mono {D : Nat → List Nat} {l : List zS} {s t : Nat} (h : s ≤ t) : off D l s ≤ off D l t := by
  unfold off
  have h1 : l.take t = l.take s ++ (l.take t).drop s := by
    have h2 := (List.take_append_drop s (l.take t)).symm
    rw [List.take_take, show min s t = s by omega] at h2
    exact h2
  rw [h1, fl_app]
  simp
theorem off_all {D : Nat → List Nat} {l : List zS} {s : Nat} : off D l s ≤ (fl D l).length := by
  unfold off
  have h2 := congrArg (fun m => (fl D m).length) (List.take_append_drop s l)
  simp only [fl_app, List.length_append] at h2
  omega
theorem sp3 {α : Type} {l : List α} {s : Nat} {x : α} (e : l[s]? = some x) : l = l.take s ++ ([x] ++ l.drop (s + 1)) := by
  have h1 := (List.take_append_drop (s + 1) l).symm
  rw [List.take_add_one, e] at h1
  simpa using h1
theorem fl_at {D : Nat → List Nat} {l : List zS} {s j d : Nat} {x : zS} (e : l[s]? = some x) (ej : (D x.1)[j]? = some d) : (fl D l)[off D l s + j]? = some d := by
  obtain ⟨h1, h2⟩ := List.getElem?_eq_some_iff.mp ej
  have h3 := congrArg (fl D) (sp3 e)
  rw [fl_app, fl_app, fl_1] at h3
  rw [h3]
  unfold off
  rw [List.getElem?_append_right (by omega), List.getElem?_append_left (by omega), Nat.add_sub_cancel_left, ej]
theorem lf_at {D : Nat → List Nat} {Ls : Nat → Nat → Bool} {l : List zS} {s j d : Nat} {x : zS} (e : l[s]? = some x) (ej : (D x.1)[j]? = some d) : (lf D Ls l)[off D l s + j]? = some (lsd Ls x.2.1 d) := by
  obtain ⟨h1, h2⟩ := List.getElem?_eq_some_iff.mp ej
  have h3 := congrArg (lf D Ls) (sp3 e)
  rw [lf_app, lf_app, lf_1] at h3
  rw [h3]
  unfold off
  rw [← lf_len (D := D) (Ls := Ls), List.getElem?_append_right (by omega), List.getElem?_append_left (by rw [List.length_map]; omega), Nat.add_sub_cancel_left, List.getElem?_map, ej]
  rfl
/-- the rows of a Version hold V -/
def VR (I : Nat → Nat → Int32) (n : Nat) (D : Nat → List Nat) (Ls : Nat → Nat → Bool) (V : zV) : Prop :=
  (I n 7 = nI V.1.length ∧ I n 8 = V.2.2.2.1 ∧ I n 9 = nI V.2.2.1 ∧ I n 10 = V.2.2.2.2) ∧
  (hl (I (n + 1)) (V.1.map (fun x => nI x.1)) ∧ hl (I (n + 2)) (V.1.map (fun x => li x.2.1)) ∧ hl (I (n + 4)) (V.1.map (fun x => nI x.2.2))) ∧
  (∀ s, s ≤ V.1.length → I (n + 3) s = nI (off D V.1 s)) ∧
  (hl (I (n + 5)) ((fl D V.1).map nI) ∧ hl (I (n + 6)) ((fl D V.1).map (fun d => b2i (V.2.1 d))) ∧ hl (I (n + 7)) ((lf D Ls V.1).map b2i))
theorem VR_fr {I J : Nat → Nat → Int32} {n : Nat} {D : Nat → List Nat} {Ls : Nat → Nat → Bool} {V : zV} (h : VR I n D Ls V) (e : ∀ a, n ≤ a → a ≤ n + 7 → J a = I a) : VR J n D Ls V := by
  unfold VR at h ⊢
  rw [e n (by omega) (by omega), e (n + 1) (by omega) (by omega), e (n + 2) (by omega) (by omega), e (n + 3) (by omega) (by omega), e (n + 4) (by omega) (by omega), e (n + 5) (by omega) (by omega), e (n + 6) (by omega) (by omega), e (n + 7) (by omega) (by omega)]
  exact h
theorem fl_cong {D D' : Nat → List Nat} : ∀ {l : List zS}, (∀ x, x ∈ l → D' x.1 = D x.1) → fl D' l = fl D l
  | [], _ => rfl
  | x :: l, h => by
    rw [show x :: l = [x] ++ l from rfl, fl_app, fl_app, fl_1, fl_1, h x (by simp), fl_cong (fun y hy => h y (by simp [hy]))]
theorem lf_cong {D D' : Nat → List Nat} {Ls Ls' : Nat → Nat → Bool} : ∀ {l : List zS}, (∀ x, x ∈ l → D' x.1 = D x.1 ∧ ∀ k, x.2.1 = some k → Ls' k = Ls k) → lf D' Ls' l = lf D Ls l
  | [], _ => rfl
  | x :: l, h => by
    have h1 : lsd Ls' x.2.1 = lsd Ls x.2.1 := by
      have h2 := (h x (by simp)).2
      cases e : x.2.1 with
      | none => rfl
      | some k => 
        funext d
        show Ls' k d = Ls k d
        rw [h2 k e]
    rw [show x :: l = [x] ++ l from rfl, lf_app, lf_app, lf_1, lf_1, (h x (by simp)).1, h1, lf_cong (fun y hy => h y (by simp [hy]))]
theorem VR_gh {I : Nat → Nat → Int32} {n : Nat} {D D' : Nat → List Nat} {Ls Ls' : Nat → Nat → Bool} {V : zV} (h : VR I n D Ls V) (e : ∀ x, x ∈ V.1 → D' x.1 = D x.1 ∧ ∀ k, x.2.1 = some k → Ls' k = Ls k) : VR I n D' Ls' V := by
  unfold VR at h ⊢
  have h1 : ∀ s, off D' V.1 s = off D V.1 s := fun s => by
    unfold off
    rw [fl_cong (fun x hx => (e x (List.mem_of_mem_take hx)).1)]
  rw [fl_cong (fun x hx => (e x hx).1), lf_cong e]
  refine ⟨h.1, h.2.1, fun s hs => ?_, h.2.2.2⟩
  rw [h1 s]
  exact h.2.2.1 s hs
/-- bounds of a version -/
def VB (D : Nat → List Nat) (V : zV) : Prop := V.1.length ≤ 4096 ∧ (fl D V.1).length ≤ 4096 ∧ (∀ x, x ∈ V.1 → x.2.2 < 1000000)
theorem vs_at {α : Type} {l : List α} {s : Nat} (h : s < l.length) : ∃ x, l[s]? = some x := ⟨l[s], List.getElem?_eq_getElem h⟩
theorem vs_lt {α : Type} {l : List α} {s : Nat} {x : α} (h : l[s]? = some x) : s < l.length := (List.getElem?_eq_some_iff.mp h).1
theorem vs_mem {α : Type} {l : List α} {s : Nat} {x : α} (h : l[s]? = some x) : x ∈ l := List.mem_of_getElem? h
theorem z_docs {X : gX} {n : Nat} {D : Nat → List Nat} {Ls : Nat → Nat → Bool} {V : zV} (h : VR X.I n D Ls V) (hb : VB D V) : f_Ve_docs X n = some (gR.i (nI (fl D V.1).length), X) := by
  rw [s_Ve_docs h.1.1 (by have := hb.1; omega), h.2.2.1 _ (Nat.le_refl _), off_end]
theorem z_liveIn {X : gX} {n s : Nat} {D : Nat → List Nat} {Ls : Nat → Nat → Bool} {V : zV} {x : zS} (h : VR X.I n D Ls V) (hb : VB D V) (e : V.1[s]? = some x) : f_Ve_liveIn X n (nI s) = some (gR.i (nI ((D x.1).countP V.2.1)), X) := by
  have h1 := vs_lt e
  have h2 := off_s (D := D) e
  have h3 := off_all (D := D) (l := V.1) (s := s + 1)
  have hb1 := hb.1
  have hb2 := hb.2.1
  rw [s_Ve_liveIn (by omega) (h.2.2.1 s (by omega)) (h.2.2.1 (s + 1) (by omega)) (by omega) (by omega)]
  have h4 : off D V.1 (s + 1) - off D V.1 s = (D x.1).length := by omega
  rw [h4, cnt_countP (l := D x.1) (p := V.2.1) (fun i d ei => by
    have h5 := hl_m h.2.2.2.2.1 (fl_at e ei)
    show decide _ = _
    rw [h5]
    cases V.2.1 d <;> decide)]
theorem VR_bool {I : Nat → Nat → Int32} {n : Nat} {D : Nat → List Nat} {Ls : Nat → Nat → Bool} {V : zV} (h : VR I n D Ls V) : ∀ i, i < (fl D V.1).length → (I (n + 6) i = 0 ∨ I (n + 6) i = 1) ∧ (I (n + 7) i = 0 ∨ I (n + 7) i = 1) := by
  intro i hi
  obtain ⟨d, hd⟩ := vs_at hi
  obtain ⟨b, hb⟩ := vs_at (l := lf D Ls V.1) (s := i) (by rw [lf_len]; exact hi)
  rw [hl_m h.2.2.2.2.1 hd, hl_m h.2.2.2.2.2 hb]
  exact ⟨b2i_01, b2i_01⟩
