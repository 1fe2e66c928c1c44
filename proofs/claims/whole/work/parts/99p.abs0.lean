/-! THE PURE SIDE, the abstract ledger: lists held by rows -/
def b2i (b : Bool) : Int32 := if b then 1 else 0
theorem b2i_t : b2i true = 1 := rfl
theorem b2i_f : b2i false = 0 := rfl
theorem b2i_01 {b : Bool} : b2i b = 0 ∨ b2i b = 1 := by cases b <;> decide
theorem b2i_nar {b : Bool} : vp_nar .boolean (b2i b) = b2i b := b_nar b2i_01
theorem b2i_0 {b : Bool} : (b2i b = 0) = (b = false) := by cases b <;> simp [b2i]
theorem b2i_in {a b : Bool} (h : b2i a = b2i b) : a = b := by cases a <;> cases b <;> simp_all [b2i]
theorem b2i_eq {a b : Bool} : (b2i a = b2i b) = (a = b) := by cases a <;> cases b <;> simp [b2i]
def li : Option Nat → Int32
  | none => -1
  | some k => nI k
/-- the row begins with the list -/
def hl {α : Type} (r : Nat → α) (l : List α) : Prop := ∀ i, (h : i < l.length) → r i = l[i]
theorem hl_nil {α : Type} {r : Nat → α} : hl r [] := fun i h => absurd h (by simp)
theorem hl_at {α : Type} {r : Nat → α} {l : List α} {i : Nat} {x : α} (h : hl r l) (e : l[i]? = some x) : r i = x := by
  obtain ⟨h1, h2⟩ := List.getElem?_eq_some_iff.mp e
  rw [h i h1, h2]
theorem hl_m {α β : Type} {r : Nat → β} {g : α → β} {l : List α} {i : Nat} {x : α} (h : hl r (l.map g)) (e : l[i]? = some x) : r i = g x := hl_at h (by rw [List.getElem?_map, e]; rfl)
theorem hl_mk {α β : Type} {r : Nat → β} {g : α → β} {l : List α} (h : ∀ i x, l[i]? = some x → r i = g x) : hl r (l.map g) := by
  intro i hi
  rw [List.getElem_map]
  exact h i _ (List.getElem?_eq_getElem (by simpa using hi))
theorem hl_of {α : Type} {r : Nat → α} {l : List α} (h : ∀ i x, l[i]? = some x → r i = x) : hl r l := fun i hi => h i _ (List.getElem?_eq_getElem hi)
theorem hl_cong {α : Type} {r r' : Nat → α} {l : List α} (h : hl r l) (e : ∀ i, i < l.length → r' i = r i) : hl r' l := fun i hi => (e i hi).trans (h i hi)
theorem hl_snoc {α : Type} {r r' : Nat → α} {l : List α} {x : α} (h : hl r l) (e : ∀ i, i < l.length → r' i = r i) (ex : r' l.length = x) : hl r' (l ++ [x]) := by
  intro i hi
  by_cases c : i < l.length
  · rw [List.getElem_append_left c, e i c, h i c]
  · have hi' : i = l.length := by simp at hi; omega
    subst hi'
    rw [ex]
    simp
theorem hl_pre {α : Type} {r : Nat → α} {l m : List α} (h : hl r (l ++ m)) : hl r l := fun i hi => by
  rw [h i (by simp; omega), List.getElem_append_left hi]
theorem hl_take {α : Type} {r : Nat → α} {l : List α} {k : Nat} (h : hl r l) : hl r (l.take k) := fun i hi => by
  have h1 : i < l.length := by simp at hi; omega
  rw [h i h1, List.getElem_take]
theorem upd_at {r : Nat → Int32} {j i : Nat} {x : Int32} : upd r j x i = if i = j then x else r i := rfl
theorem va_up_at {α : Type} {r : Nat → α} {j i : Nat} {x : α} : va_up r j x i = if i = j then x else r i := rfl
theorem gX.g_at {X : gX} {n j a i : Nat} {v : Option Nat} : (X.g n j v).G a i = if a = n then (if i = j then v else X.G n i) else X.G a i := by
  by_cases h : a = n
  · rw [if_pos h, h, gX.g_self]
    rfl
  · rw [if_neg h, gX.g_ne h]
theorem g_same {X : gX} {a j i : Nat} {v : Option Nat} (h : i = j) : (X.g a j v).G a i = v := by rw [gX.g_at, if_pos rfl, if_pos h]
theorem g_oth {X : gX} {a j c i : Nat} {v : Option Nat} (h : c ≠ a ∨ i ≠ j) : (X.g a j v).G c i = X.G c i := by
  rw [gX.g_at]
  by_cases h1 : c = a
  · rw [if_pos h1, if_neg (by rcases h with h | h; exact absurd h1 h; exact h), h1]
  · rw [if_neg h1]
theorem w_G {X : gX} {n j : Nat} {v : Int32} : (X.w n j v).G = X.G := rfl
theorem w_L {X : gX} {n j : Nat} {v : Int32} : (X.w n j v).L = X.L := rfl
theorem w_N {X : gX} {n j : Nat} {v : Int32} : (X.w n j v).N = X.N := rfl
theorem w_cc {X : gX} {n j : Nat} {v : Int32} : (X.w n j v).cc = X.cc := rfl
theorem w_ss {X : gX} {n j : Nat} {v : Int32} : (X.w n j v).ss = X.ss := rfl
theorem g_I {X : gX} {n j : Nat} {v : Option Nat} : (X.g n j v).I = X.I := rfl
theorem g_L {X : gX} {n j : Nat} {v : Option Nat} : (X.g n j v).L = X.L := rfl
theorem g_N {X : gX} {n j : Nat} {v : Option Nat} : (X.g n j v).N = X.N := rfl
theorem g_cc {X : gX} {n j : Nat} {v : Option Nat} : (X.g n j v).cc = X.cc := rfl
theorem g_ss {X : gX} {n j : Nat} {v : Option Nat} : (X.g n j v).ss = X.ss := rfl
/-- a filtered list, one further -/
theorem flt_t {α : Type} {l : List α} {p : α → Bool} {i : Nat} {x : α} (e : l[i]? = some x) (hp : p x = true) : (l.take (i + 1)).filter p = (l.take i).filter p ++ [x] := by
  rw [List.take_add_one, e, List.filter_append]
  simp [hp]
theorem flt_f {α : Type} {l : List α} {p : α → Bool} {i : Nat} {x : α} (e : l[i]? = some x) (hp : p x = false) : (l.take (i + 1)).filter p = (l.take i).filter p := by
  rw [List.take_add_one, e, List.filter_append]
  simp [hp]
theorem flt_le {α : Type} {l : List α} {p : α → Bool} {i : Nat} : ((l.take i).filter p).length ≤ i := Nat.le_trans (List.length_filter_le _ _) (by simp; omega)
theorem cnt_countP {α : Type} {p : α → Bool} {q : Nat → Bool} {s : Nat} {l : List α} (h : ∀ i x, l[i]? = some x → q (s + i) = p x) : cnt q s l.length = l.countP p := by
  have key : ∀ n, n ≤ l.length → cnt q s n = (l.take n).countP p := by
    intro n
    induction n with
    | zero => intro _; rfl
    | succ n ih =>
      intro hn
      have e : l[n]? = some (l[n]'(by omega)) := List.getElem?_eq_getElem (by omega)
      have h1 := h n _ e
      rw [List.take_add_one, e, List.countP_append, ← ih (by omega)]
      show cnt q s n + (if q (s + n) = true then 1 else 0) = _
      rw [h1]
      simp [List.countP_cons]
  have h2 := key l.length (Nat.le_refl _)
  rw [List.take_length] at h2
  exact h2
