/-! THE EMPTY ARRAY that every new ArrayList begins with: its length; rows by hand -/
theorem gx_emp {args : Array Value} {s : State} {D : va_G} {z : Nat} (hY : gx_Y z D s) : ∃ cell : Cell, s.heap[gx_av D]? = some cell ∧ s.isArrayOf cell (.object "java/lang/Object") ∧ cell.slots.size = 0 := by
  have hv := hY.st args
  have h1 : (Cond.arrayOf gx_sT (.object "java/lang/Object")).before args s = true := hY.hts args _ (List.mem_append_right _ (by unfold gx_ext gx_sT; simp))
  have h2 : (Cond.eq (.length gx_sT) (.int 0)).before args s = true := hY.hts args _ (List.mem_append_right _ (by unfold gx_ext gx_sT; simp))
  have h3 : ∃ cell : Cell, s.arrayAt? (gx_av D) = some cell ∧ cell.slots.size = 0 := by
    simp only [Cond.before, Cond.holds, Cond.value, Term.eval] at h2
    have hv2 := hv
    simp only [gx_sT, Term.eval] at hv2
    simp only [gx_sT, Term.eval] at h2
    rw [hv2] at h2
    simp only [Option.bind_eq_bind, Option.bind_some] at h2
    cases e : s.arrayAt? (gx_av D) with
    | none => rw [e] at h2; simp at h2
    | some cell =>
      rw [e] at h2
      refine ⟨cell, rfl, ?_⟩
      by_cases hlt : cell.slots.size < 2 ^ 31
      · simp [hlt] at h2
        have h9 : nI cell.slots.size = nI 0 := h2
        exact (nI_eq hlt (by decide)).mp h9
      · simp [hlt] at h2
  obtain ⟨cell, e1, e2⟩ := h3
  obtain ⟨hc, -⟩ := State.arrayAt?_spec e1
  exact ⟨cell, hc, (Cond.arrayOf_spec h1 hv hc).1, e2⟩
section GZE
variable {p : Program} {l : Launch} {e : Env} {R : Room} {s : State} {m : MethodId} {args : Array Value} {below : List Frame} {meth : Method} {c : Code} {H : Heap} {locs : List Loc} {cells slots : Nat} {Q : State → Prop} {cc : ByteArray}
variable {D : va_G} {tys : List (ClassId × FieldType)} {h : gm_M} {A : Nat → Prop} {pc : Nat} {ls : Array Slot} {rest : List Value} {z : Nat}
theorem gz_alenE (hx : p.tables.exec = Jvm.exec) (hb : c.code = cc) (hY : gx_Y z D s) (hz : z ≤ s.heap.size) (hAz : ∀ q : Nat, A q → z ≤ q) (Z : gz D A s.heap h H locs) (hdg : decode cc pc = .ok (.arraylength, 1))
    (kk : W p l e R s m args below meth c H locs cells slots Q (F0 m (pc + 1) ls (Value.int 0 :: rest))) : W p l e R s m args below meth c H locs cells slots Q (F0 m pc ls (Value.ref (gx_av D) :: rest)) := by
  obtain ⟨ws, h1, h2, h3, h4⟩ := Z
  obtain ⟨cell, e1, e2, e3⟩ := gx_emp (args := args) hY
  have hlt : gx_av D < s.heap.size := Nat.lt_of_lt_of_le hY.1 hz
  have hnA : ¬ A (gx_av D) := fun h9 => Nat.not_le_of_gt hY.1 (hAz _ h9)
  exact W.alen (n := 0) hx hb (by rw [h4.2.1 _ hlt hnA]; exact e1) e2 (by rw [e3]; rfl) rfl rfl hdg kk
theorem gz_getsE (hx : p.tables.exec = Jvm.exec) (hb : c.code = cc) {own : String} {index : Nat} (hts : ∀ w ∈ gx_all, w.before args s = true) (w1 : Cond.laysStatic "java/util/ArrayList" "DEFAULTCAPACITY_EMPTY_ELEMENTDATA" "[Ljava/lang/Object;" ∈ gx_all) (w2 : Cond.initialized "java/util/ArrayList" ∈ gx_all) (w4 : Cond.fieldLink own index "java/util/ArrayList" "DEFAULTCAPACITY_EMPTY_ELEMENTDATA" "[Ljava/lang/Object;" ∈ gx_all) (hown : s.vm.findClass own = some m.cls) (hN : gx_NS A s) (hY : gx_Y z D s) (Z : gz D A s.heap h H locs) (hd : decode cc pc = .ok (.getstatic index, 3))
    (kk : W p l e R s m args below meth c H locs cells slots Q (F0 m (pc + 3) ls (Value.ref (gx_av D) :: rest))) : W p l e R s m args below meth c H locs cells slots Q (F0 m pc ls rest) := by
  obtain ⟨ws, h1, h2, h3, h4⟩ := Z
  exact gx_getsE (D := D) hx hb hts w1 w2 w4 hown hN hY h4 hd kk
end GZE
