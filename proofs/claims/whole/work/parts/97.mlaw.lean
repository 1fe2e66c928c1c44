/-! TOWARDS THE LAW'S LOOP over maps: the map at the loop's entry; calls of the law's wrappers -/
/-- the first N places of a list as a map -/
def gm_L (N : Nat) (ws : va_W) : gm_M := fun n => if n < N then ws[n]? else none
theorem gm_L_at {N k : Nat} {ws : va_W} {x : Option (Nat × va_E)} (hk : k < N) (f : ws[k]? = x) : gm_L N ws k = x := (if_pos hk).trans f
theorem gm_L_S {A : Nat → Prop} {N : Nat} {ws : va_W} (hD : va_D A ws) : gm_S (gm_L N ws) ws := by
  have key : ∀ (n : Nat) (x : Nat × va_E), gm_L N ws n = some x → ws[n]? = some x := fun n x h => by
    by_cases e : n < N
    · exact (if_pos e).symm.trans h
    · exact absurd ((if_neg e).symm.trans h) (by simp)
  exact ⟨fun n x h => ⟨n, key n x h⟩, fun n n' x x' h h' e => hD.1 n n' x x' (key n x h) (key n' x' h') e⟩
theorem gz_L {D : va_G} {A : Nat → Prop} {H0 H : Heap} {locs : List Loc} {ws : va_W} (N : Nat) (hP : va_P D classes ws H) (hD : va_D A ws) (hS : va_S A H0 H locs) : gz D A H0 (gm_L N ws) H locs := ⟨ws, gm_L_S hD, hP, hD, hS⟩
section GZH
variable {p : Program} {l : Launch} {e : Env} {R : Room} {s : State} {m : MethodId} {args : Array Value} {below : List Frame} {meth : Method} {c : Code} {H : Heap} {locs : List Loc} {cells slots : Nat} {Q : State → Prop} {cc : ByteArray}
variable {D : va_G} {tys : List (ClassId × FieldType)} {h : gm_M} {A : Nat → Prop} {pc : Nat} {ls : Array Slot} {rest st0 : List Value}
/-- the call of a method with handlers, over maps -/
theorem gz_callH {y : MethodName} {bytes : ByteArray} {maxL nL mc ms z : Nat} {ret : Option FieldType} {hs : List (Nat × Nat × Nat × Nat)} {rm : Room} {post : Option Value ⊕ String → gm_M → Prop} {av : List Value} {ig : Instr} (Z : gz D A s.heap h H locs)
    (hM : ∀ ws : va_W, gm_S h ws → gx_Met l y [Cond.codeWith y bytes maxL ret hs] rm (gx_P z H.size D classes tys ws av) (gx_Q D classes tys (va_A ws H.size) (gm_p post)) mc ms (va_A ws H.size)) (hI : gx_inv p l e R s m args below meth c H locs cells slots y av.toArray (F0 m pc ls st0) rest) (cw : gx_WH R s y bytes maxL ret hs rm mc ms) (hb : c.code = cc) (hml : c.maxLocals = nL)
    (hz : z ≤ s.heap.size) (hK : va_K D classes tys s) (hY : gx_Y z D s) (hAz : ∀ q : Nat, A q → z ≤ q) (hA : ∀ q : Nat, s.heap.size ≤ q → A q) (hsize : ls.size = nL) (hW : 2 * (F0 m pc ls st0).monitorRoom + (rest.map fun v => v.category).sum ≤ 8) (hdg : decode cc pc = .ok (ig, 3)) (hf : cells + mc ≤ R.cells ∧ slots + ms ≤ R.slots)
    (kr : ∀ (v : Option Value) (h1 : gm_M) (H1 : Heap) (L : List Loc), post (Sum.inl v) h1 → gz D A s.heap h1 H1 L → W p l e R s m args below meth c H1 L (cells + mc) (slots + ms) Q (F0 m (pc + 3) ls (v.toList ++ rest)))
    (kt : ∀ (x : Nat) (E : String) (ce : Cell) (h1 : gm_M) (H1 : Heap) (L : List Loc), post (Sum.inr E) h1 → (H1[x]? = some ce ∧ ce.vm = .none ∧ s.vm.findClass E = some ce.cls) → gz D A s.heap h1 H1 L → gx_T p l e R s m args below meth c H1 L (cells + mc) (slots + ms) Q (F0 m pc ls rest) x) :
    W p l e R s m args below meth c H locs cells slots Q (F0 m pc ls st0) := by
  obtain ⟨ws, a1, a2, a3, a4⟩ := Z
  refine gx_callH (hM ws a1) hI cw hb hml gx_blind (gx_pre hz a2 hK a3 hY a4 hAz av) rfl hsize hW hdg hf (fun v st t L h0 hW9 hQ hL => ?_) (fun x st t L h0 hW9 hQ hL => ?_)
  · obtain ⟨ws1, ⟨h1, b1, hp⟩, b2, -, b3, b4⟩ := gx_back h0 hW9 hQ hL a3 a4 hA
    exact kr v h1 _ _ hp ⟨ws1, b1, b2, b3, b4⟩
  · obtain ⟨E, ws1, ce, ⟨h1, b1, hp⟩, hce, b2, -, b3, b4⟩ := gx_backT h0 hW9 hQ hL a3 a4 hA
    exact kt x E ce h1 _ _ hp hce ⟨ws1, b1, b2, b3, b4⟩
/-- A CUT: branches that join at pcJ go on by one proof -/
theorem gz_cut {pcJ cells1 slots1 : Nat} (I : gm_M → Array Slot → Prop) (K : ∀ (h1 : gm_M) (H1 : Heap) (locs1 : List Loc) (ls1 : Array Slot), I h1 ls1 → gz D A s.heap h1 H1 locs1 → W p l e R s m args below meth c H1 locs1 cells1 slots1 Q (F0 m pcJ ls1 []))
    (B : (∀ (h1 : gm_M) (H1 : Heap) (locs1 : List Loc) (ls1 : Array Slot), I h1 ls1 → gz D A s.heap h1 H1 locs1 → W p l e R s m args below meth c H1 locs1 cells1 slots1 Q (F0 m pcJ ls1 [])) → W p l e R s m args below meth c H locs cells slots Q (F0 m pc ls st0)) : W p l e R s m args below meth c H locs cells slots Q (F0 m pc ls st0) := B K
end GZH
