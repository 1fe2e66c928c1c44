/-! OWN ROWS: arrays and objects made into the one world list, arrays read and written by numbers. -/
section GXN
variable {p : Program} {l : Launch} {e : Env} {R : Room} {s : State} {m : MethodId} {args : Array Value} {below : List Frame} {meth : Method} {c : Code} {H : Heap} {locs : List Loc} {cells slots : Nat} {Q : State → Prop} {cc : ByteArray}
variable {D : va_G} {cl : List vw_C} {tys : List (ClassId × FieldType)} {ws : va_W} {A : Nat → Prop} {pc : Nat} {ls : Array Slot} {rest : List Value} {H0 : Heap} {a : Nat}
theorem gx_ra {U : State} {cA cB : ClassId} {ty : FieldType} (h1 : va_RA U cA ty) (h2 : va_RA U cB ty) : cA = cB := by
  cases ty with
  | object C =>
    obtain ⟨_, _, _, _, _, e1⟩ := h1
    obtain ⟨_, _, _, _, _, e2⟩ := h2
    exact Option.some.inj (e1.symm.trans e2)
  | _ => exact Option.some.inj (Eq.trans (Eq.symm h1) h2)
theorem gx_newa (hx : p.tables.exec = Jvm.exec) (hb : c.code = cc) {atype : ArrayType} {ty : FieldType} (harr : (Cond.arrayClass (newarray.typeOf atype)).before args s = true) (hty : newarray.typeOf atype = ty) (hK : va_K D cl tys s) (hP : va_P D cl ws H) (hD : va_D A ws) (hS : va_S A H0 H locs) (hA : ∀ q, H0.size ≤ q → A q)
    (ti : Nat) {cI : ClassId} (ht : tys[ti]? = some (cI, ty)) {n : Int32} {N' : Nat} {a0 : vp_A} (ha : ∀ cA : ClassId, vp_cell cA a0 = arrV cA N' (fun _ => defaultValue ty)) (hn : ¬ n < 0) (hN : n.toNatClampNeg = N') (hbytes : N' * componentBytes ty ≤ 536870912) (hcells : cells + 1 ≤ R.cells) (hslots : slots + N' ≤ R.slots) (hdg : decode cc pc = .ok (.newarray atype, 2))
    (kk : ∀ (q : Nat) (H1 : Heap), va_P D cl (ws ++ [(q, .inl (cI, a0))]) H1 → va_D A (ws ++ [(q, .inl (cI, a0))]) → va_S A H0 H1 locs → W p l e R s m args below meth c H1 locs (cells + 1) (slots + N') Q (F0 m (pc + 2) ls (.ref q :: rest))) : W p l e R s m args below meth c H locs cells slots Q (F0 m pc ls (.int n :: rest)) :=
  va_newa hx hb harr hty hK hP hD hS hA ha hn hN hbytes hcells hslots hdg (fun q cA H1 hK1 hP1 hD1 hS1 => by
    have e9 : cA = cI := gx_ra (hK1.2 tys.length (cA, ty) (by simp)).2 (hK.2 ti _ ht).2
    subst e9
    exact kk q H1 hP1 hD1 hS1)
theorem gx_newq (hx : p.tables.exec = Jvm.exec) (hb : c.code = cc) {own C : String} {index : Nat} (hown : s.vm.findClass own = some m.cls) (hclink : (Cond.classLink own index C).before args s = true) (hover : (Cond.arrayOver (.object C)).before args s = true) (hK : va_K D cl tys s) (hP : va_P D cl ws H) (hD : va_D A ws) (hS : va_S A H0 H locs) (hA : ∀ q, H0.size ≤ q → A q)
    (ti : Nat) {cI : ClassId} (ht : tys[ti]? = some (cI, .object C)) {n : Int32} {N' : Nat} (hn : ¬ n < 0) (hN : n.toNatClampNeg = N') (hbytes : N' * 4 ≤ 536870912) (hcells : cells + 1 ≤ R.cells) (hslots : slots + N' ≤ R.slots) (hdg : decode cc pc = .ok (.anewarray index, 3))
    (kk : ∀ (q : Nat) (H1 : Heap), va_P D cl (ws ++ [(q, .inl (cI, N', .inr (.inr (.inr (.inr (fun _ => none))))))]) H1 → va_D A (ws ++ [(q, .inl (cI, N', .inr (.inr (.inr (.inr (fun _ => none))))))]) → va_S A H0 H1 locs → W p l e R s m args below meth c H1 locs (cells + 1) (slots + N') Q (F0 m (pc + 3) ls (.ref q :: rest))) : W p l e R s m args below meth c H locs cells slots Q (F0 m pc ls (.int n :: rest)) :=
  va_newq hx hb hown hclink (va_AO.of hover) hK hP hD hS hA hn hN hbytes hcells hslots hdg (fun q cA H1 hK1 hP1 hD1 hS1 => by
    have e9 : cA = cI := gx_ra (hK1.2 tys.length (cA, .object C) (by simp)).2 (hK.2 ti _ ht).2
    subst e9
    exact kk q H1 hP1 hD1 hS1)
theorem gx_aald (hx : p.tables.exec = Jvm.exec) (hb : c.code = cc) (hK : va_K D cl tys s) (hP : va_P D cl ws H) (q0 t0 : Nat) {cA : ClassId} {C : String} {n j b : Nat} {f : Nat → Option Nat} (ha : ws[q0]? = some (a, .inl (cA, n, .inr (.inr (.inr (.inr f)))))) (ht : tys[t0]? = some (cA, .object C)) {i : Int32} (hin : vp_in i n) (hi : i.toNatClampNeg = j) (hf : f j = some b) (d : decode cc pc = .ok (.aaload, 1))
    (kk : W p l e R s m args below meth c H locs cells slots Q (F0 m (pc + 1) ls (.ref b :: rest))) : W p l e R s m args below meth c H locs cells slots Q (F0 m pc ls (.int i :: .ref a :: rest)) :=
  va_aldq hx hb hK hP q0 t0 ha ht hin d (by rw [hi, hf]; exact kk)
theorem gx_aaldN (hx : p.tables.exec = Jvm.exec) (hb : c.code = cc) (hK : va_K D cl tys s) (hP : va_P D cl ws H) (q0 t0 : Nat) {cA : ClassId} {C : String} {n j : Nat} {f : Nat → Option Nat} (ha : ws[q0]? = some (a, .inl (cA, n, .inr (.inr (.inr (.inr f)))))) (ht : tys[t0]? = some (cA, .object C)) {i : Int32} (hin : vp_in i n) (hi : i.toNatClampNeg = j) (hf : f j = none) (d : decode cc pc = .ok (.aaload, 1))
    (kk : W p l e R s m args below meth c H locs cells slots Q (F0 m (pc + 1) ls (.null :: rest))) : W p l e R s m args below meth c H locs cells slots Q (F0 m pc ls (.int i :: .ref a :: rest)) :=
  va_aldq hx hb hK hP q0 t0 ha ht hin d (by rw [hi, hf]; exact kk)
theorem gx_aast (hx : p.tables.exec = Jvm.exec) (hb : c.code = cc) (hK : va_K D cl tys s) (hP : va_P D cl ws H) (hD : va_D A ws) (hS : va_S A H0 H locs) (q0 t0 qk ci : Nat) {cA : ClassId} {r : vw_C} {n v j : Nat} {vs : List Value} {f : Nat → Option Nat} (ha : ws[q0]? = some (a, .inl (cA, n, .inr (.inr (.inr (.inr f)))))) (ht : tys[t0]? = some (cA, .object r.1)) (hv : ws[qk]? = some (v, .inr (ci, vs))) (hc : cl[ci]? = some r) {i : Int32} (hin : vp_in i n) (hi : i.toNatClampNeg = j) (d : decode cc pc = .ok (.aastore, 1))
    (kk : ∀ (H1 : Heap) (locs1 : List Loc), va_P D cl (ws.set q0 (a, .inl (cA, n, .inr (.inr (.inr (.inr (va_up f j (some v)))))))) H1 → va_D A (ws.set q0 (a, .inl (cA, n, .inr (.inr (.inr (.inr (va_up f j (some v)))))))) → va_S A H0 H1 locs1 → W p l e R s m args below meth c H1 locs1 cells slots Q (F0 m (pc + 1) ls rest)) : W p l e R s m args below meth c H locs cells slots Q (F0 m pc ls (.ref v :: .int i :: .ref a :: rest)) := by
  subst hi
  exact va_astq hx hb hK hP hD hS q0 t0 qk ci ha ht hv hc hin d kk
theorem gx_iald (hx : p.tables.exec = Jvm.exec) (hb : c.code = cc) (hK : va_K D cl tys s) (hP : va_P D cl ws H) (q0 t0 : Nat) {cA : ClassId} {n j : Nat} {f : Nat → Int32} {x : Int32} (ha : ws[q0]? = some (a, .inl (cA, n, .inl f))) (ht : tys[t0]? = some (cA, .int)) {i : Int32} (hin : vp_in i n) (hi : i.toNatClampNeg = j) (hf : f j = x) (d : decode cc pc = .ok (.iaload, 1))
    (kk : W p l e R s m args below meth c H locs cells slots Q (F0 m (pc + 1) ls (.int x :: rest))) : W p l e R s m args below meth c H locs cells slots Q (F0 m pc ls (.int i :: .ref a :: rest)) :=
  va_iald hx hb hK hP q0 t0 ha ht hin d (by rw [hi, hf]; exact kk)
theorem gx_zald (hx : p.tables.exec = Jvm.exec) (hb : c.code = cc) (hK : va_K D cl tys s) (hP : va_P D cl ws H) (q0 t0 : Nat) {cA : ClassId} {n j : Nat} {f : Nat → Int32} {x : Int32} (ha : ws[q0]? = some (a, .inl (cA, n, .inl f))) (ht : tys[t0]? = some (cA, .boolean)) {i : Int32} (hin : vp_in i n) (hi : i.toNatClampNeg = j) (hf : f j = x) (d : decode cc pc = .ok (.baload, 1))
    (kk : W p l e R s m args below meth c H locs cells slots Q (F0 m (pc + 1) ls (.int x :: rest))) : W p l e R s m args below meth c H locs cells slots Q (F0 m pc ls (.int i :: .ref a :: rest)) :=
  va_zald hx hb hK hP q0 t0 ha ht hin d (by rw [hi, hf]; exact kk)
/-- getstatic of a reference that is only known to be one -/
theorem gx_gets (hx : p.tables.exec = Jvm.exec) (hb : c.code = cc) {C n d own : String} {index : Nat} {z : Nat} (hts : ∀ w ∈ gx_all, w.before args s = true) (w1 : Cond.laysStatic C n d ∈ gx_all) (w2 : Cond.initialized C ∈ gx_all) (w3 : Cond.isRef (.static C n d) ∈ gx_all) (w4 : Cond.fieldLink own index C n d ∈ gx_all) (hown : s.vm.findClass own = some m.cls) (hN : gx_NS A s) (hS : va_S A s.heap H locs) (hd : decode cc pc = .ok (.getstatic index, 3))
    (kk : ∀ v : Value, (v = .null ∨ ∃ t : Nat, v = .ref t) → W p l e R s m args below meth c H locs cells slots Q (F0 m (pc + 3) ls (v :: rest))) : W p l e R s m args below meth c H locs cells slots Q (F0 m pc ls rest) := by
  have hq : va_Zq C n d (fun _ => False) s s.heap := va_Zqof (hts _ w1) (hts _ w2) (hts _ w3) (fun _ _ h => h)
  have key : ∀ v : Value, va_Z C n d v (fun _ => False) s s.heap → va_Z C n d v A s s.heap := by
    intro v h
    obtain ⟨cf, kf, fi, f, a, cell, h1, h2, h3, h4, h5, h6, h7, -⟩ := h
    exact ⟨cf, kf, fi, f, a, cell, h1, h2, h3, h4, h5, h6, h7, fun ha => by
      have := hN a cell ha h5
      rw [h6] at this; cases this⟩
  rcases hq with h | ⟨t, h⟩
  · exact va_gets hx hb (key _ h) hS hown (hts _ w4) (fun _ h9 => h9) hd (kk _ (Or.inl rfl))
  · exact va_gets hx hb (key _ h) hS hown (hts _ w4) (fun _ h9 => h9) hd (kk _ (Or.inr ⟨t, rfl⟩))
/-- getstatic of the empty array that every new ArrayList begins with -/
theorem gx_getsE (hx : p.tables.exec = Jvm.exec) (hb : c.code = cc) {own : String} {index z : Nat} (hts : ∀ w ∈ gx_all, w.before args s = true) (w1 : Cond.laysStatic "java/util/ArrayList" "DEFAULTCAPACITY_EMPTY_ELEMENTDATA" "[Ljava/lang/Object;" ∈ gx_all) (w2 : Cond.initialized "java/util/ArrayList" ∈ gx_all) (w4 : Cond.fieldLink own index "java/util/ArrayList" "DEFAULTCAPACITY_EMPTY_ELEMENTDATA" "[Ljava/lang/Object;" ∈ gx_all) (hown : s.vm.findClass own = some m.cls) (hN : gx_NS A s) (hY : gx_Y z D s) (hS : va_S A s.heap H locs) (hd : decode cc pc = .ok (.getstatic index, 3))
    (kk : W p l e R s m args below meth c H locs cells slots Q (F0 m (pc + 3) ls (Value.ref (gx_av D) :: rest))) : W p l e R s m args below meth c H locs cells slots Q (F0 m pc ls rest) := by
  have h9 : va_Z "java/util/ArrayList" "DEFAULTCAPACITY_EMPTY_ELEMENTDATA" "[Ljava/lang/Object;" (.ref (gx_av D)) (fun _ => False) s s.heap := va_Zref (hts _ w1) (hts _ w2) (hY.st args) (fun _ _ h => h)
  obtain ⟨cf, kf, fi, f, a, cell, h1, h2, h3, h4, h5, h6, h7, -⟩ := h9
  exact va_gets hx hb ⟨cf, kf, fi, f, a, cell, h1, h2, h3, h4, h5, h6, h7, fun ha => by
    have := hN a cell ha h5
    rw [h6] at this; cases this⟩ hS hown (hts _ w4) (fun _ h9 => h9) hd kk
end GXN
theorem gx_inl {i : Int32} {n : Nat} (h : ¬ (i < 0 ∨ n ≤ i.toNatClampNeg)) : vp_in i n := h
/-- ws1: j places more than ws, all elder places but those of ks as they were -/
def gx_g (ws ws1 : va_W) (j : Nat) (ks : List Nat) : Prop := ws1.length = ws.length + j ∧ ∀ k : Nat, k < ws.length → k ∉ ks → ws1[k]? = ws[k]?
theorem gx_g.rf {ws : va_W} {ks : List Nat} : gx_g ws ws 0 ks := ⟨rfl, fun _ _ _ => rfl⟩
theorem gx_g.put {ws ws1 : va_W} {j : Nat} {ks : List Nat} {k : Nat} {x : Nat × va_E} (h : gx_g ws ws1 j ks) (hk : k ∈ ks ∨ ws.length ≤ k) : gx_g ws (ws1.set k x) j ks :=
  ⟨by rw [List.length_set]; exact h.1, fun i h1 h2 => by
    have hne : k ≠ i := fun e => by
      subst e
      rcases hk with hk | hk
      · exact h2 hk
      · omega
    rw [List.getElem?_set_ne hne]; exact h.2 i h1 h2⟩
theorem gx_g.push {ws ws1 : va_W} {j : Nat} {ks : List Nat} {x : Nat × va_E} (h : gx_g ws ws1 j ks) : gx_g ws (ws1 ++ [x]) (j + 1) ks :=
  ⟨by rw [List.length_append, h.1]; rfl, fun i h1 h2 => by rw [List.getElem?_append_left (by rw [h.1]; omega)]; exact h.2 i h1 h2⟩
theorem gx_g.call {ws ws1 ws2 : va_W} {j i : Nat} {ks ks1 : List Nat} (h : gx_g ws ws1 j ks) (h1 : gx_g ws1 ws2 i ks1) (hs : ∀ k ∈ ks1, k ∈ ks ∨ ws.length ≤ k) : gx_g ws ws2 (j + i) ks :=
  ⟨by rw [h1.1, h.1, Nat.add_assoc], fun k h2 h3 => (h1.2 k (by rw [h.1]; omega) (fun e => by
    rcases hs k e with hk | hk
    · exact h3 hk
    · omega)).trans (h.2 k h2 h3)⟩
theorem gx_g.at {ws ws1 : va_W} {j k : Nat} {ks : List Nat} {x : Nat × va_E} (h : gx_g ws ws1 j ks) (hk : k ∉ ks) (hx : ws[k]? = some x) : ws1[k]? = some x := (h.2 k (List.getElem?_eq_some_iff.mp hx).1 hk).trans hx
