/-! THE MACHINE'S SIDE IN ONE ROW: where the law's program of numbers answers true, the law comes to its end with true -/
theorem law_all {p : Program} {e : Env} {s : State} {m : MethodId} {below : List Frame} {meth : Method} {c : Code} {Q : State → Prop} (l : Launch) (htr : l.stackTraces = false) {b Ls : Nat} {xs : Nat → Int32} (hx : p.tables.exec = Jvm.exec) (hb : c.code = code) (hml : c.maxLocals = 7) (hown : s.vm.findClass "CommitLedgerLaw" = some m.cls) (hts1 : ∀ w ∈ lw_tbl, w.before #[Value.ref b] s = true) (hgv : (Jvm.Cond.and given_1 narrow_1).before #[Value.ref b] s = true) (hX : va_X b Ls xs s s.heap) (hbl : b < s.heap.size) {Xf : gX} (hp : f_Lw_law X00 Ls xs 0 = some (gR.i 1, Xf))
    (kret : ∀ (H : Heap) (locs : List Loc) (ls : Array Slot) (cells slots : Nat), va_S (fun q : Nat => s.heap.size ≤ q) s.heap H locs → cells ≤ 200000 → slots ≤ 3000000 → W p l e room_1 s m #[Value.ref b] below meth c H locs cells slots Q (F0 m 1279 ls [Value.int 1])) :
    W p l e room_1 s m #[Value.ref b] below meth c s.heap [] 0 0 Q (entryFrame m ([Value.ref b] : List Value).toArray 7) := by
  refine law_start2 l htr hx hb hml hown hts1 hgv ?_
  intro D tys cI cZ cF cM cR cV cJ cO cN qc qm q121 ws H locs ls hK hY htys hP hD hS hlen g_le0 g_le1 g_le2 g_mo0 g_mo1 g_mo2 g_mo3 g_mo4 f_121 hl
  have ht : gTy (gx_T9 cI cZ cF cM cR cV cJ cO cN) tys := by
    rw [htys]
    exact ⟨rfl, rfl, rfl, rfl, rfl, rfl, rfl, rfl, rfl⟩
  have hts := gx_hts0 hts1 hgv
  have hw := law_gw (cO := cO) g_le0 g_le1 g_le2 g_mo0 g_mo1 g_mo2 g_mo3 g_mo4 f_121
  have Y : gy D (gx_T9 cI cZ cF cM cR cV cJ cO cN) (gx_b0 qc qm q121) (fun q : Nat => s.heap.size ≤ q) s.heap X00 X00 H locs := ⟨gx_h0 ws, ⟨ws, gx_h0S hD, hP, hD, hS⟩, hw, gEq.rf⟩
  have hC : gC XZZ (gx_b0 qc qm q121) X00 (gx_b0 qc qm q121) 122 677754 := ⟨rfl, rfl, by show 122 ≤ 200000; decide, by show 677754 ≤ 3000000; decide, Nat.le_refl _, fun _ _ => rfl⟩
  refine law_loop l htr hx hb hml hown hts hX hbl D tys hK s.heap.size (Nat.le_refl _) hY (fun q : Nat => s.heap.size ≤ q) (fun q h => h) (fun q h => h) (Nat.not_le.mpr hbl) (gx_T9 cI cZ cF cM cR cV cJ cO cN) ht (gx_b0 qc qm q121) XZZ Xf ⟨rfl, rfl⟩ (fun X b1 H locs ls cells slots hf hC Y => ?_) X00 0 (gx_b0 qc qm q121) H locs ls 122 677754 hp hl hC Y
  obtain ⟨h1, h2, h3, h4, -, -⟩ := hC
  obtain ⟨h, ⟨ws1, k1, k2, k3, k4⟩, -, -⟩ := Y
  have e1 : XZZ.cc = 0 := rfl
  have e2 : XZZ.ss = 0 := rfl
  have e3 : gCL = 200000 := rfl
  have e4 : gSL = 3000000 := rfl
  exact kret H locs ls cells slots k4 (by omega) (by omega)
