/-! THE THIRD LAYER, rows for the law's loop: calls of the wrappers, the script, the array of one long -/
section GYL
variable {p : Program} {l : Launch} {e : Env} {R : Room} {s : State} {m : MethodId} {args : Array Value} {below : List Frame} {meth : Method} {c : Code} {H : Heap} {locs : List Loc} {cells slots : Nat} {Q : State → Prop} {cc : ByteArray}
variable {D : va_G} {tys : List (ClassId × FieldType)} {A : Nat → Prop} {pc : Nat} {ls : Array Slot} {rest st0 : List Value} {n0 : Nat}
variable {t : Nat → ClassId} {b0 b : Nat → Nat} {X0 XB X : gX} {ρ : Type} {o : ρ}
def gx_WHA (R : Room) (s : State) (y : MethodName) (bytes : ByteArray) (maxL : Nat) (ret : Option FieldType) (hs : List (Nat × Nat × Nat × Nat)) (rm : Room) : Prop :=
  rm.frames + 1 ≤ R.frames ∧ 8 + (maxL + 11) + rm.locals ≤ R.locals ∧ ∀ (a : Array Value) (U : State), s.WarmedH U.vm → (Cond.codeWith y bytes maxL ret hs).before a U = true ∧ (Cond.initialized y.cls).before a U = true
theorem gx_cwHA {y : MethodName} {bytes : ByteArray} {maxL : Nat} {ret : Option FieldType} {hs : List (Nat × Nat × Nat × Nat)} {rm : Room} (hts : ∀ w ∈ gx_all, w.before args s = true) (h1 : Cond.codeWith y bytes maxL ret hs ∈ gx_all) (h2 : Cond.initialized y.cls ∈ gx_all) (hR : rm.frames + 1 ≤ R.frames ∧ 8 + (maxL + 11) + rm.locals ≤ R.locals) : gx_WHA R s y bytes maxL ret hs rm :=
  ⟨hR.1, hR.2, fun a U hW => ⟨word_at hW (Or.inl (by first | rfl | simp [Cond.onTables, Cond.keeps, Cond.steady])) (hts _ h1), word_at hW (Or.inl (by first | rfl | simp [Cond.onTables, Cond.keeps, Cond.steady])) (hts _ h2)⟩⟩
theorem gx_callHA {y : MethodName} {bytes cc : ByteArray} {maxL nL mc ms : Nat} {ret : Option FieldType} {hs : List (Nat × Nat × Nat × Nat)} {rm : Room} {Pc : Array Value → State → Prop} {Qc : Array Value → State → Outcome → State → Prop} {free : Addr → Prop} {a : Array Value} {g : JFrame} {rest : List Value} {ig : Instr}
    (hM : gx_Met l y [Cond.codeWith y bytes maxL ret hs] rm Pc Qc mc ms free) (hI : gx_inv p l e R s m args below meth c H locs cells slots y a g rest) (cw : gx_WHA R s y bytes maxL ret hs rm) (hb : c.code = cc) (hml : c.maxLocals = nL)
    (hbl : FrameBlind Pc) (hPc : ∀ U : State, U.heap = H → s.WarmedH U.vm → Pc a U) (hg : g.method = m) (hsize : g.locals.size = nL) (hW : 2 * g.monitorRoom + (rest.map fun v => v.category).sum ≤ 8) (hdg : decode cc g.pc = .ok (ig, 3)) (hf : cells + rm.cells ≤ R.cells ∧ slots + rm.slots ≤ R.slots)
    (kr : ∀ (v : Option Value) (st t : State) (L : List Loc), st.heap = H → s.WarmedH t.vm → Qc a st (.returned v) t → (∀ q ∈ L, free q.base) → W p l e R s m args below meth c t.heap (locs ++ L) (cells + mc) (slots + ms) Q { g with pc := g.pc + 3, stack := v.toList ++ rest })
    (kt : ∀ (x : Nat) (st t : State) (L : List Loc), st.heap = H → s.WarmedH t.vm → Qc a st (.threw x) t → (∀ q ∈ L, free q.base) → gx_T p l e R s m args below meth c t.heap (locs ++ L) (cells + mc) (slots + ms) Q { g with stack := rest } x) :
    W p l e R s m args below meth c H locs cells slots Q g := by
  intro T hT X
  obtain ⟨mk, vm₁, X₁, hn, st1⟩ := hI T hT X
  obtain ⟨hfr, hlo, hww⟩ := cw
  have hdg' : decode c.code ({ g with stack := rest } : JFrame).pc = .ok (ig, 3) := by rw [hb]; exact hdg
  have hcode := (hww a (T.setVm vm₁) X₁.warmed).1
  obtain ⟨mk2, methY, cY, hn2, hmY, hcY, -, hlY, -⟩ := Cond.codeWith_spec hcode
  cases Option.some.inj (hn.symm.trans hn2)
  obtain ⟨kY, hkY, -⟩ := className_of_methodNamed hn
  have hinitY : kY.init = .initialized := Cond.initialized_spec (findClass_of_methodNamed hn) hkY (hww a (T.setVm vm₁) X₁.warmed).2
  have hAt : At (T.setVm vm₁) ({ g with stack := rest } : JFrame).method c below := by rw [show ({ g with stack := rest } : JFrame).method = m from hg]; exact X₁.here
  have hsz : ({ g with stack := rest } : JFrame).locals.size = c.maxLocals := hsize.trans hml.symm
  have happ : (headSpec [Cond.codeWith y bytes maxL ret hs] rm).appliesLoose y e.platform ((T.setVm vm₁).calling { g with stack := rest } mk a) = true :=
    Spec.appliesLoose_calling (g := { g with stack := rest }) hAt hdg' hn hkY hinitY
      (X₁.room_calling (g := { g with stack := rest }) (R' := rm) hsz hmY hcY hfr (by rw [hlY]; show 2 * g.monitorRoom + (rest.map fun v => v.category).sum + (maxL + 11) + rm.locals ≤ R.locals; omega) hf.1 hf.2)
      (atoms_intro fun w hw => by rw [List.mem_singleton.mp hw]; exact hcode)
  obtain ⟨mid, hmid⟩ := hAt.above
  have hfr2 : ((T.setVm vm₁).setTop { g with stack := rest }).frames = (.java { g with stack := rest } :: mid) ++ below := by rw [State.frames_setTop' _ hAt.top, hmid]; rfl
  obtain ⟨o, t, hsteps, -, hend, hq, L, ⟨hW2, hsame⟩, hL⟩ := Steps.callFree hM p X₁.admits X₁.cas X₁.clock (acts := []) hfr2 happ (hbl _ _ _ _ (hPc (T.setVm vm₁) hT X₁.warmed)) trivial
  rw [State.frames_setTop' _ hAt.top] at hend
  have htail : (T.setVm vm₁).frames.tail = below := X₁.tail
  rw [htail] at hend
  cases o with
  | returned v =>
    obtain ⟨T', X', hW', -, rfl⟩ := X₁.outOf (g := { g with stack := rest }) hg hdg' (mk := mk) (a := a) hend hW2 hsame
    obtain ⟨t2, a1, b1⟩ := kr v _ _ L (show ((T.setVm vm₁).calling { g with stack := rest } mk a).heap = H from hT) (by exact X'.warmed) hq hL T' rfl X'
    exact ⟨t2, st1 t2 (hsteps.trans a1), b1⟩
  | threw x =>
    obtain ⟨T', X', hW', -, rfl⟩ := X₁.outOfThrown (g := { g with stack := rest }) hg (mk := mk) (a := a) hend hW2 hsame
    obtain ⟨t2, a1, b1⟩ := kt x _ _ L (show ((T.setVm vm₁).calling { g with stack := rest } mk a).heap = H from hT) (by exact X'.warmed) hq hL T' rfl X'
    exact ⟨t2, st1 t2 (hsteps.trans a1), b1⟩
theorem gA_callH {y : MethodName} {bytes : ByteArray} {maxL nL z fr lo : Nat} {ret : Option FieldType} {hs : List (Nat × Nat × Nat × Nat)} {av : List Value} {ig : Instr} {o1 : gR × gX} (hC : gC X0 b0 XB b cells slots) (Y : gy D t b A s.heap XB X H locs) (hR : gCL + 1 - X0.cc ≤ R.cells ∧ gSL + 6 - X0.ss ≤ R.slots)
    (hM : X.cc ≤ gCL → X.ss ≤ gSL → ∀ (ws : va_W) (h : gm_M), gm_S h ws → gw D t b X h → gx_Met l y [Cond.codeWith y bytes maxL ret hs] { frames := fr, cells := gCL + 1 - X.cc, slots := gSL + 6 - X.ss, locals := lo } (gx_P z H.size D classes tys ws av) (gx_Q D classes tys (va_A ws H.size) (gPoA D t b X o1)) (o1.2.cc + gT o1.1 - X.cc) (o1.2.ss + 6 * gT o1.1 - X.ss) (va_A ws H.size)) (hI : gx_inv p l e R s m args below meth c H locs cells slots y av.toArray (F0 m pc ls st0) rest) (cw : gx_WHA R s y bytes maxL ret hs { frames := fr, cells := gCL + 1 - X.cc, slots := gSL + 6 - X.ss, locals := lo }) (hb : c.code = cc) (hml : c.maxLocals = nL)
    (hz : z ≤ s.heap.size) (hK : va_K D classes tys s) (hY : gx_Y z D s) (hAz : ∀ q : Nat, A q → z ≤ q) (hA : ∀ q : Nat, s.heap.size ≤ q → A q) (hsize : ls.size = nL) (hW : 2 * (F0 m pc ls st0).monitorRoom + (rest.map fun v => v.category).sum ≤ 8) (hdg : decode cc pc = .ok (ig, 3))
    (kr : ∀ (v : Option Value) (b1 : Nat → Nat) (H1 : Heap) (L : List Loc) (cells1 slots1 : Nat), Sum.inl v = o1.1.val b1 → (∀ n, gNm X.N n → b1 n = b n) → gC X0 b0 o1.2 b1 cells1 slots1 → gy D t b1 A s.heap o1.2 o1.2 H1 L → W p l e R s m args below meth c H1 L cells1 slots1 Q (F0 m (pc + 3) ls (v.toList ++ rest)))
    (kt : ∀ (x : Nat) (E : String) (ce : Cell) (b1 : Nat → Nat) (H1 : Heap) (L : List Loc) (cells1 slots1 : Nat), Sum.inr E = o1.1.val b1 → (H1[x]? = some ce ∧ ce.vm = .none ∧ s.vm.findClass E = some ce.cls) → gC X0 b0 o1.2 b1 cells1 slots1 → gy D t b1 A s.heap o1.2 o1.2 H1 L → gx_T p l e R s m args below meth c H1 L (cells1 + 1) (slots1 + 6) Q (F0 m pc ls rest) x) :
    W p l e R s m args below meth c H locs cells slots Q (F0 m pc ls st0) := by
  have hC := hC.mv Y
  obtain ⟨h1, h2, h3, h4, h5, h6⟩ := hC
  obtain ⟨h, Z, hw, -⟩ := Y
  obtain ⟨ws, a1, a2, a3, a4⟩ := Z
  refine gx_callHA (hM h3 h4 ws h a1 hw) hI cw hb hml gx_blind (gx_pre hz a2 hK a3 hY a4 hAz av) rfl hsize hW hdg ⟨?_, ?_⟩ (fun v st t L h0 hW9 hQ hL => ?_) (fun x st t L h0 hW9 hQ hL => ?_)
  · show cells + (gCL + 1 - X.cc) ≤ R.cells
    omega
  · show slots + (gSL + 6 - X.ss) ≤ R.slots
    omega
  · obtain ⟨ws1, ⟨h', b1, b', g1, g2, g3, g4⟩, b2, -, b3, b4⟩ := gx_back h0 hW9 hQ hL a3 a4 hA
    obtain ⟨l1, l2, l3, l4, l5⟩ := g4
    have hT0 : gT o1.1 = 0 := by
      rcases hr : o1.1 with u | x | x | E
      · rfl
      · rfl
      · rfl
      · rw [hr] at g2
        exact absurd g2 (by unfold gR.val; simp)
    refine W.widen (k := o1.2.cc - X0.cc) (n := o1.2.ss - X0.ss) (by omega) (by omega) ?_
    exact kr v b' _ _ _ _ g2 g1 ⟨by omega, by omega, l2, l4, by omega, fun n hn => (g1 n ⟨by have := hn.1; omega, hn.2⟩).trans (h6 n hn)⟩ ⟨h', ⟨ws1, b1, b2, b3, b4⟩, g3, gEq.rf⟩
  · obtain ⟨E, ws1, ce, ⟨h', b1, b', g1, g2, g3, g4⟩, hce, b2, -, b3, b4⟩ := gx_backT h0 hW9 hQ hL a3 a4 hA
    obtain ⟨l1, l2, l3, l4, l5⟩ := g4
    have hT1 : gT o1.1 = 1 := by
      rcases hr : o1.1 with u | x | x | E
      · rw [hr] at g2
        exact absurd g2 (by unfold gR.val; simp)
      · rw [hr] at g2
        exact absurd g2 (by unfold gR.val; simp)
      · rw [hr] at g2
        exact absurd g2 (by unfold gR.val; simp)
      · rfl
    refine gx_widenT (k := o1.2.cc - X0.cc + 1) (n := o1.2.ss - X0.ss + 6) (by omega) (by omega) ?_
    exact kt x E ce b' _ _ _ _ g2 hce ⟨by omega, by omega, l2, l4, by omega, fun n hn => (g1 n ⟨by have := hn.1; omega, hn.2⟩).trans (h6 n hn)⟩ ⟨h', ⟨ws1, b1, b2, b3, b4⟩, g3, gEq.rf⟩
theorem gy_sld {K : Option ρ} {i : Int32} {bq Ls : Nat} {xs : Nat → Int32} (hf : (if gIn i Ls then K else none) = some o) (hx : p.tables.exec = Jvm.exec) (hb : c.code = cc) (hX : va_X bq Ls xs s s.heap) (hbl : bq < s.heap.size) (hbA : ¬ A bq) (Y : gy D t b A s.heap XB X H locs) (hdg : decode cc pc = .ok (.iaload, 1))
    (kk : K = some o → W p l e R s m args below meth c H locs cells slots Q (F0 m (pc + 1) ls (Value.int (xs (gn i)) :: rest))) : W p l e R s m args below meth c H locs cells slots Q (F0 m pc ls (Value.int i :: Value.ref bq :: rest)) := by
  obtain ⟨h, ⟨ws, h1, h2, h3, h4⟩, hw, hE⟩ := Y
  obtain ⟨hi, hf⟩ := gp_g hf
  exact va_sld hx hb hX hbl hbA h4 (gIn.vp hi) hdg (kk hf)
theorem gy_slen {bq Ls : Nat} {xs : Nat → Int32} (hx : p.tables.exec = Jvm.exec) (hb : c.code = cc) (hX : va_X bq Ls xs s s.heap) (hbl : bq < s.heap.size) (hbA : ¬ A bq) (Y : gy D t b A s.heap XB X H locs) (hdg : decode cc pc = .ok (.arraylength, 1))
    (kk : W p l e R s m args below meth c H locs cells slots Q (F0 m (pc + 1) ls (Value.int (nI Ls) :: rest))) : W p l e R s m args below meth c H locs cells slots Q (F0 m pc ls (Value.ref bq :: rest)) := by
  obtain ⟨h, ⟨ws, h1, h2, h3, h4⟩, hw, hE⟩ := Y
  exact va_slen hx hb hX hbl hbA h4 hdg kk
theorem gy_lald (hx : p.tables.exec = Jvm.exec) (hb : c.code = cc) (hK : va_K D classes tys s) (Y : gy D t b A s.heap XB X H locs) (ht : tys[6]? = some ((t 6, FieldType.long) : ClassId × FieldType)) (hdg : decode cc pc = .ok (.laload, 1))
    (kk : W p l e R s m args below meth c H locs cells slots Q (F0 m (pc + 1) ls (Value.long (X.I 116 0).toInt64 :: rest))) : W p l e R s m args below meth c H locs cells slots Q (F0 m pc ls (Value.int 0 :: Value.ref (b 116) :: rest)) := by
  obtain ⟨h, ⟨ws, h1, h2, h3, h4⟩, hw, hE⟩ := Y
  obtain ⟨q0, hq⟩ := h1.1 _ _ (hw.1 _ _ gF_116)
  refine va_lald hx hb hK h2 q0 6 hq ht (gx_inl (by decide)) hdg ?_
  exact kk
theorem gx_leq (hx : p.tables.exec = Jvm.exec) (hb : c.code = cc) {x y : Int64} {off : Int} {tgt : Nat} (d1 : decode cc pc = .ok (.lcmp, 1)) (d2 : decode cc (pc + 1) = .ok (.ifCond .eq off, 3)) (ht : ((pc + 1 : Nat) : Int) + off = (tgt : Int))
    (kt : x = y → W p l e R s m args below meth c H locs cells slots Q (F0 m tgt ls rest)) (kf : ¬ x = y → W p l e R s m args below meth c H locs cells slots Q (F0 m (pc + 1 + 3) ls rest)) : W p l e R s m args below meth c H locs cells slots Q (F0 m pc ls (.long y :: .long x :: rest)) := by
  by_cases h1 : x > y
  · exact gx_lcmpG hx hb h1 d1 (lv_if_eq (tgt := tgt) hx hb d2 ht (fun c9 => absurd c9 (by decide)) (fun _ => kf (fun e9 => absurd h1 (by rw [e9]; exact Int64.lt_irrefl))))
  · by_cases h2 : x = y
    · subst h2
      exact gx_lcmpE hx hb d1 (lv_if_eq (tgt := tgt) hx hb d2 ht (fun _ => kt rfl) (fun c9 => absurd rfl c9))
    · exact gx_lcmpL hx hb h1 h2 d1 (lv_if_eq (tgt := tgt) hx hb d2 ht (fun c9 => absurd c9 (by decide)) (fun _ => kf h2))
end GYL
theorem law_no {X Xf : gX} (h : some ((gR.i 0, X) : gR × gX) = some (gR.i 1, Xf)) : False := by
  have h1 := (Prod.mk.inj (Option.some.inj h)).1
  have h2 : (0 : Int32) = 1 := Sum.inl.inj (Sum.inr.inj h1)
  exact absurd h2 (by decide)
