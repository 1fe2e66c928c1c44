/-! THE THIRD LAYER, methods that make things: files (the next name 1000 + N), arrays of the two lists (names 130, 131 get new addresses), exceptions. cc and ss count cells and slots made so far. -/
def gCL : Nat := 200000
def gSL : Nat := 3000000
def gLe (X0 X : gX) : Prop := X0.cc ≤ X.cc ∧ X.cc ≤ gCL ∧ X0.ss ≤ X.ss ∧ X.ss ≤ gSL ∧ X0.N ≤ X.N
/-- what is known of the room and of the addresses at a place of such a method's walk -/
def gC (X0 : gX) (b0 : Nat → Nat) (X : gX) (b : Nat → Nat) (cells slots : Nat) : Prop := X.cc = X0.cc + cells ∧ X.ss = X0.ss + slots ∧ X.cc ≤ gCL ∧ X.ss ≤ gSL ∧ X0.N ≤ X.N ∧ ∀ n, gNm X0.N n → b n = b0 n
theorem gC.rf {X : gX} {b : Nat → Nat} (h1 : X.cc ≤ gCL) (h2 : X.ss ≤ gSL) : gC X b X b 0 0 := ⟨rfl, rfl, h1, h2, Nat.le_refl _, fun _ _ => rfl⟩
theorem gC.rc {X0 X : gX} {b0 b : Nat → Nat} {cells slots r : Nat} (h : gC X0 b0 X b cells slots) (hr : gCL + 1 - X0.cc ≤ r) : cells + 1 ≤ r := by
  obtain ⟨h1, h2, h3, h4, -⟩ := h
  omega
theorem gC.rs {X0 X : gX} {b0 b : Nat → Nat} {cells slots r : Nat} (h : gC X0 b0 X b cells slots) (hr : gSL + 6 - X0.ss ≤ r) : slots + 6 ≤ r := by
  obtain ⟨h1, h2, h3, h4, -⟩ := h
  omega
theorem gC.rc0 {X0 X : gX} {b0 b : Nat → Nat} {cells slots r : Nat} (h : gC X0 b0 X b cells slots) (hr : gCL + 1 - X0.cc ≤ r) : cells + 0 ≤ r := by
  obtain ⟨h1, h2, h3, h4, -⟩ := h
  omega
theorem gC.rs0 {X0 X : gX} {b0 b : Nat → Nat} {cells slots r : Nat} (h : gC X0 b0 X b cells slots) (hr : gSL + 6 - X0.ss ≤ r) : slots + 0 ≤ r := by
  obtain ⟨h1, h2, h3, h4, -⟩ := h
  omega
theorem gC.mv {D : va_G} {t : Nat → ClassId} {A : Nat → Prop} {H0 H : Heap} {locs : List Loc} {X0 XB X : gX} {b0 b : Nat → Nat} {cells slots : Nat} (h : gC X0 b0 XB b cells slots) (Y : gy D t b A H0 XB X H locs) : gC X0 b0 X b cells slots := by
  obtain ⟨h1, h2, h3, h4, h5, h6⟩ := h
  obtain ⟨-, -, -, e1, e2, e3, e4⟩ := Y
  exact ⟨by omega, by omega, by omega, by omega, by omega, h6⟩
theorem gy.rb {D : va_G} {t : Nat → ClassId} {A : Nat → Prop} {H0 H : Heap} {locs : List Loc} {XB X : gX} {b : Nat → Nat} (Y : gy D t b A H0 XB X H locs) : gy D t b A H0 X X H locs := by
  obtain ⟨h, Z, hw, -⟩ := Y
  exact ⟨h, Z, hw, gEq.rf⟩
theorem gNm_s {N n : Nat} (h : n < 129) : gNm N n := ⟨by omega, Or.inl h⟩
theorem gOk_map {N : Nat} {x : Option Nat} {b b' : Nat → Nat} (h : gOk N x = true) (hb : ∀ n, gNm N n → b' n = b n) : Option.map b' x = Option.map b x := by
  cases x with
  | none => rfl
  | some m => exact congrArg some (hb m (gOk.of h m rfl))
def gPoA (D : va_G) (t : Nat → ClassId) (b : Nat → Nat) (X : gX) (o : gR × gX) : Option Value ⊕ String → va_W → Prop := gm_p (fun r h' => ∃ b' : Nat → Nat, (∀ n, gNm X.N n → b' n = b n) ∧ r = o.1.val b' ∧ gw D t b' o.2 h' ∧ gLe X o.2)
/-- what lies at a name depends on the addresses of names in use alone -/
theorem gF_b {D : va_G} {t : Nat → ClassId} {b b' : Nat → Nat} {n : Nat} {r : Nat → Int32} {g : Nat → Option Nat} {L : Nat → Nat} {N N' : Nat} (hs : ∀ k, k < 132 → b' k = b k) (hg : ∀ i, (g i).map b' = (g i).map b) (hn : gFile N' n = gFile N n) : gF D t b' n r g L N' = gF D t b n r g L N := by
  have hr1 : ∀ i, (gRd 84 8 i).map b' = (gRd 84 8 i).map b := fun i => by
    unfold gRd
    by_cases q : i < 4
    · rw [if_pos q]
      exact congrArg some (hs _ (by omega))
    · rw [if_neg q]
      rfl
  have hr2 : ∀ i, (gRd 26 5 i).map b' = (gRd 26 5 i).map b := fun i => by
    unfold gRd
    by_cases q : i < 4
    · rw [if_pos q]
      exact congrArg some (hs _ (by omega))
    · rw [if_neg q]
      rfl
  unfold gF gF0 gF1 gF2 gF3 gF4 gF5 gF6 gF7 gF8 gF9 gF10
  simp only [hg, hr1, hr2, hn, hs 1 (by decide), hs 2 (by decide), hs 3 (by decide), hs 4 (by decide), hs 5 (by decide), hs 6 (by decide), hs 7 (by decide), hs 8 (by decide), hs 9 (by decide), hs 10 (by decide), hs 11 (by decide), hs 13 (by decide), hs 14 (by decide), hs 15 (by decide), hs 17 (by decide), hs 18 (by decide), hs 19 (by decide), hs 20 (by decide), hs 25 (by decide), hs 27 (by decide), hs 28 (by decide), hs 29 (by decide), hs 30 (by decide), hs 32 (by decide), hs 33 (by decide), hs 34 (by decide), hs 35 (by decide), hs 37 (by decide), hs 38 (by decide), hs 39 (by decide), hs 40 (by decide), hs 42 (by decide), hs 43 (by decide), hs 44 (by decide), hs 45 (by decide), hs 47 (by decide), hs 48 (by decide), hs 49 (by decide), hs 50 (by decide), hs 51 (by decide), hs 52 (by decide), hs 53 (by decide), hs 54 (by decide), hs 55 (by decide), hs 56 (by decide), hs 57 (by decide), hs 58 (by decide), hs 59 (by decide), hs 60 (by decide), hs 61 (by decide), hs 62 (by decide), hs 63 (by decide), hs 64 (by decide), hs 65 (by decide), hs 66 (by decide), hs 67 (by decide), hs 68 (by decide), hs 69 (by decide), hs 70 (by decide), hs 71 (by decide), hs 72 (by decide), hs 73 (by decide), hs 74 (by decide), hs 75 (by decide), hs 76 (by decide), hs 77 (by decide), hs 78 (by decide), hs 79 (by decide), hs 80 (by decide), hs 81 (by decide), hs 82 (by decide), hs 83 (by decide), hs 85 (by decide), hs 86 (by decide), hs 87 (by decide), hs 88 (by decide), hs 89 (by decide), hs 90 (by decide), hs 91 (by decide), hs 93 (by decide), hs 94 (by decide), hs 95 (by decide), hs 96 (by decide), hs 97 (by decide), hs 98 (by decide), hs 99 (by decide), hs 101 (by decide), hs 102 (by decide), hs 103 (by decide), hs 104 (by decide), hs 105 (by decide), hs 106 (by decide), hs 107 (by decide), hs 109 (by decide), hs 110 (by decide), hs 111 (by decide), hs 112 (by decide), hs 113 (by decide), hs 114 (by decide), hs 115 (by decide), hs 121 (by decide), hs 130 (by decide), hs 131 (by decide)]
def gX.nf (X : gX) : gX := gX.of (fun a => if a = 1000 + X.N then (fun _ => 0) else X.I a) X.G X.L (X.N + 1) (X.cc + 1) (X.ss + 7)
theorem gw.nf {D : va_G} {t : Nat → ClassId} {b : Nat → Nat} {X : gX} {h : gm_M} (hw : gw D t b X h) (q : Nat) : gw D t (fun a => if a = 1000 + X.N then q else b a) X.nf (gm_up h (1000 + X.N) (q, Sum.inr (7, [Value.int 0, Value.int 0, Value.int 0, Value.int 0, Value.int 0, Value.int 0, Value.int 0]))) := by
  refine ⟨fun a e ha => ?_, fun n i m hm => ?_⟩
  · by_cases qa : a = 1000 + X.N
    · subst qa
      have h1 : gF D t (fun a => if a = 1000 + X.N then q else b a) (1000 + X.N) (X.nf.I (1000 + X.N)) (X.nf.G (1000 + X.N)) X.nf.L X.nf.N = some (Sum.inr (7, [Value.int 0, Value.int 0, Value.int 0, Value.int 0, Value.int 0, Value.int 0, Value.int 0])) := by
        have h2 : X.nf.I (1000 + X.N) = fun _ => 0 := if_pos rfl
        rw [h2]
        exact gF_Fi (N := X.N + 1) (gFile.of (by omega) (by omega))
      have h3 := h1.symm.trans ha
      cases h3
      rw [gm_self]
      show some (q, _) = some ((if 1000 + X.N = 1000 + X.N then q else b (1000 + X.N)), _)
      rw [if_pos rfl]
    · have h2 : X.nf.I a = X.I a := if_neg qa
      rw [h2] at ha
      have h3 := (gF_b (N := X.N) (b := b) (fun k hk => if_neg (by omega)) (fun i => by
        cases hg : X.nf.G a i with
        | none => rfl
        | some m => exact congrArg some (if_neg (by have := (hw.2 a i m hg).1; omega))) (by
        have h9 : X.nf.N = X.N + 1 := rfl
        rw [h9]
        unfold gFile
        rw [show decide (a < 1000 + (X.N + 1)) = decide (a < 1000 + X.N) from decide_eq_decide.mpr ⟨fun h => by omega, fun h => by omega⟩])).symm.trans ha
      rw [gm_off qa]
      show h a = some ((if a = 1000 + X.N then q else b a), e)
      rw [if_neg qa]
      exact hw.1 a e h3
  · have h9 := hw.2 n i m hm
    exact ⟨by have := h9.1; have h8 : X.nf.N = X.N + 1 := rfl; omega, h9.2⟩
/-- the array of a list is made anew, c long -/
def gX.gr (X : gX) (k c : Nat) : gX := gX.of X.I (fun a => if a = k then (fun i => if i < X.L k then X.G k i else none) else X.G a) (fun a => if a = k then c else X.L a) X.N (X.cc + 1) (X.ss + c)
def gX.ex (X : gX) : gX := gX.of X.I X.G X.L X.N (X.cc + 1) (X.ss + 6)
section GYA
variable {p : Program} {l : Launch} {e : Env} {R : Room} {s : State} {m : MethodId} {args : Array Value} {below : List Frame} {meth : Method} {c : Code} {H : Heap} {locs : List Loc} {cells slots : Nat} {Q : State → Prop} {cc : ByteArray}
variable {D : va_G} {tys : List (ClassId × FieldType)} {A : Nat → Prop} {pc : Nat} {ls : Array Slot} {rest st0 : List Value} {n0 : Nat}
variable {t : Nat → ClassId} {b0 b : Nat → Nat} {X0 XB X : gX} {ρ : Type} {o : ρ}
/-- a callee whose room is more than what it takes -/
def gx_WA (R : Room) (s : State) (y : MethodName) (bytes : ByteArray) (maxL : Nat) (ret : Option FieldType) (rm : Room) : Prop :=
  rm.frames + 1 ≤ R.frames ∧ 8 + (maxL + 11) + rm.locals ≤ R.locals ∧ ∀ (a : Array Value) (U : State), s.WarmedH U.vm → (Cond.code y bytes maxL ret).before a U = true ∧ (Cond.initialized y.cls).before a U = true
theorem gx_cwA {y : MethodName} {bytes : ByteArray} {maxL : Nat} {ret : Option FieldType} {rm : Room} (hts : ∀ w ∈ gx_all, w.before args s = true) (h1 : Cond.code y bytes maxL ret ∈ gx_all) (h2 : Cond.initialized y.cls ∈ gx_all) (hR : rm.frames + 1 ≤ R.frames ∧ 8 + (maxL + 11) + rm.locals ≤ R.locals) : gx_WA R s y bytes maxL ret rm :=
  ⟨hR.1, hR.2, fun a U hW => ⟨word_at hW (Or.inl (by first | rfl | simp [Cond.onTables, Cond.keeps, Cond.steady])) (hts _ h1), word_at hW (Or.inl (by first | rfl | simp [Cond.onTables, Cond.keeps, Cond.steady])) (hts _ h2)⟩⟩
theorem gx_callA {y : MethodName} {bytes cc : ByteArray} {maxL nL mc ms : Nat} {ret : Option FieldType} {rm : Room} {Pc : Array Value → State → Prop} {Qc : Array Value → State → Outcome → State → Prop} {free : Addr → Prop} {a : Array Value} {g : JFrame} {rest : List Value} {ig : Instr}
    (hM : gx_Met l y [Cond.code y bytes maxL ret] rm Pc Qc mc ms free) (hI : gx_inv p l e R s m args below meth c H locs cells slots y a g rest) (cw : gx_WA R s y bytes maxL ret rm) (hb : c.code = cc) (hml : c.maxLocals = nL)
    (hbl : FrameBlind Pc) (hPc : ∀ U : State, U.heap = H → s.WarmedH U.vm → Pc a U) (hg : g.method = m) (hsize : g.locals.size = nL) (hW : 2 * g.monitorRoom + (rest.map fun v => v.category).sum ≤ 8) (hdg : decode cc g.pc = .ok (ig, 3)) (hf : cells + rm.cells ≤ R.cells ∧ slots + rm.slots ≤ R.slots)
    (kr : ∀ (v : Option Value) (st t : State) (L : List Loc), st.heap = H → s.WarmedH t.vm → Qc a st (.returned v) t → (∀ q ∈ L, free q.base) → W p l e R s m args below meth c t.heap (locs ++ L) (cells + mc) (slots + ms) Q { g with pc := g.pc + 3, stack := v.toList ++ rest })
    (kt : ∀ (x : Nat) (st t : State) (L : List Loc), st.heap = H → s.WarmedH t.vm → Qc a st (.threw x) t → (∀ q ∈ L, free q.base) → gx_T p l e R s m args below meth c t.heap (locs ++ L) (cells + mc) (slots + ms) Q { g with stack := rest } x) :
    W p l e R s m args below meth c H locs cells slots Q g := by
  intro T hT X
  obtain ⟨mk, vm₁, X₁, hn, st1⟩ := hI T hT X
  obtain ⟨hfr, hlo, hww⟩ := cw
  have hdg' : decode c.code ({ g with stack := rest } : JFrame).pc = .ok (ig, 3) := by rw [hb]; exact hdg
  have hcode := (hww a (T.setVm vm₁) X₁.warmed).1
  obtain ⟨methY, cY, hmY, hcY, -, hlY, -, -, -, -⟩ := Cond.code_spec hn hcode
  obtain ⟨kY, hkY, -⟩ := className_of_methodNamed hn
  have hinitY : kY.init = .initialized := Cond.initialized_spec (findClass_of_methodNamed hn) hkY (hww a (T.setVm vm₁) X₁.warmed).2
  have hAt : At (T.setVm vm₁) ({ g with stack := rest } : JFrame).method c below := by rw [show ({ g with stack := rest } : JFrame).method = m from hg]; exact X₁.here
  have hsz : ({ g with stack := rest } : JFrame).locals.size = c.maxLocals := hsize.trans hml.symm
  have happ : (headSpec [Cond.code y bytes maxL ret] rm).appliesLoose y e.platform ((T.setVm vm₁).calling { g with stack := rest } mk a) = true :=
    Spec.appliesLoose_calling (g := { g with stack := rest }) hAt hdg' hn hkY hinitY
      (X₁.room_calling (g := { g with stack := rest }) (R' := rm) hsz hmY hcY hfr (by rw [hlY]; show 2 * g.monitorRoom + (rest.map fun v => v.category).sum + (maxL + 11) + rm.locals ≤ R.locals; omega) hf.1 hf.2)
      (atoms_intro fun w hw => by rw [List.mem_singleton.mp hw]; exact hcode)
  obtain ⟨mid, hmid⟩ := hAt.above
  have hfr2 : ((T.setVm vm₁).setTop { g with stack := rest }).frames = (.java { g with stack := rest } :: mid) ++ below := by rw [State.frames_setTop' _ hAt.top, hmid]; rfl
  obtain ⟨o, t, hsteps, -, hend, hq, L, ⟨hW2, hsame⟩, hL⟩ := Steps.callFree hM p X₁.admits X₁.cas X₁.clock (acts := []) hfr2 happ (hbl _ _ _ _ (hPc (T.setVm vm₁) hT X₁.warmed)) trivial
  rw [State.frames_setTop' _ hAt.top] at hend
  have htail : (T.setVm vm₁).frames.tail = below := X₁.tail
  rw [htail] at hend
  cases o with
  | returned v =>
    obtain ⟨T', X', hW', -, rfl⟩ := X₁.outOf (g := { g with stack := rest }) hg hdg' (mk := mk) (a := a) hend hW2 hsame
    obtain ⟨t2, a1, b1⟩ := kr v _ _ L (show ((T.setVm vm₁).calling { g with stack := rest } mk a).heap = H from hT) (by exact X'.warmed) hq hL T' rfl X'
    exact ⟨t2, st1 t2 (hsteps.trans a1), b1⟩
  | threw x =>
    obtain ⟨T', X', hW', -, rfl⟩ := X₁.outOfThrown (g := { g with stack := rest }) hg (mk := mk) (a := a) hend hW2 hsame
    obtain ⟨t2, a1, b1⟩ := kt x _ _ L (show ((T.setVm vm₁).calling { g with stack := rest } mk a).heap = H from hT) (by exact X'.warmed) hq hL T' rfl X'
    exact ⟨t2, st1 t2 (hsteps.trans a1), b1⟩
/-- the call of a method that makes things; what it made is counted, addresses may have changed -/
theorem gA_call {y : MethodName} {bytes : ByteArray} {maxL nL z fr lo : Nat} {ret : Option FieldType} {av : List Value} {ig : Instr} {o1 : gR × gX} (hC : gC X0 b0 XB b cells slots) (Y : gy D t b A s.heap XB X H locs) (hR : gCL + 1 - X0.cc ≤ R.cells ∧ gSL + 6 - X0.ss ≤ R.slots)
    (hM : X.cc ≤ gCL → X.ss ≤ gSL → ∀ (ws : va_W) (h : gm_M), gm_S h ws → gw D t b X h → gx_Met l y [Cond.code y bytes maxL ret] { frames := fr, cells := gCL + 1 - X.cc, slots := gSL + 6 - X.ss, locals := lo } (gx_P z H.size D classes tys ws av) (gx_Q D classes tys (va_A ws H.size) (gPoA D t b X o1)) (o1.2.cc + gT o1.1 - X.cc) (o1.2.ss + 6 * gT o1.1 - X.ss) (va_A ws H.size)) (hI : gx_inv p l e R s m args below meth c H locs cells slots y av.toArray (F0 m pc ls st0) rest) (cw : gx_WA R s y bytes maxL ret { frames := fr, cells := gCL + 1 - X.cc, slots := gSL + 6 - X.ss, locals := lo }) (hb : c.code = cc) (hml : c.maxLocals = nL)
    (hz : z ≤ s.heap.size) (hK : va_K D classes tys s) (hY : gx_Y z D s) (hAz : ∀ q : Nat, A q → z ≤ q) (hA : ∀ q : Nat, s.heap.size ≤ q → A q) (hsize : ls.size = nL) (hW : 2 * (F0 m pc ls st0).monitorRoom + (rest.map fun v => v.category).sum ≤ 8) (hdg : decode cc pc = .ok (ig, 3))
    (kr : ∀ (v : Option Value) (b1 : Nat → Nat) (H1 : Heap) (L : List Loc) (cells1 slots1 : Nat), Sum.inl v = o1.1.val b1 → (∀ n, gNm X.N n → b1 n = b n) → gC X0 b0 o1.2 b1 cells1 slots1 → gy D t b1 A s.heap o1.2 o1.2 H1 L → W p l e R s m args below meth c H1 L cells1 slots1 Q (F0 m (pc + 3) ls (v.toList ++ rest)))
    (kt : ∀ (x : Nat) (E : String) (ce : Cell) (b1 : Nat → Nat) (H1 : Heap) (L : List Loc) (cells1 slots1 : Nat), Sum.inr E = o1.1.val b1 → (H1[x]? = some ce ∧ ce.vm = .none ∧ s.vm.findClass E = some ce.cls) → gC X0 b0 o1.2 b1 cells1 slots1 → gy D t b1 A s.heap o1.2 o1.2 H1 L → gx_T p l e R s m args below meth c H1 L (cells1 + 1) (slots1 + 6) Q (F0 m pc ls rest) x) :
    W p l e R s m args below meth c H locs cells slots Q (F0 m pc ls st0) := by
  have hC := hC.mv Y
  obtain ⟨h1, h2, h3, h4, h5, h6⟩ := hC
  obtain ⟨h, Z, hw, -⟩ := Y
  obtain ⟨ws, a1, a2, a3, a4⟩ := Z
  refine gx_callA (hM h3 h4 ws h a1 hw) hI cw hb hml gx_blind (gx_pre hz a2 hK a3 hY a4 hAz av) rfl hsize hW hdg ⟨?_, ?_⟩ (fun v st t L h0 hW9 hQ hL => ?_) (fun x st t L h0 hW9 hQ hL => ?_)
  · show cells + (gCL + 1 - X.cc) ≤ R.cells
    omega
  · show slots + (gSL + 6 - X.ss) ≤ R.slots
    omega
  · obtain ⟨ws1, ⟨h', b1, b', g1, g2, g3, g4⟩, b2, -, b3, b4⟩ := gx_back h0 hW9 hQ hL a3 a4 hA
    obtain ⟨l1, l2, l3, l4, l5⟩ := g4
    have hT0 : gT o1.1 = 0 := by
      rcases hr : o1.1 with u | x | x | E
      · rfl
      · rfl
      · rfl
      · rw [hr] at g2
        exact absurd g2 (by unfold gR.val; simp)
    refine W.widen (k := o1.2.cc - X0.cc) (n := o1.2.ss - X0.ss) (by omega) (by omega) ?_
    exact kr v b' _ _ _ _ g2 g1 ⟨by omega, by omega, l2, l4, by omega, fun n hn => (g1 n ⟨by have := hn.1; omega, hn.2⟩).trans (h6 n hn)⟩ ⟨h', ⟨ws1, b1, b2, b3, b4⟩, g3, gEq.rf⟩
  · obtain ⟨E, ws1, ce, ⟨h', b1, b', g1, g2, g3, g4⟩, hce, b2, -, b3, b4⟩ := gx_backT h0 hW9 hQ hL a3 a4 hA
    obtain ⟨l1, l2, l3, l4, l5⟩ := g4
    have hT1 : gT o1.1 = 1 := by
      rcases hr : o1.1 with u | x | x | E
      · rw [hr] at g2
        exact absurd g2 (by unfold gR.val; simp)
      · rw [hr] at g2
        exact absurd g2 (by unfold gR.val; simp)
      · rw [hr] at g2
        exact absurd g2 (by unfold gR.val; simp)
      · rfl
    refine gx_widenT (k := o1.2.cc - X0.cc + 1) (n := o1.2.ss - X0.ss + 6) (by omega) (by omega) ?_
    exact kt x E ce b' _ _ _ _ g2 hce ⟨by omega, by omega, l2, l4, by omega, fun n hn => (g1 n ⟨by have := hn.1; omega, hn.2⟩).trans (h6 n hn)⟩ ⟨h', ⟨ws1, b1, b2, b3, b4⟩, g3, gEq.rf⟩
/-- a new file -/
theorem gA_new {f : gX → Option ρ} (hf : (if X.cc + 1 ≤ gCL ∧ X.ss + 7 ≤ gSL then gB X.nf f else none) = some o) (hx : p.tables.exec = Jvm.exec) (hb : c.code = cc) {own : String} {index : Nat} (hts : ∀ w ∈ gx_all, w.before args s = true) (hown : s.vm.findClass own = some m.cls) (hcl : Cond.classLink own index "CommitLedger$LedgerFile" ∈ gx_all) (hinst : Cond.instantiable "CommitLedger$LedgerFile" 7 ∈ gx_all) (hini : Cond.initialized "CommitLedger$LedgerFile" ∈ gx_all) (hK : va_K D classes tys s) (hC : gC X0 b0 XB b cells slots) (Y : gy D t b A s.heap XB X H locs) (hR : gCL + 1 - X0.cc ≤ R.cells ∧ gSL + 6 - X0.ss ≤ R.slots) (hA : ∀ q : Nat, s.heap.size ≤ q → A q) (hdg : decode cc pc = .ok (.new index, 3))
    (kk : ∀ (X1 : gX) (b1 : Nat → Nat) (H1 : Heap) (cells1 slots1 : Nat), f X1 = some o → (∀ n, gNm X.N n → b1 n = b n) → gC X0 b0 X1 b1 cells1 slots1 → gy D t b1 A s.heap X1 X1 H1 locs → W p l e R s m args below meth c H1 locs cells1 slots1 Q (F0 m (pc + 3) ls (Value.ref (b1 (1000 + X.N)) :: rest))) : W p l e R s m args below meth c H locs cells slots Q (F0 m pc ls rest) := by
  obtain ⟨h1, h2, h3, h4, h5, h6⟩ := hC.mv Y
  have l1 : X0.cc ≤ X.cc := by omega
  have l2 : X0.ss ≤ X.ss := by omega
  obtain ⟨h, Z, hw, hE⟩ := Y
  obtain ⟨⟨g1, g2⟩, hf⟩ := gp_g hf
  refine gz_new (1000 + X.N) (ci := 7) (C := "CommitLedger$LedgerFile") (T := F_Fi) (N := 7) (fs := [Value.int 0, Value.int 0, Value.int 0, Value.int 0, Value.int 0, Value.int 0, Value.int 0]) hx hb hts i_Fi t_Fi t_Fi_ok hown hcl hinst hini hK Z hA rfl (by decide) (by omega) (by omega) hdg (fun q H1 Z1 => ?_)
  obtain ⟨b1, hb1⟩ : ∃ b1 : Nat → Nat, b1 = fun a => if a = 1000 + X.N then q else b a := ⟨_, rfl⟩
  have e9 : b1 (1000 + X.N) = q := by rw [hb1]; exact if_pos rfl
  have e8 : ∀ n, gNm X.N n → b1 n = b n := fun n hn => by rw [hb1]; exact if_neg (by have := hn.1; omega)
  have hw1 : gw D t b1 X.nf (gm_up h (1000 + X.N) (q, Sum.inr (7, [Value.int 0, Value.int 0, Value.int 0, Value.int 0, Value.int 0, Value.int 0, Value.int 0]))) := by rw [hb1]; exact hw.nf q
  have k9 := kk X.nf b1 H1 (cells + 1) (slots + 7) hf e8 ⟨by show X.cc + 1 = _; omega, by show X.ss + 7 = _; omega, g1, g2, by show X0.N ≤ X.N + 1; omega, fun n hn => (e8 n ⟨by have := hn.1; omega, hn.2⟩).trans (h6 n hn)⟩ ⟨_, Z1, hw1, gEq.rf⟩
  rw [e9] at k9
  exact k9
/-- the length of a list's array, or of the empty one -/
theorem gy_alenL {n z : Nat} (hn : gLis n = true) (hx : p.tables.exec = Jvm.exec) (hb : c.code = cc) (hK : va_K D classes tys s) (hY : gx_Y z D s) (hz : z ≤ s.heap.size) (hAz : ∀ q : Nat, A q → z ≤ q) (Y : gy D t b A s.heap XB X H locs) (ht7 : tys[7]? = some ((t 7, FieldType.object "java/lang/Object") : ClassId × FieldType)) (hdg : decode cc pc = .ok (.arraylength, 1))
    (kk : W p l e R s m args below meth c H locs cells slots Q (F0 m (pc + 1) ls (Value.int (nI (X.L (n + 124))) :: rest))) : W p l e R s m args below meth c H locs cells slots Q (F0 m pc ls (Value.ref (if X.L (n + 124) = 0 then gx_av D else b (n + 124)) :: rest)) := by
  by_cases hL : X.L (n + 124) = 0
  · rw [if_pos hL]
    rw [hL] at kk
    obtain ⟨h, Z, -, -⟩ := Y
    exact gz_alenE hx hb hY hz hAz Z hdg kk
  · rw [if_neg hL]
    exact gy_alen hx hb hK Y 7 (gF_LA hn hL) ht7 rfl hdg kk
/-- ends of such a method -/
theorem gA_iret {o : gR × gX} {v : Int32} (hf : some ((gR.i v, X) : gR × gX) = some o) (hx : p.tables.exec = Jvm.exec) (hb : c.code = cc) (hr : meth.sig.returnType = some .int) (hlocks : meth.locks = false) (hK : va_K D classes tys s) (hC : gC X0 b0 XB b cells slots) (Y : gy D t b A s.heap XB X H locs) (hdg : decode cc pc = .ok (.ireturn, 1)) : W p l e R s m args below meth c H locs cells slots (gx_MQ below (gx_Q D classes tys A (gPoA D t b0 X0 o)) args s (o.2.cc + gT o.1 - X0.cc) (o.2.ss + 6 * gT o.1 - X0.ss) A) (F0 m pc ls [Value.int v]) := by
  obtain ⟨h1, h2, h3, h4, h5, h6⟩ := hC.mv Y
  have l1 : X0.cc ≤ X.cc := by omega
  have l2 : X0.ss ≤ X.ss := by omega
  obtain ⟨h, Z, hw, hE⟩ := Y
  cases hf
  exact gz_iret hx hb hr hlocks hK Z (by show cells ≤ X.cc + 0 - X0.cc; omega) (by show slots ≤ X.ss + 6 * 0 - X0.ss; omega) ⟨b, h6, rfl, hw, l1, h3, l2, h4, h5⟩ hdg
theorem gA_zret {o : gR × gX} {v : Int32} (hf : some ((gR.i v, X) : gR × gX) = some o) (hx : p.tables.exec = Jvm.exec) (hb : c.code = cc) (hr : meth.sig.returnType = some .boolean) (hlocks : meth.locks = false) (hK : va_K D classes tys s) (hC : gC X0 b0 XB b cells slots) (Y : gy D t b A s.heap XB X H locs) (hv : narrow .boolean (.int v) = .int v) (hdg : decode cc pc = .ok (.ireturn, 1)) : W p l e R s m args below meth c H locs cells slots (gx_MQ below (gx_Q D classes tys A (gPoA D t b0 X0 o)) args s (o.2.cc + gT o.1 - X0.cc) (o.2.ss + 6 * gT o.1 - X0.ss) A) (F0 m pc ls [Value.int v]) := by
  obtain ⟨h1, h2, h3, h4, h5, h6⟩ := hC.mv Y
  have l1 : X0.cc ≤ X.cc := by omega
  have l2 : X0.ss ≤ X.ss := by omega
  obtain ⟨h, Z, hw, hE⟩ := Y
  cases hf
  exact gz_zret hx hb hr hlocks hK Z (by show cells ≤ X.cc + 0 - X0.cc; omega) (by show slots ≤ X.ss + 6 * 0 - X0.ss; omega) hv ⟨b, h6, rfl, hw, l1, h3, l2, h4, h5⟩ hdg
theorem gA_vret {o : gR × gX} (hf : some ((gR.v, X) : gR × gX) = some o) (hx : p.tables.exec = Jvm.exec) (hb : c.code = cc) (hr : meth.sig.returnType = none) (hlocks : meth.locks = false) (hK : va_K D classes tys s) (hC : gC X0 b0 XB b cells slots) (Y : gy D t b A s.heap XB X H locs) (hdg : decode cc pc = .ok (.return_, 1)) : W p l e R s m args below meth c H locs cells slots (gx_MQ below (gx_Q D classes tys A (gPoA D t b0 X0 o)) args s (o.2.cc + gT o.1 - X0.cc) (o.2.ss + 6 * gT o.1 - X0.ss) A) (F0 m pc ls []) := by
  obtain ⟨h1, h2, h3, h4, h5, h6⟩ := hC.mv Y
  have l1 : X0.cc ≤ X.cc := by omega
  have l2 : X0.ss ≤ X.ss := by omega
  obtain ⟨h, Z, hw, hE⟩ := Y
  cases hf
  exact gz_vret hx hb hr hlocks hK Z (by show cells ≤ X.cc + 0 - X0.cc; omega) (by show slots ≤ X.ss + 6 * 0 - X0.ss; omega) ⟨b, h6, rfl, hw, l1, h3, l2, h4, h5⟩ hdg
theorem gA_aret {o : gR × gX} {x : Option Nat} {C : String} (hf : some ((gR.a x, X) : gR × gX) = some o) (hx : p.tables.exec = Jvm.exec) (hb : c.code = cc) (hr : meth.sig.returnType = some (.object C)) (hlocks : meth.locks = false) (hK : va_K D classes tys s) (hC : gC X0 b0 XB b cells slots) (Y : gy D t b A s.heap XB X H locs) (hdg : decode cc pc = .ok (.areturn, 1)) : W p l e R s m args below meth c H locs cells slots (gx_MQ below (gx_Q D classes tys A (gPoA D t b0 X0 o)) args s (o.2.cc + gT o.1 - X0.cc) (o.2.ss + 6 * gT o.1 - X0.ss) A) (F0 m pc ls [va_rf (x.map b)]) := by
  obtain ⟨h1, h2, h3, h4, h5, h6⟩ := hC.mv Y
  have l1 : X0.cc ≤ X.cc := by omega
  have l2 : X0.ss ≤ X.ss := by omega
  obtain ⟨h, ⟨ws9, hM9, hP9, hD9, hS9⟩, hw, hE⟩ := Y
  cases hf
  refine W.widen (k := X.cc + 0 - X0.cc) (n := X.ss + 6 * 0 - X0.ss) (by omega) (by omega) ?_
  exact gx_ret (W.aret (v := va_rf (x.map b)) hx hb hr (Or.inl ⟨_, rfl⟩) (by cases x with | none => exact Or.inl rfl | some v => exact Or.inr ⟨_, rfl⟩) (gx_post hP9 hK hD9 hS9 ⟨h, hM9, b, h6, rfl, hw, l1, h3, l2, h4, h5⟩) hS9.2.2 hdg)
theorem gA_aretA {o : gR × gX} {x : Option Nat} {C : FieldType} (hf : some ((gR.a x, X) : gR × gX) = some o) (hx : p.tables.exec = Jvm.exec) (hb : c.code = cc) (hr : meth.sig.returnType = some (.array C)) (hlocks : meth.locks = false) (hK : va_K D classes tys s) (hC : gC X0 b0 XB b cells slots) (Y : gy D t b A s.heap XB X H locs) (hdg : decode cc pc = .ok (.areturn, 1)) : W p l e R s m args below meth c H locs cells slots (gx_MQ below (gx_Q D classes tys A (gPoA D t b0 X0 o)) args s (o.2.cc + gT o.1 - X0.cc) (o.2.ss + 6 * gT o.1 - X0.ss) A) (F0 m pc ls [va_rf (x.map b)]) := by
  obtain ⟨h1, h2, h3, h4, h5, h6⟩ := hC.mv Y
  have l1 : X0.cc ≤ X.cc := by omega
  have l2 : X0.ss ≤ X.ss := by omega
  obtain ⟨h, ⟨ws9, hM9, hP9, hD9, hS9⟩, hw, hE⟩ := Y
  cases hf
  refine W.widen (k := X.cc + 0 - X0.cc) (n := X.ss + 6 * 0 - X0.ss) (by omega) (by omega) ?_
  exact gx_ret (W.aret (v := va_rf (x.map b)) hx hb hr (Or.inr ⟨_, rfl⟩) (by cases x with | none => exact Or.inl rfl | some v => exact Or.inr ⟨_, rfl⟩) (gx_post hP9 hK hD9 hS9 ⟨h, hM9, b, h6, rfl, hw, l1, h3, l2, h4, h5⟩) hS9.2.2 hdg)
/-- an exception goes on (of a callee that makes things: one cell and six slots over the count) -/
theorem gA_pass {x : Nat} {st : List Value} {E : String} {ce : Cell} (hne : c.exceptionTable.isEmpty = true) (hlocks : meth.locks = false) (hce : H[x]? = some ce ∧ ce.vm = .none ∧ s.vm.findClass E = some ce.cls) (hK : va_K D classes tys s) (hC : gC X0 b0 XB b cells slots) (Y : gy D t b A s.heap XB X H locs) : gx_T p l e R s m args below meth c H locs (cells + 1) (slots + 6) (gx_MQ below (gx_Q D classes tys A (gPoA D t b0 X0 (gR.t E, X))) args s (X.cc + gT (gR.t E) - X0.cc) (X.ss + 6 * gT (gR.t E) - X0.ss) A) (F0 m pc ls st) x := by
  obtain ⟨h1, h2, h3, h4, h5, h6⟩ := hC.mv Y
  have l1 : X0.cc ≤ X.cc := by omega
  have l2 : X0.ss ≤ X.ss := by omega
  obtain ⟨h, Z, hw, hE⟩ := Y
  exact gz_pass hne hlocks hce hK Z (by show cells + 1 ≤ X.cc + 1 - X0.cc; omega) (by show slots + 6 ≤ X.ss + 6 * 1 - X0.ss; omega) ⟨b, h6, rfl, hw, l1, h3, l2, h4, h5⟩
theorem gA_thr {own cls text : String} {ik is ic i1 : Nat} {b1 : ByteArray} (hx : p.tables.exec = Jvm.exec) (hb : c.code = cc) (htr : l.stackTraces = false) (hml : c.maxLocals = ls.size) (hown : s.vm.findClass own = some m.cls) (hts : ∀ w ∈ gx_all, w.before args s = true) (hne : c.exceptionTable.isEmpty = true) (hlocks : meth.locks = false) (hK : va_K D classes tys s) (hC : gC X0 b0 XB b cells slots) (Y : gy D t b A s.heap XB X H locs) (hR : gCL + 1 - X0.cc ≤ R.cells ∧ gSL + 6 - X0.ss ≤ R.slots) (hA : ∀ q : Nat, s.heap.size ≤ q → A q) (hN : gx_NS A s)
    (w1 : Cond.classLink own ik cls ∈ gx_all) (w2 : Cond.instantiable cls 6 ∈ gx_all) (w3 : Cond.initialized cls ∈ gx_all) (w4 : Cond.stringRef own is text ∈ gx_all) (w5 : ∀ w ∈ gx_ca own ic cls i1 b1, w ∈ gx_all) (hfit : Bundle.fit cls = true)
    (g0 : decode b1 0 = .ok (.aload_n 0, 1)) (g1 : decode b1 1 = .ok (.aload_n 1, 1)) (g2 : decode b1 2 = .ok (.invokespecial i1, 3)) (g5 : decode b1 5 = .ok (.return_, 1))
    (d0 : decode cc pc = .ok (.new ik, 3)) (d3 : decode cc (pc + 3) = .ok (.dup, 1)) (d4 : decode cc (pc + 4) = .ok (.ldc is, 2)) (d6 : decode cc (pc + 6) = .ok (.invokespecial ic, 3)) (d9 : decode cc (pc + 9) = .ok (.athrow, 1))
    (hf : 6 ≤ R.frames) (hl : 82 ≤ R.locals) :
    W p l e R s m args below meth c H locs cells slots (gx_MQ below (gx_Q D classes tys A (gPoA D t b0 X0 (gR.t cls, X))) args s (X.cc + gT (gR.t cls) - X0.cc) (X.ss + 6 * gT (gR.t cls) - X0.ss) A) (F0 m pc ls []) := by
  obtain ⟨h1, h2, h3, h4, h5, h6⟩ := hC.mv Y
  have l1 : X0.cc ≤ X.cc := by omega
  have l2 : X0.ss ≤ X.ss := by omega
  obtain ⟨h, ⟨ws9, hM9, hP9, hD9, hS9⟩, hw, hE⟩ := Y
  exact gx_thr hx hb htr hml hown hts hne hlocks hP9 hK hD9 hS9 hA hN w1 w2 w3 w4 w5 hfit g0 g1 g2 g5 d0 d3 d4 d6 d9 hf hl (hC.rc hR.1) (hC.rs hR.2) (by show cells + 1 ≤ X.cc + 1 - X0.cc; omega) (by show slots + 6 ≤ X.ss + 6 * 1 - X0.ss; omega) ⟨h, hM9, b, h6, rfl, hw, l1, h3, l2, h4, h5⟩
theorem gA_thrw {own cls text : String} {ik is ic i1 : Nat} {b1 : ByteArray} (hx : p.tables.exec = Jvm.exec) (hb : c.code = cc) (htr : l.stackTraces = false) (hml : c.maxLocals = ls.size) (hown : s.vm.findClass own = some m.cls) (hts : ∀ w ∈ gx_all, w.before args s = true) (hne : c.exceptionTable.isEmpty = true) (hlocks : meth.locks = false) (hK : va_K D classes tys s) (hC : gC X0 b0 XB b cells slots) (Y : gy D t b A s.heap XB X H locs) (hR : gCL + 1 - X0.cc ≤ R.cells ∧ gSL + 6 - X0.ss ≤ R.slots) (hA : ∀ q : Nat, s.heap.size ≤ q → A q) (hN : gx_NS A s)
    (w1 : Cond.classLink own ik cls ∈ gx_all) (w2 : Cond.instantiable cls 6 ∈ gx_all) (w3 : Cond.initialized cls ∈ gx_all) (w4 : Cond.stringRef own is text ∈ gx_all) (w5 : ∀ w ∈ gx_ca own ic cls i1 b1, w ∈ gx_all) (hfit : Bundle.fit cls = true)
    (g0 : decode b1 0 = .ok (.aload_n 0, 1)) (g1 : decode b1 1 = .ok (.aload_n 1, 1)) (g2 : decode b1 2 = .ok (.invokespecial i1, 3)) (g5 : decode b1 5 = .ok (.return_, 1))
    (d0 : decode cc pc = .ok (.new ik, 3)) (d3 : decode cc (pc + 3) = .ok (.dup, 1)) (d4 : decode cc (pc + 4) = .ok (.ldc_w is, 3)) (d6 : decode cc (pc + 7) = .ok (.invokespecial ic, 3)) (d9 : decode cc (pc + 10) = .ok (.athrow, 1))
    (hf : 6 ≤ R.frames) (hl : 82 ≤ R.locals) :
    W p l e R s m args below meth c H locs cells slots (gx_MQ below (gx_Q D classes tys A (gPoA D t b0 X0 (gR.t cls, X))) args s (X.cc + gT (gR.t cls) - X0.cc) (X.ss + 6 * gT (gR.t cls) - X0.ss) A) (F0 m pc ls []) := by
  obtain ⟨h1, h2, h3, h4, h5, h6⟩ := hC.mv Y
  have l1 : X0.cc ≤ X.cc := by omega
  have l2 : X0.ss ≤ X.ss := by omega
  obtain ⟨h, ⟨ws9, hM9, hP9, hD9, hS9⟩, hw, hE⟩ := Y
  exact gx_thrw hx hb htr hml hown hts hne hlocks hP9 hK hD9 hS9 hA hN w1 w2 w3 w4 w5 hfit g0 g1 g2 g5 d0 d3 d4 d6 d9 hf hl (hC.rc hR.1) (hC.rs hR.2) (by show cells + 1 ≤ X.cc + 1 - X0.cc; omega) (by show slots + 6 ≤ X.ss + 6 * 1 - X0.ss; omega) ⟨h, hM9, b, h6, rfl, hw, l1, h3, l2, h4, h5⟩
/-- a caught exception is counted -/
theorem gA_exc {f : gX → Option ρ} {g : JFrame} (hf : (if X.cc + 1 ≤ gCL ∧ X.ss + 6 ≤ gSL then gB X.ex f else none) = some o) (hC : gC X0 b0 XB b cells slots) (Y : gy D t b A s.heap XB X H locs) (kk : ∀ (X1 : gX) (cells1 slots1 : Nat), f X1 = some o → gC X0 b0 X1 b cells1 slots1 → gy D t b A s.heap X1 X1 H locs → W p l e R s m args below meth c H locs cells1 slots1 Q g) : W p l e R s m args below meth c H locs (cells + 1) (slots + 6) Q g := by
  obtain ⟨h1, h2, h3, h4, h5, h6⟩ := hC.mv Y
  have l1 : X0.cc ≤ X.cc := by omega
  have l2 : X0.ss ≤ X.ss := by omega
  obtain ⟨h, Z, hw, hE⟩ := Y
  obtain ⟨⟨g1, g2⟩, hf⟩ := gp_g hf
  exact kk X.ex (cells + 1) (slots + 6) hf ⟨by show X.cc + 1 = _; omega, by show X.ss + 6 = _; omega, g1, g2, h5, h6⟩ ⟨h, Z, hw, gEq.rf⟩
/-- loops and joins of such methods -/
theorem gA_iter {σ : Type} {body : σ → Option (σ ⊕ ρ)} (f : σ → gX) (J : σ → (Nat → Nat) → Array Slot → Prop)
    (step : ∀ (x : σ) (u : σ ⊕ ρ) (b : Nat → Nat) (H : Heap) (locs : List Loc) (ls : Array Slot) (cells slots : Nat), body x = some u → J x b ls → gC X0 b0 (f x) b cells slots → gy D t b A s.heap (f x) (f x) H locs → (∀ (y : σ) (b1 : Nat → Nat) (H1 : Heap) (locs1 : List Loc) (ls1 : Array Slot) (cells1 slots1 : Nat), some (Sum.inl y : σ ⊕ ρ) = some u → J y b1 ls1 → gC X0 b0 (f y) b1 cells1 slots1 → gy D t b1 A s.heap (f y) (f y) H1 locs1 → W p l e R s m args below meth c H1 locs1 cells1 slots1 Q (F0 m pc ls1 [])) → (∀ r, u = Sum.inr r → r = o) → W p l e R s m args below meth c H locs cells slots Q (F0 m pc ls [])) :
    ∀ (k : Nat) (x : σ) (b : Nat → Nat) (H : Heap) (locs : List Loc) (ls : Array Slot) (cells slots : Nat), gI body k x = some o → J x b ls → gC X0 b0 (f x) b cells slots → gy D t b A s.heap (f x) (f x) H locs → W p l e R s m args below meth c H locs cells slots Q (F0 m pc ls []) := by
  intro k
  induction k with
  | zero =>
    intro x b H locs ls cells slots hf
    cases hf
  | succ k ih =>
    intro x b H locs ls cells slots hf hJ hC Y
    cases hb9 : body x with
    | none => rw [gI_n hb9] at hf; cases hf
    | some u =>
      refine step x u b H locs ls cells slots hb9 hJ hC Y (fun y b1 H1 locs1 ls1 cells1 slots1 hu hJ1 hC1 Y1 => ?_) (fun r hu => ?_)
      · cases hu
        rw [gI_l hb9] at hf
        exact ih y b1 H1 locs1 ls1 cells1 slots1 hf hJ1 hC1 Y1
      · subst hu
        rw [gI_r hb9] at hf
        exact Option.some.inj hf
theorem gA_cut {pcJ : Nat} {σ ρ : Type} (hC : gC X0 b0 XB b cells slots) (Y : gy D t b A s.heap XB X H locs) (F : σ → Option ρ) (u : ρ) (f : σ → gX) (J : σ → (Nat → Nat) → Array Slot → Prop) (S9 : σ → (Nat → Nat) → List Value)
    (K : ∀ (x : σ) (b : Nat → Nat) (H1 : Heap) (locs1 : List Loc) (ls1 : Array Slot) (cells1 slots1 : Nat), F x = some u → J x b ls1 → gC X0 b0 (f x) b cells1 slots1 → gy D t b A s.heap (f x) (f x) H1 locs1 → W p l e R s m args below meth c H1 locs1 cells1 slots1 Q (F0 m pcJ ls1 (S9 x b)))
    (B : (∀ (x : σ) (b : Nat → Nat) (H1 : Heap) (locs1 : List Loc) (ls1 : Array Slot) (cells1 slots1 : Nat), F x = some u → J x b ls1 → gC X0 b0 (f x) b cells1 slots1 → gy D t b A s.heap (f x) (f x) H1 locs1 → W p l e R s m args below meth c H1 locs1 cells1 slots1 Q (F0 m pcJ ls1 (S9 x b))) → W p l e R s m args below meth c H locs cells slots Q (F0 m pc ls st0)) : W p l e R s m args below meth c H locs cells slots Q (F0 m pc ls st0) := B K
end GYA
