/-! THE LAW'S LOOP as a program of numbers; printed by an own text program -/
def f_Lw_law_1272 (X : gX) (Ls : Nat) (xs : Nat → Int32) (i4 : Int32) : Option ((gX × Int32) ⊕ (gR × gX)) := some (Sum.inl (X, i4 + 4))
def f_Lw_law_193 (X : gX) (Ls : Nat) (xs : Nat → Int32) (i4 : Int32) : Option ((gX × Int32) ⊕ (gR × gX)) := f_Lw_law_1272 X Ls xs i4
def f_Lw_law_321 (X : gX) (Ls : Nat) (xs : Nat → Int32) (i4 : Int32) : Option ((gX × Int32) ⊕ (gR × gX)) := f_Lw_law_1272 X Ls xs i4
def f_Lw_law_377 (X : gX) (Ls : Nat) (xs : Nat → Int32) (i4 : Int32) : Option ((gX × Int32) ⊕ (gR × gX)) := f_Lw_law_1272 X Ls xs i4
def f_Lw_law_421 (X : gX) (Ls : Nat) (xs : Nat → Int32) (i4 : Int32) : Option ((gX × Int32) ⊕ (gR × gX)) := f_Lw_law_1272 X Ls xs i4
def f_Lw_law_477 (X : gX) (Ls : Nat) (xs : Nat → Int32) (i4 : Int32) : Option ((gX × Int32) ⊕ (gR × gX)) := f_Lw_law_1272 X Ls xs i4
def f_Lw_law_561 (X : gX) (Ls : Nat) (xs : Nat → Int32) (i4 : Int32) : Option ((gX × Int32) ⊕ (gR × gX)) := f_Lw_law_1272 X Ls xs i4
def f_Lw_law_528 (X : gX) (Ls : Nat) (xs : Nat → Int32) (i4 : Int32) (i5 : Int32) (i1000 : Int32) (i1001 : Int32) : Option ((gX × Int32) ⊕ (gR × gX)) := gCi (f_Mo_finish X i1001 i1000) (fun x41 X41 => gCi (f_Mo_thrown X41) (fun x42 X42 => (if x42 = i5 then (if i5 = (0 : Int32) then (if ((X42.I 116 0).toInt64) = x41.toInt64 then f_Lw_law_561 X42 Ls xs i4 else gLf (some (gR.i 0, X42))) else f_Lw_law_561 X42 Ls xs i4) else gLf (some (gR.i 0, X42)))))
def f_Lw_law_501 (X : gX) (Ls : Nat) (xs : Nat → Int32) (i4 : Int32) (i1000 : Int32) (i1001 : Int32) : Option ((gX × Int32) ⊕ (gR × gX)) := gCi (f_Lw_finish X i1001 i1000) (fun x39 X39 => (if gIn (i4 + 1) Ls then (if gIn (i4 + 2) Ls then (if (xs (gn (i4 + 2))) = (0 : Int32) then f_Lw_law_528 X39 Ls xs i4 x39 0 (xs (gn (i4 + 1))) else f_Lw_law_528 X39 Ls xs i4 x39 1 (xs (gn (i4 + 1)))) else none) else none))
def f_Lw_law_605 (X : gX) (Ls : Nat) (xs : Nat → Int32) (i4 : Int32) : Option ((gX × Int32) ⊕ (gR × gX)) := f_Lw_law_1272 X Ls xs i4
def f_Lw_law_649 (X : gX) (Ls : Nat) (xs : Nat → Int32) (i4 : Int32) : Option ((gX × Int32) ⊕ (gR × gX)) := f_Lw_law_1272 X Ls xs i4
def f_Lw_law_717 (X : gX) (Ls : Nat) (xs : Nat → Int32) (i4 : Int32) : Option ((gX × Int32) ⊕ (gR × gX)) := f_Lw_law_1272 X Ls xs i4
def f_Lw_law_868 (X : gX) (Ls : Nat) (xs : Nat → Int32) (i4 : Int32) : Option ((gX × Int32) ⊕ (gR × gX)) := f_Lw_law_1272 X Ls xs i4
def f_Lw_law_972 (X : gX) (Ls : Nat) (xs : Nat → Int32) (i4 : Int32) : Option ((gX × Int32) ⊕ (gR × gX)) := f_Lw_law_1272 X Ls xs i4
def f_Lw_law_1040 (X : gX) (Ls : Nat) (xs : Nat → Int32) (i4 : Int32) : Option ((gX × Int32) ⊕ (gR × gX)) := f_Lw_law_1272 X Ls xs i4
def f_Lw_law_1108 (X : gX) (Ls : Nat) (xs : Nat → Int32) (i4 : Int32) : Option ((gX × Int32) ⊕ (gR × gX)) := f_Lw_law_1272 X Ls xs i4
def f_Lw_law_1176 (X : gX) (Ls : Nat) (xs : Nat → Int32) (i4 : Int32) : Option ((gX × Int32) ⊕ (gR × gX)) := f_Lw_law_1272 X Ls xs i4
def f_Lw_law_1244 (X : gX) (Ls : Nat) (xs : Nat → Int32) (i4 : Int32) : Option ((gX × Int32) ⊕ (gR × gX)) := f_Lw_law_1272 X Ls xs i4
def f_Lw_law_23 (X : gX) (Ls : Nat) (xs : Nat → Int32) (i4 : Int32) : Option ((gX × Int32) ⊕ (gR × gX)) := (if ((nI Ls) - 4) < i4 then gLf (some (gR.i 1, X)) else (if gIn i4 Ls then (if ((xs (gn i4)) &&& 31) = (0 : Int32) then (if gIn (i4 + 1) Ls then gCi (f_Lw_open X (xs (gn (i4 + 1)))) (fun x4 X4 => (if gIn (i4 + 1) Ls then gCi (f_Mo_open X4 (xs (gn (i4 + 1)))) (fun x5 X5 => gCi (f_Mo_thrown X5) (fun x6 X6 => (if x6 = x4 then (if x4 = (0 : Int32) then (if ((X6.I 116 0).toInt64) = x5.toInt64 then f_Lw_law_193 X6 Ls xs i4 else gLf (some (gR.i 0, X6))) else f_Lw_law_193 X6 Ls xs i4) else gLf (some (gR.i 0, X6))))) else none)) else none) else (if ((xs (gn i4)) &&& 31) = (1 : Int32) then (if gIn (i4 + 1) Ls then (if gIn (i4 + 2) Ls then gCi (f_Lw_limits X (xs (gn (i4 + 1))) (xs (gn (i4 + 2)))) (fun x10 X10 => (if gIn (i4 + 1) Ls then (if gIn (i4 + 2) Ls then gCv (f_Mo_limits X10 (xs (gn (i4 + 1))) (xs (gn (i4 + 2)))) (fun X11 => gCi (f_Mo_thrown X11) (fun x12 X12 => (if x12 = x10 then f_Lw_law_1272 X12 Ls xs i4 else gLf (some (gR.i 0, X12))))) else none) else none)) else none) else none) else (if ((xs (gn i4)) &&& 31) = (2 : Int32) then (if gIn (i4 + 1) Ls then (if gIn (i4 + 2) Ls then (if gIn (i4 + 3) Ls then gCi (f_Lw_add X (xs (gn (i4 + 1))) (xs (gn (i4 + 2))) (xs (gn (i4 + 3)))) (fun x14 X14 => (if gIn (i4 + 1) Ls then (if gIn (i4 + 2) Ls then (if gIn (i4 + 3) Ls then gCi (f_Mo_add X14 (xs (gn (i4 + 1))) (xs (gn (i4 + 2))) (xs (gn (i4 + 3)))) (fun x15 X15 => gCi (f_Mo_thrown X15) (fun x16 X16 => (if x16 = x14 then (if x14 = (0 : Int32) then (if ((X16.I 116 0).toInt64) = x15.toInt64 then f_Lw_law_321 X16 Ls xs i4 else gLf (some (gR.i 0, X16))) else f_Lw_law_321 X16 Ls xs i4) else gLf (some (gR.i 0, X16))))) else none) else none) else none)) else none) else none) else none) else (if ((xs (gn i4)) &&& 31) = (3 : Int32) then (if gIn (i4 + 1) Ls then gCi (f_Lw_erase X (xs (gn (i4 + 1)))) (fun x20 X20 => (if gIn (i4 + 1) Ls then gCi (f_Mo_erase X20 (xs (gn (i4 + 1)))) (fun x21 X21 => gCi (f_Mo_thrown X21) (fun x22 X22 => (if x22 = x20 then (if x20 = (0 : Int32) then (if ((X22.I 116 0).toInt64) = x21.toInt64 then f_Lw_law_377 X22 Ls xs i4 else gLf (some (gR.i 0, X22))) else f_Lw_law_377 X22 Ls xs i4) else gLf (some (gR.i 0, X22))))) else none)) else none) else (if ((xs (gn i4)) &&& 31) = (4 : Int32) then gCi (f_Lw_flush X) (fun x26 X26 => gCi (f_Mo_flush X26) (fun x27 X27 => gCi (f_Mo_thrown X27) (fun x28 X28 => (if x28 = x26 then (if x26 = (0 : Int32) then (if ((X28.I 116 0).toInt64) = x27.toInt64 then f_Lw_law_421 X28 Ls xs i4 else gLf (some (gR.i 0, X28))) else f_Lw_law_421 X28 Ls xs i4) else gLf (some (gR.i 0, X28)))))) else (if ((xs (gn i4)) &&& 31) = (5 : Int32) then (if gIn (i4 + 1) Ls then gCi (f_Lw_merge X (xs (gn (i4 + 1)))) (fun x32 X32 => (if gIn (i4 + 1) Ls then gCi (f_Mo_merge X32 (xs (gn (i4 + 1)))) (fun x33 X33 => gCi (f_Mo_thrown X33) (fun x34 X34 => (if x34 = x32 then (if x32 = (0 : Int32) then (if ((X34.I 116 0).toInt64) = x33.toInt64 then f_Lw_law_477 X34 Ls xs i4 else gLf (some (gR.i 0, X34))) else f_Lw_law_477 X34 Ls xs i4) else gLf (some (gR.i 0, X34))))) else none)) else none) else (if ((xs (gn i4)) &&& 31) = (6 : Int32) then (if gIn (i4 + 1) Ls then (if gIn (i4 + 2) Ls then (if (xs (gn (i4 + 2))) = (0 : Int32) then f_Lw_law_501 X Ls xs i4 0 (xs (gn (i4 + 1))) else f_Lw_law_501 X Ls xs i4 1 (xs (gn (i4 + 1)))) else none) else none) else (if ((xs (gn i4)) &&& 31) = (7 : Int32) then gCi (f_Lw_prepare X) (fun x46 X46 => gCi (f_Mo_prepare X46) (fun x47 X47 => gCi (f_Mo_thrown X47) (fun x48 X48 => (if x48 = x46 then (if x46 = (0 : Int32) then (if ((X48.I 116 0).toInt64) = x47.toInt64 then f_Lw_law_605 X48 Ls xs i4 else gLf (some (gR.i 0, X48))) else f_Lw_law_605 X48 Ls xs i4) else gLf (some (gR.i 0, X48)))))) else (if ((xs (gn i4)) &&& 31) = (8 : Int32) then gCi (f_Lw_commit X) (fun x52 X52 => gCi (f_Mo_commit X52) (fun x53 X53 => gCi (f_Mo_thrown X53) (fun x54 X54 => (if x54 = x52 then (if x52 = (0 : Int32) then (if ((X54.I 116 0).toInt64) = x53.toInt64 then f_Lw_law_649 X54 Ls xs i4 else gLf (some (gR.i 0, X54))) else f_Lw_law_649 X54 Ls xs i4) else gLf (some (gR.i 0, X54)))))) else (if ((xs (gn i4)) &&& 31) = (9 : Int32) then gCi (f_Lw_rollback X) (fun x58 X58 => gCv (f_Mo_rollback X58) (fun X59 => gCi (f_Mo_thrown X59) (fun x60 X60 => (if x60 = x58 then f_Lw_law_1272 X60 Ls xs i4 else gLf (some (gR.i 0, X60)))))) else (if ((xs (gn i4)) &&& 31) = (10 : Int32) then gCi (f_Lw_close X) (fun x62 X62 => gCi (f_Mo_close0 X62) (fun x63 X63 => gCi (f_Mo_thrown X63) (fun x64 X64 => (if x64 = x62 then (if x62 = (0 : Int32) then (if ((X64.I 116 0).toInt64) = x63.toInt64 then f_Lw_law_717 X64 Ls xs i4 else gLf (some (gR.i 0, X64))) else f_Lw_law_717 X64 Ls xs i4) else gLf (some (gR.i 0, X64)))))) else (if ((xs (gn i4)) &&& 31) = (11 : Int32) then (if gIn (i4 + 1) Ls then gCi (f_Lw_power X (xs (gn (i4 + 1)))) (fun x68 X68 => (if gIn (i4 + 1) Ls then gCv (f_Mo_power X68 (xs (gn (i4 + 1)))) (fun X69 => gCi (f_Mo_thrown X69) (fun x70 X70 => (if x70 = x68 then f_Lw_law_1272 X70 Ls xs i4 else gLf (some (gR.i 0, X70))))) else none)) else none) else (if ((xs (gn i4)) &&& 31) = (12 : Int32) then gCv (f_Le_crash X) (fun X72 => gCv (f_Mo_crash X72) (fun X73 => f_Lw_law_1272 X73 Ls xs i4)) else (if ((xs (gn i4)) &&& 31) = (13 : Int32) then (if gIn (i4 + 1) Ls then (if gIn (i4 + 2) Ls then gCi (f_Lw_harm X (xs (gn (i4 + 1))) (xs (gn (i4 + 2)))) (fun x74 X74 => (if gIn (i4 + 1) Ls then (if gIn (i4 + 2) Ls then gCv (f_Mo_harm X74 (xs (gn (i4 + 1))) (xs (gn (i4 + 2)))) (fun X75 => gCi (f_Mo_thrown X75) (fun x76 X76 => (if x76 = x74 then f_Lw_law_1272 X76 Ls xs i4 else gLf (some (gR.i 0, X76))))) else none) else none)) else none) else none) else (if ((xs (gn i4)) &&& 31) = (14 : Int32) then (if gIn (i4 + 1) Ls then gCi (f_Lw_reader X (xs (gn (i4 + 1)))) (fun x78 X78 => (if gIn (i4 + 1) Ls then gCi (f_Mo_reader X78 (xs (gn (i4 + 1)))) (fun x79 X79 => gCi (f_Mo_thrown X79) (fun x80 X80 => (if x80 = x78 then (if x78 = (0 : Int32) then (if ((X80.I 116 0).toInt64) = x79.toInt64 then f_Lw_law_868 X80 Ls xs i4 else gLf (some (gR.i 0, X80))) else f_Lw_law_868 X80 Ls xs i4) else gLf (some (gR.i 0, X80))))) else none)) else none) else (if ((xs (gn i4)) &&& 31) = (15 : Int32) then (if gIn (i4 + 1) Ls then gCi (f_Lw_release X (xs (gn (i4 + 1)))) (fun x84 X84 => (if gIn (i4 + 1) Ls then gCv (f_Mo_release X84 (xs (gn (i4 + 1)))) (fun X85 => gCi (f_Mo_thrown X85) (fun x86 X86 => (if x86 = x84 then f_Lw_law_1272 X86 Ls xs i4 else gLf (some (gR.i 0, X86))))) else none)) else none) else (if ((xs (gn i4)) &&& 31) = (16 : Int32) then (if gIn (i4 + 1) Ls then (if gIn (i4 + 2) Ls then gCi (f_Lw_value X (xs (gn (i4 + 1))) (xs (gn (i4 + 2)))) (fun x88 X88 => (if gIn (i4 + 1) Ls then (if gIn (i4 + 2) Ls then gCi (f_Mo_value X88 (xs (gn (i4 + 1))) (xs (gn (i4 + 2)))) (fun x89 X89 => gCi (f_Mo_thrown X89) (fun x90 X90 => (if x90 = x88 then (if x88 = (0 : Int32) then (if ((X90.I 116 0).toInt64) = x89.toInt64 then f_Lw_law_972 X90 Ls xs i4 else gLf (some (gR.i 0, X90))) else f_Lw_law_972 X90 Ls xs i4) else gLf (some (gR.i 0, X90))))) else none) else none)) else none) else none) else (if ((xs (gn i4)) &&& 31) = (17 : Int32) then (if gIn (i4 + 1) Ls then (if gIn (i4 + 2) Ls then gCi (f_Lw_many X (xs (gn (i4 + 1))) (xs (gn (i4 + 2)))) (fun x94 X94 => (if gIn (i4 + 1) Ls then (if gIn (i4 + 2) Ls then gCi (f_Mo_many X94 (xs (gn (i4 + 1))) (xs (gn (i4 + 2)))) (fun x95 X95 => gCi (f_Mo_thrown X95) (fun x96 X96 => (if x96 = x94 then (if x94 = (0 : Int32) then (if ((X96.I 116 0).toInt64) = x95.toInt64 then f_Lw_law_1040 X96 Ls xs i4 else gLf (some (gR.i 0, X96))) else f_Lw_law_1040 X96 Ls xs i4) else gLf (some (gR.i 0, X96))))) else none) else none)) else none) else none) else (if ((xs (gn i4)) &&& 31) = (18 : Int32) then (if gIn (i4 + 1) Ls then (if gIn (i4 + 2) Ls then gCi (f_Lw_serial X (xs (gn (i4 + 1))) (xs (gn (i4 + 2)))) (fun x100 X100 => (if gIn (i4 + 1) Ls then (if gIn (i4 + 2) Ls then gCi (f_Mo_serial X100 (xs (gn (i4 + 1))) (xs (gn (i4 + 2)))) (fun x101 X101 => gCi (f_Mo_thrown X101) (fun x102 X102 => (if x102 = x100 then (if x100 = (0 : Int32) then (if ((X102.I 116 0).toInt64) = x101.toInt64 then f_Lw_law_1108 X102 Ls xs i4 else gLf (some (gR.i 0, X102))) else f_Lw_law_1108 X102 Ls xs i4) else gLf (some (gR.i 0, X102))))) else none) else none)) else none) else none) else (if ((xs (gn i4)) &&& 31) = (19 : Int32) then (if gIn (i4 + 1) Ls then (if gIn (i4 + 2) Ls then gCi (f_Lw_seen X (xs (gn (i4 + 1))) (xs (gn (i4 + 2)))) (fun x106 X106 => (if gIn (i4 + 1) Ls then (if gIn (i4 + 2) Ls then gCi (f_Mo_seen X106 (xs (gn (i4 + 1))) (xs (gn (i4 + 2)))) (fun x107 X107 => gCi (f_Mo_thrown X107) (fun x108 X108 => (if x108 = x106 then (if x106 = (0 : Int32) then (if ((X108.I 116 0).toInt64) = x107.toInt64 then f_Lw_law_1176 X108 Ls xs i4 else gLf (some (gR.i 0, X108))) else f_Lw_law_1176 X108 Ls xs i4) else gLf (some (gR.i 0, X108))))) else none) else none)) else none) else none) else (if ((xs (gn i4)) &&& 31) = (20 : Int32) then (if gIn (i4 + 1) Ls then (if gIn (i4 + 2) Ls then gCi (f_Lw_segment X (xs (gn (i4 + 1))) (xs (gn (i4 + 2)))) (fun x112 X112 => (if gIn (i4 + 1) Ls then (if gIn (i4 + 2) Ls then gCi (f_Mo_segment X112 (xs (gn (i4 + 1))) (xs (gn (i4 + 2)))) (fun x113 X113 => gCi (f_Mo_thrown X113) (fun x114 X114 => (if x114 = x112 then (if x112 = (0 : Int32) then (if ((X114.I 116 0).toInt64) = x113.toInt64 then f_Lw_law_1244 X114 Ls xs i4 else gLf (some (gR.i 0, X114))) else f_Lw_law_1244 X114 Ls xs i4) else gLf (some (gR.i 0, X114))))) else none) else none)) else none) else none) else (if ((xs (gn i4)) &&& 31) = (21 : Int32) then (if gIn (i4 + 1) Ls then gCi (f_Le_count X (xs (gn (i4 + 1)))) (fun x118 X118 => (if gIn (i4 + 1) Ls then gCi (f_Mo_count X118 (xs (gn (i4 + 1)))) (fun x119 X119 => (if x118 = x119 then f_Lw_law_1272 X119 Ls xs i4 else gLf (some (gR.i 0, X119)))) else none)) else none) else f_Lw_law_1272 X Ls xs i4)))))))))))))))))))))) else none))
def f_Lw_law (X : gX) (Ls : Nat) (xs : Nat → Int32) (i4 : Int32) : Option (gR × gX) := gI (fun s : gX × Int32 => f_Lw_law_23 s.1 Ls xs s.2) gK (X, i4)
set_option maxHeartbeats 8000000 in
set_option maxRecDepth 100000 in
theorem law_loop {p : Program} {e : Env} {s : State} {m : MethodId} {below : List Frame} {meth : Method} {c : Code} {Q : State → Prop} (l : Launch) (htr : l.stackTraces = false) {bq Ls : Nat} {xs : Nat → Int32} (hx : p.tables.exec = Jvm.exec) (hb : c.code = code) (hml : c.maxLocals = 7) (hown : s.vm.findClass "CommitLedgerLaw" = some m.cls) (hts : ∀ w ∈ gx_all, w.before #[Value.ref bq] s = true) (hX : va_X bq Ls xs s s.heap) (hbl : bq < s.heap.size) (D : va_G) (tys : List (ClassId × FieldType)) (hK : va_K D classes tys s) (z : Nat) (hz : z ≤ s.heap.size) (hY : gx_Y z D s) (A : Nat → Prop) (hAz : ∀ q : Nat, A q → z ≤ q) (hA : ∀ q : Nat, s.heap.size ≤ q → A q) (hbA : ¬ A bq) (t : Nat → ClassId) (ht : gTy t tys) (b0 : Nat → Nat) (X0 Xf : gX) (hX0 : X0.cc = 0 ∧ X0.ss = 0) (kret : ∀ (X : gX) (b : Nat → Nat) (H : Heap) (locs : List Loc) (ls : Array Slot) (cells slots : Nat), some ((gR.i 1, X) : gR × gX) = some (gR.i 1, Xf) → gC X0 b0 X b cells slots → gy D t b A s.heap X X H locs → W p l e room_1 s m #[Value.ref bq] below meth c H locs cells slots Q (F0 m 1279 ls [Value.int 1])) : ∀ (X : gX) (i4 : Int32) (b : Nat → Nat) (H : Heap) (locs : List Loc) (ls : Array Slot) (cells slots : Nat), f_Lw_law X Ls xs i4 = some (gR.i 1, Xf) → lv_has ls 7 [(4, Value.int i4), (3, Value.ref (b 116)), (2, Value.ref (b 46)), (1, Value.ref (b 0)), (0, Value.ref bq)] → gC X0 b0 X b cells slots → gy D t b A s.heap X X H locs → W p l e room_1 s m #[Value.ref bq] below meth c H locs cells slots Q (F0 m 23 ls []) := by
  have hRc : gCL + 1 - X0.cc ≤ room_1.cells := by have h9 : 200001 ≤ room_1.cells := (by decide); have h8 : gCL = 200000 := rfl; omega
  have hRs : gSL + 6 - X0.ss ≤ room_1.slots := by have h9 : 3000006 ≤ room_1.slots := (by decide); have h8 : gSL = 3000000 := rfl; omega
  intro X i4 b H locs ls cells slots hf hl hC Y
  obtain ⟨ht0, ht1, ht2, ht3, ht4, ht5, ht6, ht7, ht8⟩ := id ht
  unfold f_Lw_law at hf
  refine gA_iter (fun s : gX × Int32 => s.1) (fun (s : gX × Int32) b ls => lv_has ls 7 [(4, Value.int s.2), (0, Value.ref bq), (1, Value.ref (b 0)), (2, Value.ref (b 46)), (3, Value.ref (b 116))]) ?_ gK (X, i4) _ _ _ _ _ _ hf (lv_sub hl [0, 4, 3, 2, 1] rfl) (hC.mv Y) Y.rb
  rintro ⟨X258, i4_258⟩ u258 b H locs ls cells slots hf hl hC Y hk258 ho258
  have hl : lv_has ls 7 [(4, Value.int i4_258), (0, Value.ref bq), (1, Value.ref (b 0)), (2, Value.ref (b 46)), (3, Value.ref (b 116))] := hl
  have hC : gC X0 _ X258 b cells slots := hC
  have Y : gy D t b A s.heap X258 X258 H locs := Y
  have hf : f_Lw_law_23 X258 Ls xs i4_258 = some u258 := hf
  refine gA_cut (pcJ := 1272) hC Y (fun s : gX × Int32 => f_Lw_law_1272 s.1 Ls xs s.2) u258 (fun s => s.1) (fun s b ls => lv_has ls 7 [(4, Value.int s.2), (0, Value.ref bq), (1, Value.ref (b 0)), (2, Value.ref (b 46)), (3, Value.ref (b 116))]) (fun s b => []) ?_ (fun J1272 => ?_)
  · rintro ⟨X259, i4_259⟩ b H locs ls cells slots hf hl hC Y
    have hl : lv_has ls 7 [(4, Value.int i4_259), (0, Value.ref bq), (1, Value.ref (b 0)), (2, Value.ref (b 46)), (3, Value.ref (b 116))] := hl
    have hC : gC X0 _ X259 b cells slots := hC
    have Y : gy D t b A s.heap X259 X259 H locs := Y
    have hf : f_Lw_law_1272 X259 Ls xs i4_259 = some u258 := hf
    unfold f_Lw_law_1272 at hf
    refine lv_iinc (v := i4_259 + 4) (lv' := [(4, Value.int (i4_259 + 4)), (0, Value.ref bq), (1, Value.ref (b 0)), (2, Value.ref (b 46)), (3, Value.ref (b 116))]) hx hb d_Lw_law_1272 hl (k := 0) rfl (rfl) (by decide) rfl (fun ls hl => ?_)
    refine lv_goto (tgt := 23) hx hb d_Lw_law_1275 (by decide) ?_
    exact hk258 _ _ _ _ _ _ _ hf (lv_sub hl [0, 1, 2, 3, 4] rfl) (hC.mv Y) Y.rb
  refine gA_cut (pcJ := 1244) hC Y (fun s : gX × Int32 => f_Lw_law_1244 s.1 Ls xs s.2) u258 (fun s => s.1) (fun s b ls => lv_has ls 7 [(4, Value.int s.2), (0, Value.ref bq), (1, Value.ref (b 0)), (2, Value.ref (b 46)), (3, Value.ref (b 116))]) (fun s b => []) ?_ (fun J1244 => ?_)
  · rintro ⟨X260, i4_260⟩ b H locs ls cells slots hf hl hC Y
    have hl : lv_has ls 7 [(4, Value.int i4_260), (0, Value.ref bq), (1, Value.ref (b 0)), (2, Value.ref (b 46)), (3, Value.ref (b 116))] := hl
    have hC : gC X0 _ X260 b cells slots := hC
    have Y : gy D t b A s.heap X260 X260 H locs := Y
    have hf : f_Lw_law_1244 X260 Ls xs i4_260 = some u258 := hf
    unfold f_Lw_law_1244 at hf
    refine lv_goto (tgt := 1272) hx hb d_Lw_law_1244 (by decide) ?_
    exact J1272 (X260, i4_260) _ _ _ _ _ _ hf (lv_sub hl [0, 1, 2, 3, 4] rfl) (hC.mv Y) Y.rb
  refine gA_cut (pcJ := 1176) hC Y (fun s : gX × Int32 => f_Lw_law_1176 s.1 Ls xs s.2) u258 (fun s => s.1) (fun s b ls => lv_has ls 7 [(4, Value.int s.2), (0, Value.ref bq), (1, Value.ref (b 0)), (2, Value.ref (b 46)), (3, Value.ref (b 116))]) (fun s b => []) ?_ (fun J1176 => ?_)
  · rintro ⟨X261, i4_261⟩ b H locs ls cells slots hf hl hC Y
    have hl : lv_has ls 7 [(4, Value.int i4_261), (0, Value.ref bq), (1, Value.ref (b 0)), (2, Value.ref (b 46)), (3, Value.ref (b 116))] := hl
    have hC : gC X0 _ X261 b cells slots := hC
    have Y : gy D t b A s.heap X261 X261 H locs := Y
    have hf : f_Lw_law_1176 X261 Ls xs i4_261 = some u258 := hf
    unfold f_Lw_law_1176 at hf
    refine lv_goto (tgt := 1272) hx hb d_Lw_law_1176 (by decide) ?_
    exact J1272 (X261, i4_261) _ _ _ _ _ _ hf (lv_sub hl [0, 1, 2, 3, 4] rfl) (hC.mv Y) Y.rb
  refine gA_cut (pcJ := 1108) hC Y (fun s : gX × Int32 => f_Lw_law_1108 s.1 Ls xs s.2) u258 (fun s => s.1) (fun s b ls => lv_has ls 7 [(4, Value.int s.2), (0, Value.ref bq), (1, Value.ref (b 0)), (2, Value.ref (b 46)), (3, Value.ref (b 116))]) (fun s b => []) ?_ (fun J1108 => ?_)
  · rintro ⟨X262, i4_262⟩ b H locs ls cells slots hf hl hC Y
    have hl : lv_has ls 7 [(4, Value.int i4_262), (0, Value.ref bq), (1, Value.ref (b 0)), (2, Value.ref (b 46)), (3, Value.ref (b 116))] := hl
    have hC : gC X0 _ X262 b cells slots := hC
    have Y : gy D t b A s.heap X262 X262 H locs := Y
    have hf : f_Lw_law_1108 X262 Ls xs i4_262 = some u258 := hf
    unfold f_Lw_law_1108 at hf
    refine lv_goto (tgt := 1272) hx hb d_Lw_law_1108 (by decide) ?_
    exact J1272 (X262, i4_262) _ _ _ _ _ _ hf (lv_sub hl [0, 1, 2, 3, 4] rfl) (hC.mv Y) Y.rb
  refine gA_cut (pcJ := 1040) hC Y (fun s : gX × Int32 => f_Lw_law_1040 s.1 Ls xs s.2) u258 (fun s => s.1) (fun s b ls => lv_has ls 7 [(4, Value.int s.2), (0, Value.ref bq), (1, Value.ref (b 0)), (2, Value.ref (b 46)), (3, Value.ref (b 116))]) (fun s b => []) ?_ (fun J1040 => ?_)
  · rintro ⟨X263, i4_263⟩ b H locs ls cells slots hf hl hC Y
    have hl : lv_has ls 7 [(4, Value.int i4_263), (0, Value.ref bq), (1, Value.ref (b 0)), (2, Value.ref (b 46)), (3, Value.ref (b 116))] := hl
    have hC : gC X0 _ X263 b cells slots := hC
    have Y : gy D t b A s.heap X263 X263 H locs := Y
    have hf : f_Lw_law_1040 X263 Ls xs i4_263 = some u258 := hf
    unfold f_Lw_law_1040 at hf
    refine lv_goto (tgt := 1272) hx hb d_Lw_law_1040 (by decide) ?_
    exact J1272 (X263, i4_263) _ _ _ _ _ _ hf (lv_sub hl [0, 1, 2, 3, 4] rfl) (hC.mv Y) Y.rb
  refine gA_cut (pcJ := 972) hC Y (fun s : gX × Int32 => f_Lw_law_972 s.1 Ls xs s.2) u258 (fun s => s.1) (fun s b ls => lv_has ls 7 [(4, Value.int s.2), (0, Value.ref bq), (1, Value.ref (b 0)), (2, Value.ref (b 46)), (3, Value.ref (b 116))]) (fun s b => []) ?_ (fun J972 => ?_)
  · rintro ⟨X264, i4_264⟩ b H locs ls cells slots hf hl hC Y
    have hl : lv_has ls 7 [(4, Value.int i4_264), (0, Value.ref bq), (1, Value.ref (b 0)), (2, Value.ref (b 46)), (3, Value.ref (b 116))] := hl
    have hC : gC X0 _ X264 b cells slots := hC
    have Y : gy D t b A s.heap X264 X264 H locs := Y
    have hf : f_Lw_law_972 X264 Ls xs i4_264 = some u258 := hf
    unfold f_Lw_law_972 at hf
    refine lv_goto (tgt := 1272) hx hb d_Lw_law_972 (by decide) ?_
    exact J1272 (X264, i4_264) _ _ _ _ _ _ hf (lv_sub hl [0, 1, 2, 3, 4] rfl) (hC.mv Y) Y.rb
  refine gA_cut (pcJ := 868) hC Y (fun s : gX × Int32 => f_Lw_law_868 s.1 Ls xs s.2) u258 (fun s => s.1) (fun s b ls => lv_has ls 7 [(4, Value.int s.2), (0, Value.ref bq), (1, Value.ref (b 0)), (2, Value.ref (b 46)), (3, Value.ref (b 116))]) (fun s b => []) ?_ (fun J868 => ?_)
  · rintro ⟨X265, i4_265⟩ b H locs ls cells slots hf hl hC Y
    have hl : lv_has ls 7 [(4, Value.int i4_265), (0, Value.ref bq), (1, Value.ref (b 0)), (2, Value.ref (b 46)), (3, Value.ref (b 116))] := hl
    have hC : gC X0 _ X265 b cells slots := hC
    have Y : gy D t b A s.heap X265 X265 H locs := Y
    have hf : f_Lw_law_868 X265 Ls xs i4_265 = some u258 := hf
    unfold f_Lw_law_868 at hf
    refine lv_goto (tgt := 1272) hx hb d_Lw_law_868 (by decide) ?_
    exact J1272 (X265, i4_265) _ _ _ _ _ _ hf (lv_sub hl [0, 1, 2, 3, 4] rfl) (hC.mv Y) Y.rb
  refine gA_cut (pcJ := 717) hC Y (fun s : gX × Int32 => f_Lw_law_717 s.1 Ls xs s.2) u258 (fun s => s.1) (fun s b ls => lv_has ls 7 [(4, Value.int s.2), (0, Value.ref bq), (1, Value.ref (b 0)), (2, Value.ref (b 46)), (3, Value.ref (b 116))]) (fun s b => []) ?_ (fun J717 => ?_)
  · rintro ⟨X266, i4_266⟩ b H locs ls cells slots hf hl hC Y
    have hl : lv_has ls 7 [(4, Value.int i4_266), (0, Value.ref bq), (1, Value.ref (b 0)), (2, Value.ref (b 46)), (3, Value.ref (b 116))] := hl
    have hC : gC X0 _ X266 b cells slots := hC
    have Y : gy D t b A s.heap X266 X266 H locs := Y
    have hf : f_Lw_law_717 X266 Ls xs i4_266 = some u258 := hf
    unfold f_Lw_law_717 at hf
    refine lv_goto (tgt := 1272) hx hb d_Lw_law_717 (by decide) ?_
    exact J1272 (X266, i4_266) _ _ _ _ _ _ hf (lv_sub hl [0, 1, 2, 3, 4] rfl) (hC.mv Y) Y.rb
  refine gA_cut (pcJ := 649) hC Y (fun s : gX × Int32 => f_Lw_law_649 s.1 Ls xs s.2) u258 (fun s => s.1) (fun s b ls => lv_has ls 7 [(4, Value.int s.2), (0, Value.ref bq), (1, Value.ref (b 0)), (2, Value.ref (b 46)), (3, Value.ref (b 116))]) (fun s b => []) ?_ (fun J649 => ?_)
  · rintro ⟨X267, i4_267⟩ b H locs ls cells slots hf hl hC Y
    have hl : lv_has ls 7 [(4, Value.int i4_267), (0, Value.ref bq), (1, Value.ref (b 0)), (2, Value.ref (b 46)), (3, Value.ref (b 116))] := hl
    have hC : gC X0 _ X267 b cells slots := hC
    have Y : gy D t b A s.heap X267 X267 H locs := Y
    have hf : f_Lw_law_649 X267 Ls xs i4_267 = some u258 := hf
    unfold f_Lw_law_649 at hf
    refine lv_goto (tgt := 1272) hx hb d_Lw_law_649 (by decide) ?_
    exact J1272 (X267, i4_267) _ _ _ _ _ _ hf (lv_sub hl [0, 1, 2, 3, 4] rfl) (hC.mv Y) Y.rb
  refine gA_cut (pcJ := 605) hC Y (fun s : gX × Int32 => f_Lw_law_605 s.1 Ls xs s.2) u258 (fun s => s.1) (fun s b ls => lv_has ls 7 [(4, Value.int s.2), (0, Value.ref bq), (1, Value.ref (b 0)), (2, Value.ref (b 46)), (3, Value.ref (b 116))]) (fun s b => []) ?_ (fun J605 => ?_)
  · rintro ⟨X268, i4_268⟩ b H locs ls cells slots hf hl hC Y
    have hl : lv_has ls 7 [(4, Value.int i4_268), (0, Value.ref bq), (1, Value.ref (b 0)), (2, Value.ref (b 46)), (3, Value.ref (b 116))] := hl
    have hC : gC X0 _ X268 b cells slots := hC
    have Y : gy D t b A s.heap X268 X268 H locs := Y
    have hf : f_Lw_law_605 X268 Ls xs i4_268 = some u258 := hf
    unfold f_Lw_law_605 at hf
    refine lv_goto (tgt := 1272) hx hb d_Lw_law_605 (by decide) ?_
    exact J1272 (X268, i4_268) _ _ _ _ _ _ hf (lv_sub hl [0, 1, 2, 3, 4] rfl) (hC.mv Y) Y.rb
  refine gA_cut (pcJ := 561) hC Y (fun s : gX × Int32 => f_Lw_law_561 s.1 Ls xs s.2) u258 (fun s => s.1) (fun s b ls => lv_has ls 7 [(4, Value.int s.2), (0, Value.ref bq), (1, Value.ref (b 0)), (2, Value.ref (b 46)), (3, Value.ref (b 116))]) (fun s b => []) ?_ (fun J561 => ?_)
  · rintro ⟨X269, i4_269⟩ b H locs ls cells slots hf hl hC Y
    have hl : lv_has ls 7 [(4, Value.int i4_269), (0, Value.ref bq), (1, Value.ref (b 0)), (2, Value.ref (b 46)), (3, Value.ref (b 116))] := hl
    have hC : gC X0 _ X269 b cells slots := hC
    have Y : gy D t b A s.heap X269 X269 H locs := Y
    have hf : f_Lw_law_561 X269 Ls xs i4_269 = some u258 := hf
    unfold f_Lw_law_561 at hf
    refine lv_goto (tgt := 1272) hx hb d_Lw_law_561 (by decide) ?_
    exact J1272 (X269, i4_269) _ _ _ _ _ _ hf (lv_sub hl [0, 1, 2, 3, 4] rfl) (hC.mv Y) Y.rb
  refine gA_cut (pcJ := 528) hC Y (fun s : gX × Int32 × Int32 × Int32 × Int32 => f_Lw_law_528 s.1 Ls xs s.2.1 s.2.2.1 s.2.2.2.1 s.2.2.2.2) u258 (fun s => s.1) (fun s b ls => lv_has ls 7 [(4, Value.int s.2.1), (5, Value.int s.2.2.1), (0, Value.ref bq), (1, Value.ref (b 0)), (2, Value.ref (b 46)), (3, Value.ref (b 116))]) (fun s b => [Value.int s.2.2.2.1, Value.int s.2.2.2.2, Value.ref (b 46)]) ?_ (fun J528 => ?_)
  · rintro ⟨X270, i4_270, i5_270, i1000_270, i1001_270⟩ b H locs ls cells slots hf hl hC Y
    have hl : lv_has ls 7 [(4, Value.int i4_270), (5, Value.int i5_270), (0, Value.ref bq), (1, Value.ref (b 0)), (2, Value.ref (b 46)), (3, Value.ref (b 116))] := hl
    have hC : gC X0 _ X270 b cells slots := hC
    have Y : gy D t b A s.heap X270 X270 H locs := Y
    have hf : f_Lw_law_528 X270 Ls xs i4_270 i5_270 i1000_270 i1001_270 = some u258 := hf
    unfold f_Lw_law_528 at hf
    refine W.eq (g2 := F0 m 528 ls [Value.int i1000_270, Value.int i1001_270, Value.ref (b 46)]) rfl ?_
    obtain ⟨x271, X271, hF271, hf⟩ := gCi_el hf
    refine gy_callI (rm := { frames := 5, cells := 0, slots := 0, locals := 105 }) (ig := .invokevirtual 122) (av := [Value.ref (b 46), Value.int i1001_270, Value.int i1000_270]) Y (fun ws h hS hw => K_Mo_finish l htr D tys z _ ws h hS t ht b X270 hw i1001_270 i1000_270 (gR.i x271, X271) hF271) (gx_invV (As := [Value.int i1001_270, Value.int i1000_270]) (rest := []) hx hb hown hts km_Lw_122 kI_Mo_finish kV_Mo_finish kc_Mo_finish (by decide) (show (parseMethodDescriptor y_Mo_finish.desc).map (fun d => d.parameters.length) = some 2 by decide +kernel) (gy_recv (ci := 8) hK Y rfl gF_46) rfl rfl d_Lw_law_528) (gx_cw (z := 0) hts kc_Mo_finish kN_Mo rfl rfl ⟨Nat.le_of_ble_eq_true rfl, Nat.le_of_ble_eq_true rfl⟩) hb hml hz hK hY hAz hA hl.1 (lv_room (Nat.le_of_ble_eq_true rfl)) d_Lw_law_528 ⟨hC.rc0 hRc, hC.rs0 hRs⟩ (fun H locs Y => ?_)
    refine lv_istore (lv' := [(6, Value.int x271), (4, Value.int i4_270), (5, Value.int i5_270), (0, Value.ref bq), (1, Value.ref (b 0)), (2, Value.ref (b 46)), (3, Value.ref (b 116))]) hx hb d_Lw_law_531 hl (by decide) rfl (fun ls hl => ?_)
    refine lv_aload_n hx hb d_Lw_law_533 rfl (lv_at hl 5 rfl) ?_
    obtain ⟨x272, X272, hF272, hf⟩ := gCi_el hf
    refine gy_callI (rm := { frames := 1, cells := 0, slots := 0, locals := 12 }) (ig := .invokevirtual 98) (av := [Value.ref (b 46)]) Y (fun ws h hS hw => K_Mo_thrown l htr D tys z _ ws h hS t ht b X271 hw (gR.i x272, X272) hF272) (gx_invV (As := []) (rest := []) hx hb hown hts km_Lw_98 kI_Mo_thrown kV_Mo_thrown kc_Mo_thrown (by decide) (show (parseMethodDescriptor y_Mo_thrown.desc).map (fun d => d.parameters.length) = some 0 by decide +kernel) (gy_recv (ci := 8) hK Y rfl gF_46) rfl rfl d_Lw_law_534) (gx_cw (z := 0) hts kc_Mo_thrown kN_Mo rfl rfl ⟨Nat.le_of_ble_eq_true rfl, Nat.le_of_ble_eq_true rfl⟩) hb hml hz hK hY hAz hA hl.1 (lv_room (Nat.le_of_ble_eq_true rfl)) d_Lw_law_534 ⟨hC.rc0 hRc, hC.rs0 hRs⟩ (fun H locs Y => ?_)
    refine lv_iload hx hb d_Lw_law_537 (lv_at hl 2 rfl) ?_
    refine lv_icmp_eq (tgt := 544) hx hb d_Lw_law_539 (by decide) (fun c539_273 => ?_) (fun c539_273 => ?_)
    · replace hf := gp_t c539_273 hf
      refine lv_iload hx hb d_Lw_law_544 (lv_at hl 2 rfl) ?_
      refine lv_if_ne (tgt := 561) hx hb d_Lw_law_546 (by decide) (fun c546_274 => ?_) (fun c546_274 => ?_)
      · replace hf := gp_f c546_274 hf
        exact J561 (X272, i4_270) _ _ _ _ _ _ hf (lv_sub hl [1, 3, 4, 5, 6] rfl) (hC.mv Y) Y.rb
      · replace hf := gp_t c546_274 hf
        refine lv_aload_n hx hb d_Lw_law_549 rfl (lv_at hl 6 rfl) ?_
        refine lv_iconst (v := 0) hx hb d_Lw_law_550 (by decide) ?_
        refine gy_lald hx hb hK Y ht6 d_Lw_law_551 ?_
        refine lv_iload hx hb d_Lw_law_552 (lv_at hl 0 rfl) ?_
        refine lv_i2l (v := x271.toInt64) hx hb d_Lw_law_554 rfl ?_
        refine gx_leq (tgt := 561) hx hb d_Lw_law_555 d_Lw_law_556 (by decide) (fun c555_275 => ?_) (fun c555_275 => ?_)
        · replace hf := gp_t c555_275 hf
          exact J561 (X272, i4_270) _ _ _ _ _ _ hf (lv_sub hl [1, 3, 4, 5, 6] rfl) (hC.mv Y) Y.rb
        · replace hf := gp_f c555_275 hf
          refine lv_iconst (v := 0) hx hb d_Lw_law_559 (by decide) ?_
          replace hf := gU hf ho258
          exact (law_no hf).elim
    · replace hf := gp_f c539_273 hf
      refine lv_iconst (v := 0) hx hb d_Lw_law_542 (by decide) ?_
      replace hf := gU hf ho258
      exact (law_no hf).elim
  refine gA_cut (pcJ := 501) hC Y (fun s : gX × Int32 × Int32 × Int32 => f_Lw_law_501 s.1 Ls xs s.2.1 s.2.2.1 s.2.2.2) u258 (fun s => s.1) (fun s b ls => lv_has ls 7 [(4, Value.int s.2.1), (0, Value.ref bq), (1, Value.ref (b 0)), (2, Value.ref (b 46)), (3, Value.ref (b 116))]) (fun s b => [Value.int s.2.2.1, Value.int s.2.2.2, Value.ref (b 0)]) ?_ (fun J501 => ?_)
  · rintro ⟨X276, i4_276, i1000_276, i1001_276⟩ b H locs ls cells slots hf hl hC Y
    have hl : lv_has ls 7 [(4, Value.int i4_276), (0, Value.ref bq), (1, Value.ref (b 0)), (2, Value.ref (b 46)), (3, Value.ref (b 116))] := hl
    have hC : gC X0 _ X276 b cells slots := hC
    have Y : gy D t b A s.heap X276 X276 H locs := Y
    have hf : f_Lw_law_501 X276 Ls xs i4_276 i1000_276 i1001_276 = some u258 := hf
    unfold f_Lw_law_501 at hf
    refine W.eq (g2 := F0 m 501 ls [Value.int i1000_276, Value.int i1001_276, Value.ref (b 0)]) rfl ?_
    refine lv_aload_n hx hb d_Lw_law_501 rfl (lv_at hl 4 rfl) ?_
    have hl : lv_has ls 7 [(4, Value.int i4_276), (0, Value.ref bq), (1, Value.ref (b 0)), (2, Value.ref (b 46)), (3, Value.ref (b 116))] := lv_sub hl [0, 1, 2, 3, 4] rfl
    obtain ⟨x277, X277, hF277, hf⟩ := gCi_el hf
    refine gA_callH (fr := 12) (lo := 288) (o1 := (gR.i x277, X277)) (ig := .invokestatic 119) (av := [Value.ref (b 0), Value.int i1001_276, Value.int i1000_276, Value.ref (b 116)]) hC Y ⟨hRc, hRs⟩ (fun hc9 hs9 ws h hS hw => K_Lw_finish l htr D tys z _ ws h hS t ht b X276 hw i1001_276 i1000_276 hc9 hs9 (gR.i x277, X277) hF277) (gx_invSH (As := [Value.ref (b 0), Value.int i1001_276, Value.int i1000_276, Value.ref (b 116)]) (rest := []) hx hb hown hts km_Lw_119 kS_Lw_finish kN_Lw kc_Lw_finish (by decide) (show (parseMethodDescriptor y_Lw_finish.desc).map (fun d => d.parameters.length) = some 4 by decide +kernel) rfl rfl d_Lw_law_502) (gx_cwHA hts kc_Lw_finish kN_Lw ⟨Nat.le_of_ble_eq_true rfl, Nat.le_of_ble_eq_true rfl⟩) hb hml hz hK hY hAz hA hl.1 (lv_room (Nat.le_of_ble_eq_true rfl)) d_Lw_law_502 (fun vz9 b H locs cells slots e9 hb9 hC Y => ?_) (fun xz9 Ez9 ce b H locs cells slots e9 hce hC Y => ?_)
    rotate_left
    · have e9 : (Sum.inr Ez9 : Option Value ⊕ String) = Sum.inl (some (Value.int x277)) := e9
      cases e9
    have e9 : (Sum.inl vz9 : Option Value ⊕ String) = Sum.inl (some (Value.int x277)) := e9
    cases e9
    replace hl : lv_has ls 7 [(4, Value.int i4_276), (0, Value.ref bq), (1, Value.ref (b 0)), (2, Value.ref (b 46)), (3, Value.ref (b 116))] := by rw [hb9 0 (gNm_s (by decide))]; rw [hb9 46 (gNm_s (by decide))]; rw [hb9 116 (gNm_s (by decide))]; exact hl
    refine W.eq (g2 := F0 m 505 ls [Value.int x277]) (by rfl) ?_
    refine lv_istore (lv' := [(5, Value.int x277), (4, Value.int i4_276), (0, Value.ref bq), (1, Value.ref (b 0)), (2, Value.ref (b 46)), (3, Value.ref (b 116))]) hx hb d_Lw_law_505 hl (by decide) rfl (fun ls hl => ?_)
    refine lv_aload_n hx hb d_Lw_law_507 rfl (lv_at hl 4 rfl) ?_
    refine lv_aload_n hx hb d_Lw_law_508 rfl (lv_at hl 2 rfl) ?_
    refine lv_iload hx hb d_Lw_law_509 (lv_at hl 1 rfl) ?_
    refine lv_iconst (v := 1) hx hb d_Lw_law_511 (by decide) ?_
    refine lv_iadd hx hb d_Lw_law_512 ?_
    refine gy_sld hf hx hb hX hbl hbA Y d_Lw_law_513 (fun hf => ?_)
    refine lv_aload_n hx hb d_Lw_law_514 rfl (lv_at hl 2 rfl) ?_
    refine lv_iload hx hb d_Lw_law_515 (lv_at hl 1 rfl) ?_
    refine lv_iconst (v := 2) hx hb d_Lw_law_517 (by decide) ?_
    refine lv_iadd hx hb d_Lw_law_518 ?_
    refine gy_sld hf hx hb hX hbl hbA Y d_Lw_law_519 (fun hf => ?_)
    refine lv_if_eq (tgt := 527) hx hb d_Lw_law_520 (by decide) (fun c520_278 => ?_) (fun c520_278 => ?_)
    · replace hf := gp_t c520_278 hf
      refine lv_iconst (v := 0) hx hb d_Lw_law_527 (by decide) ?_
      exact J528 (X277, i4_276, x277, 0, xs (gn (i4_276 + 1))) _ _ _ _ _ _ hf (lv_sub hl [1, 0, 2, 3, 4, 5] rfl) (hC.mv Y) Y.rb
    · replace hf := gp_f c520_278 hf
      refine lv_iconst (v := 1) hx hb d_Lw_law_523 (by decide) ?_
      refine lv_goto (tgt := 528) hx hb d_Lw_law_524 (by decide) ?_
      exact J528 (X277, i4_276, x277, 1, xs (gn (i4_276 + 1))) _ _ _ _ _ _ hf (lv_sub hl [1, 0, 2, 3, 4, 5] rfl) (hC.mv Y) Y.rb
  refine gA_cut (pcJ := 477) hC Y (fun s : gX × Int32 => f_Lw_law_477 s.1 Ls xs s.2) u258 (fun s => s.1) (fun s b ls => lv_has ls 7 [(4, Value.int s.2), (0, Value.ref bq), (1, Value.ref (b 0)), (2, Value.ref (b 46)), (3, Value.ref (b 116))]) (fun s b => []) ?_ (fun J477 => ?_)
  · rintro ⟨X279, i4_279⟩ b H locs ls cells slots hf hl hC Y
    have hl : lv_has ls 7 [(4, Value.int i4_279), (0, Value.ref bq), (1, Value.ref (b 0)), (2, Value.ref (b 46)), (3, Value.ref (b 116))] := hl
    have hC : gC X0 _ X279 b cells slots := hC
    have Y : gy D t b A s.heap X279 X279 H locs := Y
    have hf : f_Lw_law_477 X279 Ls xs i4_279 = some u258 := hf
    unfold f_Lw_law_477 at hf
    refine lv_goto (tgt := 1272) hx hb d_Lw_law_477 (by decide) ?_
    exact J1272 (X279, i4_279) _ _ _ _ _ _ hf (lv_sub hl [0, 1, 2, 3, 4] rfl) (hC.mv Y) Y.rb
  refine gA_cut (pcJ := 421) hC Y (fun s : gX × Int32 => f_Lw_law_421 s.1 Ls xs s.2) u258 (fun s => s.1) (fun s b ls => lv_has ls 7 [(4, Value.int s.2), (0, Value.ref bq), (1, Value.ref (b 0)), (2, Value.ref (b 46)), (3, Value.ref (b 116))]) (fun s b => []) ?_ (fun J421 => ?_)
  · rintro ⟨X280, i4_280⟩ b H locs ls cells slots hf hl hC Y
    have hl : lv_has ls 7 [(4, Value.int i4_280), (0, Value.ref bq), (1, Value.ref (b 0)), (2, Value.ref (b 46)), (3, Value.ref (b 116))] := hl
    have hC : gC X0 _ X280 b cells slots := hC
    have Y : gy D t b A s.heap X280 X280 H locs := Y
    have hf : f_Lw_law_421 X280 Ls xs i4_280 = some u258 := hf
    unfold f_Lw_law_421 at hf
    refine lv_goto (tgt := 1272) hx hb d_Lw_law_421 (by decide) ?_
    exact J1272 (X280, i4_280) _ _ _ _ _ _ hf (lv_sub hl [0, 1, 2, 3, 4] rfl) (hC.mv Y) Y.rb
  refine gA_cut (pcJ := 377) hC Y (fun s : gX × Int32 => f_Lw_law_377 s.1 Ls xs s.2) u258 (fun s => s.1) (fun s b ls => lv_has ls 7 [(4, Value.int s.2), (0, Value.ref bq), (1, Value.ref (b 0)), (2, Value.ref (b 46)), (3, Value.ref (b 116))]) (fun s b => []) ?_ (fun J377 => ?_)
  · rintro ⟨X281, i4_281⟩ b H locs ls cells slots hf hl hC Y
    have hl : lv_has ls 7 [(4, Value.int i4_281), (0, Value.ref bq), (1, Value.ref (b 0)), (2, Value.ref (b 46)), (3, Value.ref (b 116))] := hl
    have hC : gC X0 _ X281 b cells slots := hC
    have Y : gy D t b A s.heap X281 X281 H locs := Y
    have hf : f_Lw_law_377 X281 Ls xs i4_281 = some u258 := hf
    unfold f_Lw_law_377 at hf
    refine lv_goto (tgt := 1272) hx hb d_Lw_law_377 (by decide) ?_
    exact J1272 (X281, i4_281) _ _ _ _ _ _ hf (lv_sub hl [0, 1, 2, 3, 4] rfl) (hC.mv Y) Y.rb
  refine gA_cut (pcJ := 321) hC Y (fun s : gX × Int32 => f_Lw_law_321 s.1 Ls xs s.2) u258 (fun s => s.1) (fun s b ls => lv_has ls 7 [(4, Value.int s.2), (0, Value.ref bq), (1, Value.ref (b 0)), (2, Value.ref (b 46)), (3, Value.ref (b 116))]) (fun s b => []) ?_ (fun J321 => ?_)
  · rintro ⟨X282, i4_282⟩ b H locs ls cells slots hf hl hC Y
    have hl : lv_has ls 7 [(4, Value.int i4_282), (0, Value.ref bq), (1, Value.ref (b 0)), (2, Value.ref (b 46)), (3, Value.ref (b 116))] := hl
    have hC : gC X0 _ X282 b cells slots := hC
    have Y : gy D t b A s.heap X282 X282 H locs := Y
    have hf : f_Lw_law_321 X282 Ls xs i4_282 = some u258 := hf
    unfold f_Lw_law_321 at hf
    refine lv_goto (tgt := 1272) hx hb d_Lw_law_321 (by decide) ?_
    exact J1272 (X282, i4_282) _ _ _ _ _ _ hf (lv_sub hl [0, 1, 2, 3, 4] rfl) (hC.mv Y) Y.rb
  refine gA_cut (pcJ := 193) hC Y (fun s : gX × Int32 => f_Lw_law_193 s.1 Ls xs s.2) u258 (fun s => s.1) (fun s b ls => lv_has ls 7 [(4, Value.int s.2), (0, Value.ref bq), (1, Value.ref (b 0)), (2, Value.ref (b 46)), (3, Value.ref (b 116))]) (fun s b => []) ?_ (fun J193 => ?_)
  · rintro ⟨X283, i4_283⟩ b H locs ls cells slots hf hl hC Y
    have hl : lv_has ls 7 [(4, Value.int i4_283), (0, Value.ref bq), (1, Value.ref (b 0)), (2, Value.ref (b 46)), (3, Value.ref (b 116))] := hl
    have hC : gC X0 _ X283 b cells slots := hC
    have Y : gy D t b A s.heap X283 X283 H locs := Y
    have hf : f_Lw_law_193 X283 Ls xs i4_283 = some u258 := hf
    unfold f_Lw_law_193 at hf
    refine lv_goto (tgt := 1272) hx hb d_Lw_law_193 (by decide) ?_
    exact J1272 (X283, i4_283) _ _ _ _ _ _ hf (lv_sub hl [0, 1, 2, 3, 4] rfl) (hC.mv Y) Y.rb
  unfold f_Lw_law_23 at hf
  refine lv_iload hx hb d_Lw_law_23 (lv_at hl 0 rfl) ?_
  refine lv_aload_n hx hb d_Lw_law_25 rfl (lv_at hl 1 rfl) ?_
  refine gy_slen hx hb hX hbl hbA Y d_Lw_law_26 ?_
  refine lv_iconst (v := 4) hx hb d_Lw_law_27 (by decide) ?_
  refine lv_isub hx hb d_Lw_law_28 ?_
  refine lv_icmp_gt (tgt := 1278) hx hb d_Lw_law_29 (by decide) (fun c29_284 => ?_) (fun c29_284 => ?_)
  · replace hf := gp_t c29_284 hf
    refine lv_iconst (v := 1) hx hb d_Lw_law_1278 (by decide) ?_
    replace hf := gU hf ho258
    exact kret _ _ _ _ _ _ _ hf (hC.mv Y) Y.rb
  · replace hf := gp_f c29_284 hf
    refine lv_aload_n hx hb d_Lw_law_32 rfl (lv_at hl 1 rfl) ?_
    refine lv_iload hx hb d_Lw_law_33 (lv_at hl 0 rfl) ?_
    refine gy_sld hf hx hb hX hbl hbA Y d_Lw_law_35 (fun hf => ?_)
    refine lv_bipush (v := 31) hx hb d_Lw_law_36 (by decide) ?_
    refine lv_iand hx hb d_Lw_law_38 ?_
    by_cases s285_0 : ((xs (gn i4_258)) &&& 31) = (0 : Int32)
    · replace hf := gp_t s285_0 hf
      refine gx_topi s285_0 ?_
      refine lv_tableIn (off := 101) (tgt := 140) hx hb d_Lw_law_39 (by decide) (by decide) rfl (by decide) ?_
      refine lv_aload_n hx hb d_Lw_law_140 rfl (lv_at hl 2 rfl) ?_
      refine lv_aload_n hx hb d_Lw_law_141 rfl (lv_at hl 1 rfl) ?_
      refine lv_iload hx hb d_Lw_law_142 (lv_at hl 0 rfl) ?_
      refine lv_iconst (v := 1) hx hb d_Lw_law_144 (by decide) ?_
      refine lv_iadd hx hb d_Lw_law_145 ?_
      refine gy_sld hf hx hb hX hbl hbA Y d_Lw_law_146 (fun hf => ?_)
      refine lv_aload_n hx hb d_Lw_law_147 rfl (lv_at hl 4 rfl) ?_
      have hl : lv_has ls 7 [(4, Value.int i4_258), (0, Value.ref bq), (1, Value.ref (b 0)), (2, Value.ref (b 46)), (3, Value.ref (b 116))] := lv_sub hl [0, 1, 2, 3, 4] rfl
      obtain ⟨x286, X286, hF286, hf⟩ := gCi_el hf
      refine gA_callH (fr := 11) (lo := 262) (o1 := (gR.i x286, X286)) (ig := .invokestatic 92) (av := [Value.ref (b 0), Value.int (xs (gn (i4_258 + 1))), Value.ref (b 116)]) hC Y ⟨hRc, hRs⟩ (fun hc9 hs9 ws h hS hw => K_Lw_open l htr D tys z _ ws h hS t ht b X258 hw (xs (gn (i4_258 + 1))) hc9 hs9 (gR.i x286, X286) hF286) (gx_invSH (As := [Value.ref (b 0), Value.int (xs (gn (i4_258 + 1))), Value.ref (b 116)]) (rest := []) hx hb hown hts km_Lw_92 kS_Lw_open kN_Lw kc_Lw_open (by decide) (show (parseMethodDescriptor y_Lw_open.desc).map (fun d => d.parameters.length) = some 3 by decide +kernel) rfl rfl d_Lw_law_148) (gx_cwHA hts kc_Lw_open kN_Lw ⟨Nat.le_of_ble_eq_true rfl, Nat.le_of_ble_eq_true rfl⟩) hb hml hz hK hY hAz hA hl.1 (lv_room (Nat.le_of_ble_eq_true rfl)) d_Lw_law_148 (fun vz9 b H locs cells slots e9 hb9 hC Y => ?_) (fun xz9 Ez9 ce b H locs cells slots e9 hce hC Y => ?_)
      rotate_left
      · have e9 : (Sum.inr Ez9 : Option Value ⊕ String) = Sum.inl (some (Value.int x286)) := e9
        cases e9
      have e9 : (Sum.inl vz9 : Option Value ⊕ String) = Sum.inl (some (Value.int x286)) := e9
      cases e9
      replace hl : lv_has ls 7 [(4, Value.int i4_258), (0, Value.ref bq), (1, Value.ref (b 0)), (2, Value.ref (b 46)), (3, Value.ref (b 116))] := by rw [hb9 0 (gNm_s (by decide))]; rw [hb9 46 (gNm_s (by decide))]; rw [hb9 116 (gNm_s (by decide))]; exact hl
      refine W.eq (g2 := F0 m 151 ls [Value.int x286]) (by rfl) ?_
      refine lv_istore (lv' := [(5, Value.int x286), (4, Value.int i4_258), (0, Value.ref bq), (1, Value.ref (b 0)), (2, Value.ref (b 46)), (3, Value.ref (b 116))]) hx hb d_Lw_law_151 hl (by decide) rfl (fun ls hl => ?_)
      refine lv_aload_n hx hb d_Lw_law_153 rfl (lv_at hl 4 rfl) ?_
      refine lv_aload_n hx hb d_Lw_law_154 rfl (lv_at hl 2 rfl) ?_
      refine lv_iload hx hb d_Lw_law_155 (lv_at hl 1 rfl) ?_
      refine lv_iconst (v := 1) hx hb d_Lw_law_157 (by decide) ?_
      refine lv_iadd hx hb d_Lw_law_158 ?_
      refine gy_sld hf hx hb hX hbl hbA Y d_Lw_law_159 (fun hf => ?_)
      obtain ⟨x287, X287, hF287, hf⟩ := gCi_el hf
      refine gy_callI (rm := { frames := 5, cells := 0, slots := 0, locals := 105 }) (ig := .invokevirtual 97) (av := [Value.ref (b 46), Value.int (xs (gn (i4_258 + 1)))]) Y (fun ws h hS hw => K_Mo_open l htr D tys z _ ws h hS t ht b X286 hw (xs (gn (i4_258 + 1))) (gR.i x287, X287) hF287) (gx_invV (As := [Value.int (xs (gn (i4_258 + 1)))]) (rest := []) hx hb hown hts km_Lw_97 kI_Mo_open kV_Mo_open kc_Mo_open (by decide) (show (parseMethodDescriptor y_Mo_open.desc).map (fun d => d.parameters.length) = some 1 by decide +kernel) (gy_recv (ci := 8) hK Y rfl gF_46) rfl rfl d_Lw_law_160) (gx_cw (z := 0) hts kc_Mo_open kN_Mo rfl rfl ⟨Nat.le_of_ble_eq_true rfl, Nat.le_of_ble_eq_true rfl⟩) hb hml hz hK hY hAz hA hl.1 (lv_room (Nat.le_of_ble_eq_true rfl)) d_Lw_law_160 ⟨hC.rc0 hRc, hC.rs0 hRs⟩ (fun H locs Y => ?_)
      refine lv_istore (lv' := [(6, Value.int x287), (5, Value.int x286), (4, Value.int i4_258), (0, Value.ref bq), (1, Value.ref (b 0)), (2, Value.ref (b 46)), (3, Value.ref (b 116))]) hx hb d_Lw_law_163 hl (by decide) rfl (fun ls hl => ?_)
      refine lv_aload_n hx hb d_Lw_law_165 rfl (lv_at hl 5 rfl) ?_
      obtain ⟨x288, X288, hF288, hf⟩ := gCi_el hf
      refine gy_callI (rm := { frames := 1, cells := 0, slots := 0, locals := 12 }) (ig := .invokevirtual 98) (av := [Value.ref (b 46)]) Y (fun ws h hS hw => K_Mo_thrown l htr D tys z _ ws h hS t ht b X287 hw (gR.i x288, X288) hF288) (gx_invV (As := []) (rest := []) hx hb hown hts km_Lw_98 kI_Mo_thrown kV_Mo_thrown kc_Mo_thrown (by decide) (show (parseMethodDescriptor y_Mo_thrown.desc).map (fun d => d.parameters.length) = some 0 by decide +kernel) (gy_recv (ci := 8) hK Y rfl gF_46) rfl rfl d_Lw_law_166) (gx_cw (z := 0) hts kc_Mo_thrown kN_Mo rfl rfl ⟨Nat.le_of_ble_eq_true rfl, Nat.le_of_ble_eq_true rfl⟩) hb hml hz hK hY hAz hA hl.1 (lv_room (Nat.le_of_ble_eq_true rfl)) d_Lw_law_166 ⟨hC.rc0 hRc, hC.rs0 hRs⟩ (fun H locs Y => ?_)
      refine lv_iload hx hb d_Lw_law_169 (lv_at hl 1 rfl) ?_
      refine lv_icmp_eq (tgt := 176) hx hb d_Lw_law_171 (by decide) (fun c171_289 => ?_) (fun c171_289 => ?_)
      · replace hf := gp_t c171_289 hf
        refine lv_iload hx hb d_Lw_law_176 (lv_at hl 1 rfl) ?_
        refine lv_if_ne (tgt := 193) hx hb d_Lw_law_178 (by decide) (fun c178_290 => ?_) (fun c178_290 => ?_)
        · replace hf := gp_f c178_290 hf
          exact J193 (X288, i4_258) _ _ _ _ _ _ hf (lv_sub hl [2, 3, 4, 5, 6] rfl) (hC.mv Y) Y.rb
        · replace hf := gp_t c178_290 hf
          refine lv_aload_n hx hb d_Lw_law_181 rfl (lv_at hl 6 rfl) ?_
          refine lv_iconst (v := 0) hx hb d_Lw_law_182 (by decide) ?_
          refine gy_lald hx hb hK Y ht6 d_Lw_law_183 ?_
          refine lv_iload hx hb d_Lw_law_184 (lv_at hl 0 rfl) ?_
          refine lv_i2l (v := x287.toInt64) hx hb d_Lw_law_186 rfl ?_
          refine gx_leq (tgt := 193) hx hb d_Lw_law_187 d_Lw_law_188 (by decide) (fun c187_291 => ?_) (fun c187_291 => ?_)
          · replace hf := gp_t c187_291 hf
            exact J193 (X288, i4_258) _ _ _ _ _ _ hf (lv_sub hl [2, 3, 4, 5, 6] rfl) (hC.mv Y) Y.rb
          · replace hf := gp_f c187_291 hf
            refine lv_iconst (v := 0) hx hb d_Lw_law_191 (by decide) ?_
            replace hf := gU hf ho258
            exact (law_no hf).elim
      · replace hf := gp_f c171_289 hf
        refine lv_iconst (v := 0) hx hb d_Lw_law_174 (by decide) ?_
        replace hf := gU hf ho258
        exact (law_no hf).elim
    replace hf := gp_f s285_0 hf
    by_cases s285_1 : ((xs (gn i4_258)) &&& 31) = (1 : Int32)
    · replace hf := gp_t s285_1 hf
      refine gx_topi s285_1 ?_
      refine lv_tableIn (off := 157) (tgt := 196) hx hb d_Lw_law_39 (by decide) (by decide) rfl (by decide) ?_
      refine lv_aload_n hx hb d_Lw_law_196 rfl (lv_at hl 2 rfl) ?_
      refine lv_aload_n hx hb d_Lw_law_197 rfl (lv_at hl 1 rfl) ?_
      refine lv_iload hx hb d_Lw_law_198 (lv_at hl 0 rfl) ?_
      refine lv_iconst (v := 1) hx hb d_Lw_law_200 (by decide) ?_
      refine lv_iadd hx hb d_Lw_law_201 ?_
      refine gy_sld hf hx hb hX hbl hbA Y d_Lw_law_202 (fun hf => ?_)
      refine lv_aload_n hx hb d_Lw_law_203 rfl (lv_at hl 1 rfl) ?_
      refine lv_iload hx hb d_Lw_law_204 (lv_at hl 0 rfl) ?_
      refine lv_iconst (v := 2) hx hb d_Lw_law_206 (by decide) ?_
      refine lv_iadd hx hb d_Lw_law_207 ?_
      refine gy_sld hf hx hb hX hbl hbA Y d_Lw_law_208 (fun hf => ?_)
      have hl : lv_has ls 7 [(4, Value.int i4_258), (0, Value.ref bq), (1, Value.ref (b 0)), (2, Value.ref (b 46)), (3, Value.ref (b 116))] := lv_sub hl [0, 1, 2, 3, 4] rfl
      obtain ⟨x292, X292, hF292, hf⟩ := gCi_el hf
      refine gA_callH (fr := 8) (lo := 126) (o1 := (gR.i x292, X292)) (ig := .invokestatic 101) (av := [Value.ref (b 0), Value.int (xs (gn (i4_258 + 1))), Value.int (xs (gn (i4_258 + 2)))]) hC Y ⟨hRc, hRs⟩ (fun hc9 hs9 ws h hS hw => K_Lw_limits l htr D tys z _ ws h hS t ht b X258 hw (xs (gn (i4_258 + 1))) (xs (gn (i4_258 + 2))) hc9 hs9 (gR.i x292, X292) hF292) (gx_invSH (As := [Value.ref (b 0), Value.int (xs (gn (i4_258 + 1))), Value.int (xs (gn (i4_258 + 2)))]) (rest := []) hx hb hown hts km_Lw_101 kS_Lw_limits kN_Lw kc_Lw_limits (by decide) (show (parseMethodDescriptor y_Lw_limits.desc).map (fun d => d.parameters.length) = some 3 by decide +kernel) rfl rfl d_Lw_law_209) (gx_cwHA hts kc_Lw_limits kN_Lw ⟨Nat.le_of_ble_eq_true rfl, Nat.le_of_ble_eq_true rfl⟩) hb hml hz hK hY hAz hA hl.1 (lv_room (Nat.le_of_ble_eq_true rfl)) d_Lw_law_209 (fun vz9 b H locs cells slots e9 hb9 hC Y => ?_) (fun xz9 Ez9 ce b H locs cells slots e9 hce hC Y => ?_)
      rotate_left
      · have e9 : (Sum.inr Ez9 : Option Value ⊕ String) = Sum.inl (some (Value.int x292)) := e9
        cases e9
      have e9 : (Sum.inl vz9 : Option Value ⊕ String) = Sum.inl (some (Value.int x292)) := e9
      cases e9
      replace hl : lv_has ls 7 [(4, Value.int i4_258), (0, Value.ref bq), (1, Value.ref (b 0)), (2, Value.ref (b 46)), (3, Value.ref (b 116))] := by rw [hb9 0 (gNm_s (by decide))]; rw [hb9 46 (gNm_s (by decide))]; rw [hb9 116 (gNm_s (by decide))]; exact hl
      refine W.eq (g2 := F0 m 212 ls [Value.int x292]) (by rfl) ?_
      refine lv_istore (lv' := [(5, Value.int x292), (4, Value.int i4_258), (0, Value.ref bq), (1, Value.ref (b 0)), (2, Value.ref (b 46)), (3, Value.ref (b 116))]) hx hb d_Lw_law_212 hl (by decide) rfl (fun ls hl => ?_)
      refine lv_aload_n hx hb d_Lw_law_214 rfl (lv_at hl 4 rfl) ?_
      refine lv_aload_n hx hb d_Lw_law_215 rfl (lv_at hl 2 rfl) ?_
      refine lv_iload hx hb d_Lw_law_216 (lv_at hl 1 rfl) ?_
      refine lv_iconst (v := 1) hx hb d_Lw_law_218 (by decide) ?_
      refine lv_iadd hx hb d_Lw_law_219 ?_
      refine gy_sld hf hx hb hX hbl hbA Y d_Lw_law_220 (fun hf => ?_)
      refine lv_aload_n hx hb d_Lw_law_221 rfl (lv_at hl 2 rfl) ?_
      refine lv_iload hx hb d_Lw_law_222 (lv_at hl 1 rfl) ?_
      refine lv_iconst (v := 2) hx hb d_Lw_law_224 (by decide) ?_
      refine lv_iadd hx hb d_Lw_law_225 ?_
      refine gy_sld hf hx hb hX hbl hbA Y d_Lw_law_226 (fun hf => ?_)
      obtain ⟨X293, hF293, hf⟩ := gCv_el hf
      refine gy_callV (rm := { frames := 2, cells := 0, slots := 0, locals := 37 }) (ig := .invokevirtual 104) (av := [Value.ref (b 46), Value.int (xs (gn (i4_258 + 1))), Value.int (xs (gn (i4_258 + 2)))]) Y (fun ws h hS hw => K_Mo_limits l htr D tys z _ ws h hS t ht b X292 hw (xs (gn (i4_258 + 1))) (xs (gn (i4_258 + 2))) (gR.v, X293) hF293) (gx_invV (As := [Value.int (xs (gn (i4_258 + 1))), Value.int (xs (gn (i4_258 + 2)))]) (rest := []) hx hb hown hts km_Lw_104 kI_Mo_limits kV_Mo_limits kc_Mo_limits (by decide) (show (parseMethodDescriptor y_Mo_limits.desc).map (fun d => d.parameters.length) = some 2 by decide +kernel) (gy_recv (ci := 8) hK Y rfl gF_46) rfl rfl d_Lw_law_227) (gx_cw (z := 0) hts kc_Mo_limits kN_Mo rfl rfl ⟨Nat.le_of_ble_eq_true rfl, Nat.le_of_ble_eq_true rfl⟩) hb hml hz hK hY hAz hA hl.1 (lv_room (Nat.le_of_ble_eq_true rfl)) d_Lw_law_227 ⟨hC.rc0 hRc, hC.rs0 hRs⟩ (fun H locs Y => ?_)
      refine lv_aload_n hx hb d_Lw_law_230 rfl (lv_at hl 4 rfl) ?_
      obtain ⟨x294, X294, hF294, hf⟩ := gCi_el hf
      refine gy_callI (rm := { frames := 1, cells := 0, slots := 0, locals := 12 }) (ig := .invokevirtual 98) (av := [Value.ref (b 46)]) Y (fun ws h hS hw => K_Mo_thrown l htr D tys z _ ws h hS t ht b X293 hw (gR.i x294, X294) hF294) (gx_invV (As := []) (rest := []) hx hb hown hts km_Lw_98 kI_Mo_thrown kV_Mo_thrown kc_Mo_thrown (by decide) (show (parseMethodDescriptor y_Mo_thrown.desc).map (fun d => d.parameters.length) = some 0 by decide +kernel) (gy_recv (ci := 8) hK Y rfl gF_46) rfl rfl d_Lw_law_231) (gx_cw (z := 0) hts kc_Mo_thrown kN_Mo rfl rfl ⟨Nat.le_of_ble_eq_true rfl, Nat.le_of_ble_eq_true rfl⟩) hb hml hz hK hY hAz hA hl.1 (lv_room (Nat.le_of_ble_eq_true rfl)) d_Lw_law_231 ⟨hC.rc0 hRc, hC.rs0 hRs⟩ (fun H locs Y => ?_)
      refine lv_iload hx hb d_Lw_law_234 (lv_at hl 0 rfl) ?_
      refine lv_icmp_eq (tgt := 241) hx hb d_Lw_law_236 (by decide) (fun c236_295 => ?_) (fun c236_295 => ?_)
      · replace hf := gp_t c236_295 hf
        refine lv_goto (tgt := 1272) hx hb d_Lw_law_241 (by decide) ?_
        exact J1272 (X294, i4_258) _ _ _ _ _ _ hf (lv_sub hl [1, 2, 3, 4, 5] rfl) (hC.mv Y) Y.rb
      · replace hf := gp_f c236_295 hf
        refine lv_iconst (v := 0) hx hb d_Lw_law_239 (by decide) ?_
        replace hf := gU hf ho258
        exact (law_no hf).elim
    replace hf := gp_f s285_1 hf
    by_cases s285_2 : ((xs (gn i4_258)) &&& 31) = (2 : Int32)
    · replace hf := gp_t s285_2 hf
      refine gx_topi s285_2 ?_
      refine lv_tableIn (off := 205) (tgt := 244) hx hb d_Lw_law_39 (by decide) (by decide) rfl (by decide) ?_
      refine lv_aload_n hx hb d_Lw_law_244 rfl (lv_at hl 2 rfl) ?_
      refine lv_aload_n hx hb d_Lw_law_245 rfl (lv_at hl 1 rfl) ?_
      refine lv_iload hx hb d_Lw_law_246 (lv_at hl 0 rfl) ?_
      refine lv_iconst (v := 1) hx hb d_Lw_law_248 (by decide) ?_
      refine lv_iadd hx hb d_Lw_law_249 ?_
      refine gy_sld hf hx hb hX hbl hbA Y d_Lw_law_250 (fun hf => ?_)
      refine lv_aload_n hx hb d_Lw_law_251 rfl (lv_at hl 1 rfl) ?_
      refine lv_iload hx hb d_Lw_law_252 (lv_at hl 0 rfl) ?_
      refine lv_iconst (v := 2) hx hb d_Lw_law_254 (by decide) ?_
      refine lv_iadd hx hb d_Lw_law_255 ?_
      refine gy_sld hf hx hb hX hbl hbA Y d_Lw_law_256 (fun hf => ?_)
      refine lv_aload_n hx hb d_Lw_law_257 rfl (lv_at hl 1 rfl) ?_
      refine lv_iload hx hb d_Lw_law_258 (lv_at hl 0 rfl) ?_
      refine lv_iconst (v := 3) hx hb d_Lw_law_260 (by decide) ?_
      refine lv_iadd hx hb d_Lw_law_261 ?_
      refine gy_sld hf hx hb hX hbl hbA Y d_Lw_law_262 (fun hf => ?_)
      refine lv_aload_n hx hb d_Lw_law_263 rfl (lv_at hl 4 rfl) ?_
      have hl : lv_has ls 7 [(4, Value.int i4_258), (0, Value.ref bq), (1, Value.ref (b 0)), (2, Value.ref (b 46)), (3, Value.ref (b 116))] := lv_sub hl [0, 1, 2, 3, 4] rfl
      obtain ⟨x296, X296, hF296, hf⟩ := gCi_el hf
      refine gA_callH (fr := 13) (lo := 306) (o1 := (gR.i x296, X296)) (ig := .invokestatic 105) (av := [Value.ref (b 0), Value.int (xs (gn (i4_258 + 1))), Value.int (xs (gn (i4_258 + 2))), Value.int (xs (gn (i4_258 + 3))), Value.ref (b 116)]) hC Y ⟨hRc, hRs⟩ (fun hc9 hs9 ws h hS hw => K_Lw_add l htr D tys z _ ws h hS t ht b X258 hw (xs (gn (i4_258 + 1))) (xs (gn (i4_258 + 2))) (xs (gn (i4_258 + 3))) hc9 hs9 (gR.i x296, X296) hF296) (gx_invSH (As := [Value.ref (b 0), Value.int (xs (gn (i4_258 + 1))), Value.int (xs (gn (i4_258 + 2))), Value.int (xs (gn (i4_258 + 3))), Value.ref (b 116)]) (rest := []) hx hb hown hts km_Lw_105 kS_Lw_add kN_Lw kc_Lw_add (by decide) (show (parseMethodDescriptor y_Lw_add.desc).map (fun d => d.parameters.length) = some 5 by decide +kernel) rfl rfl d_Lw_law_264) (gx_cwHA hts kc_Lw_add kN_Lw ⟨Nat.le_of_ble_eq_true rfl, Nat.le_of_ble_eq_true rfl⟩) hb hml hz hK hY hAz hA hl.1 (lv_room (Nat.le_of_ble_eq_true rfl)) d_Lw_law_264 (fun vz9 b H locs cells slots e9 hb9 hC Y => ?_) (fun xz9 Ez9 ce b H locs cells slots e9 hce hC Y => ?_)
      rotate_left
      · have e9 : (Sum.inr Ez9 : Option Value ⊕ String) = Sum.inl (some (Value.int x296)) := e9
        cases e9
      have e9 : (Sum.inl vz9 : Option Value ⊕ String) = Sum.inl (some (Value.int x296)) := e9
      cases e9
      replace hl : lv_has ls 7 [(4, Value.int i4_258), (0, Value.ref bq), (1, Value.ref (b 0)), (2, Value.ref (b 46)), (3, Value.ref (b 116))] := by rw [hb9 0 (gNm_s (by decide))]; rw [hb9 46 (gNm_s (by decide))]; rw [hb9 116 (gNm_s (by decide))]; exact hl
      refine W.eq (g2 := F0 m 267 ls [Value.int x296]) (by rfl) ?_
      refine lv_istore (lv' := [(5, Value.int x296), (4, Value.int i4_258), (0, Value.ref bq), (1, Value.ref (b 0)), (2, Value.ref (b 46)), (3, Value.ref (b 116))]) hx hb d_Lw_law_267 hl (by decide) rfl (fun ls hl => ?_)
      refine lv_aload_n hx hb d_Lw_law_269 rfl (lv_at hl 4 rfl) ?_
      refine lv_aload_n hx hb d_Lw_law_270 rfl (lv_at hl 2 rfl) ?_
      refine lv_iload hx hb d_Lw_law_271 (lv_at hl 1 rfl) ?_
      refine lv_iconst (v := 1) hx hb d_Lw_law_273 (by decide) ?_
      refine lv_iadd hx hb d_Lw_law_274 ?_
      refine gy_sld hf hx hb hX hbl hbA Y d_Lw_law_275 (fun hf => ?_)
      refine lv_aload_n hx hb d_Lw_law_276 rfl (lv_at hl 2 rfl) ?_
      refine lv_iload hx hb d_Lw_law_277 (lv_at hl 1 rfl) ?_
      refine lv_iconst (v := 2) hx hb d_Lw_law_279 (by decide) ?_
      refine lv_iadd hx hb d_Lw_law_280 ?_
      refine gy_sld hf hx hb hX hbl hbA Y d_Lw_law_281 (fun hf => ?_)
      refine lv_aload_n hx hb d_Lw_law_282 rfl (lv_at hl 2 rfl) ?_
      refine lv_iload hx hb d_Lw_law_283 (lv_at hl 1 rfl) ?_
      refine lv_iconst (v := 3) hx hb d_Lw_law_285 (by decide) ?_
      refine lv_iadd hx hb d_Lw_law_286 ?_
      refine gy_sld hf hx hb hX hbl hbA Y d_Lw_law_287 (fun hf => ?_)
      obtain ⟨x297, X297, hF297, hf⟩ := gCi_el hf
      refine gy_callI (rm := { frames := 6, cells := 0, slots := 0, locals := 123 }) (ig := .invokevirtual 108) (av := [Value.ref (b 46), Value.int (xs (gn (i4_258 + 1))), Value.int (xs (gn (i4_258 + 2))), Value.int (xs (gn (i4_258 + 3)))]) Y (fun ws h hS hw => K_Mo_add l htr D tys z _ ws h hS t ht b X296 hw (xs (gn (i4_258 + 1))) (xs (gn (i4_258 + 2))) (xs (gn (i4_258 + 3))) (gR.i x297, X297) hF297) (gx_invV (As := [Value.int (xs (gn (i4_258 + 1))), Value.int (xs (gn (i4_258 + 2))), Value.int (xs (gn (i4_258 + 3)))]) (rest := []) hx hb hown hts km_Lw_108 kI_Mo_add kV_Mo_add kc_Mo_add (by decide) (show (parseMethodDescriptor y_Mo_add.desc).map (fun d => d.parameters.length) = some 3 by decide +kernel) (gy_recv (ci := 8) hK Y rfl gF_46) rfl rfl d_Lw_law_288) (gx_cw (z := 0) hts kc_Mo_add kN_Mo rfl rfl ⟨Nat.le_of_ble_eq_true rfl, Nat.le_of_ble_eq_true rfl⟩) hb hml hz hK hY hAz hA hl.1 (lv_room (Nat.le_of_ble_eq_true rfl)) d_Lw_law_288 ⟨hC.rc0 hRc, hC.rs0 hRs⟩ (fun H locs Y => ?_)
      refine lv_istore (lv' := [(6, Value.int x297), (5, Value.int x296), (4, Value.int i4_258), (0, Value.ref bq), (1, Value.ref (b 0)), (2, Value.ref (b 46)), (3, Value.ref (b 116))]) hx hb d_Lw_law_291 hl (by decide) rfl (fun ls hl => ?_)
      refine lv_aload_n hx hb d_Lw_law_293 rfl (lv_at hl 5 rfl) ?_
      obtain ⟨x298, X298, hF298, hf⟩ := gCi_el hf
      refine gy_callI (rm := { frames := 1, cells := 0, slots := 0, locals := 12 }) (ig := .invokevirtual 98) (av := [Value.ref (b 46)]) Y (fun ws h hS hw => K_Mo_thrown l htr D tys z _ ws h hS t ht b X297 hw (gR.i x298, X298) hF298) (gx_invV (As := []) (rest := []) hx hb hown hts km_Lw_98 kI_Mo_thrown kV_Mo_thrown kc_Mo_thrown (by decide) (show (parseMethodDescriptor y_Mo_thrown.desc).map (fun d => d.parameters.length) = some 0 by decide +kernel) (gy_recv (ci := 8) hK Y rfl gF_46) rfl rfl d_Lw_law_294) (gx_cw (z := 0) hts kc_Mo_thrown kN_Mo rfl rfl ⟨Nat.le_of_ble_eq_true rfl, Nat.le_of_ble_eq_true rfl⟩) hb hml hz hK hY hAz hA hl.1 (lv_room (Nat.le_of_ble_eq_true rfl)) d_Lw_law_294 ⟨hC.rc0 hRc, hC.rs0 hRs⟩ (fun H locs Y => ?_)
      refine lv_iload hx hb d_Lw_law_297 (lv_at hl 1 rfl) ?_
      refine lv_icmp_eq (tgt := 304) hx hb d_Lw_law_299 (by decide) (fun c299_299 => ?_) (fun c299_299 => ?_)
      · replace hf := gp_t c299_299 hf
        refine lv_iload hx hb d_Lw_law_304 (lv_at hl 1 rfl) ?_
        refine lv_if_ne (tgt := 321) hx hb d_Lw_law_306 (by decide) (fun c306_300 => ?_) (fun c306_300 => ?_)
        · replace hf := gp_f c306_300 hf
          exact J321 (X298, i4_258) _ _ _ _ _ _ hf (lv_sub hl [2, 3, 4, 5, 6] rfl) (hC.mv Y) Y.rb
        · replace hf := gp_t c306_300 hf
          refine lv_aload_n hx hb d_Lw_law_309 rfl (lv_at hl 6 rfl) ?_
          refine lv_iconst (v := 0) hx hb d_Lw_law_310 (by decide) ?_
          refine gy_lald hx hb hK Y ht6 d_Lw_law_311 ?_
          refine lv_iload hx hb d_Lw_law_312 (lv_at hl 0 rfl) ?_
          refine lv_i2l (v := x297.toInt64) hx hb d_Lw_law_314 rfl ?_
          refine gx_leq (tgt := 321) hx hb d_Lw_law_315 d_Lw_law_316 (by decide) (fun c315_301 => ?_) (fun c315_301 => ?_)
          · replace hf := gp_t c315_301 hf
            exact J321 (X298, i4_258) _ _ _ _ _ _ hf (lv_sub hl [2, 3, 4, 5, 6] rfl) (hC.mv Y) Y.rb
          · replace hf := gp_f c315_301 hf
            refine lv_iconst (v := 0) hx hb d_Lw_law_319 (by decide) ?_
            replace hf := gU hf ho258
            exact (law_no hf).elim
      · replace hf := gp_f c299_299 hf
        refine lv_iconst (v := 0) hx hb d_Lw_law_302 (by decide) ?_
        replace hf := gU hf ho258
        exact (law_no hf).elim
    replace hf := gp_f s285_2 hf
    by_cases s285_3 : ((xs (gn i4_258)) &&& 31) = (3 : Int32)
    · replace hf := gp_t s285_3 hf
      refine gx_topi s285_3 ?_
      refine lv_tableIn (off := 285) (tgt := 324) hx hb d_Lw_law_39 (by decide) (by decide) rfl (by decide) ?_
      refine lv_aload_n hx hb d_Lw_law_324 rfl (lv_at hl 2 rfl) ?_
      refine lv_aload_n hx hb d_Lw_law_325 rfl (lv_at hl 1 rfl) ?_
      refine lv_iload hx hb d_Lw_law_326 (lv_at hl 0 rfl) ?_
      refine lv_iconst (v := 1) hx hb d_Lw_law_328 (by decide) ?_
      refine lv_iadd hx hb d_Lw_law_329 ?_
      refine gy_sld hf hx hb hX hbl hbA Y d_Lw_law_330 (fun hf => ?_)
      refine lv_aload_n hx hb d_Lw_law_331 rfl (lv_at hl 4 rfl) ?_
      have hl : lv_has ls 7 [(4, Value.int i4_258), (0, Value.ref bq), (1, Value.ref (b 0)), (2, Value.ref (b 46)), (3, Value.ref (b 116))] := lv_sub hl [0, 1, 2, 3, 4] rfl
      obtain ⟨x302, X302, hF302, hf⟩ := gCi_el hf
      refine gA_callH (fr := 11) (lo := 264) (o1 := (gR.i x302, X302)) (ig := .invokestatic 109) (av := [Value.ref (b 0), Value.int (xs (gn (i4_258 + 1))), Value.ref (b 116)]) hC Y ⟨hRc, hRs⟩ (fun hc9 hs9 ws h hS hw => K_Lw_erase l htr D tys z _ ws h hS t ht b X258 hw (xs (gn (i4_258 + 1))) hc9 hs9 (gR.i x302, X302) hF302) (gx_invSH (As := [Value.ref (b 0), Value.int (xs (gn (i4_258 + 1))), Value.ref (b 116)]) (rest := []) hx hb hown hts km_Lw_109 kS_Lw_erase kN_Lw kc_Lw_erase (by decide) (show (parseMethodDescriptor y_Lw_erase.desc).map (fun d => d.parameters.length) = some 3 by decide +kernel) rfl rfl d_Lw_law_332) (gx_cwHA hts kc_Lw_erase kN_Lw ⟨Nat.le_of_ble_eq_true rfl, Nat.le_of_ble_eq_true rfl⟩) hb hml hz hK hY hAz hA hl.1 (lv_room (Nat.le_of_ble_eq_true rfl)) d_Lw_law_332 (fun vz9 b H locs cells slots e9 hb9 hC Y => ?_) (fun xz9 Ez9 ce b H locs cells slots e9 hce hC Y => ?_)
      rotate_left
      · have e9 : (Sum.inr Ez9 : Option Value ⊕ String) = Sum.inl (some (Value.int x302)) := e9
        cases e9
      have e9 : (Sum.inl vz9 : Option Value ⊕ String) = Sum.inl (some (Value.int x302)) := e9
      cases e9
      replace hl : lv_has ls 7 [(4, Value.int i4_258), (0, Value.ref bq), (1, Value.ref (b 0)), (2, Value.ref (b 46)), (3, Value.ref (b 116))] := by rw [hb9 0 (gNm_s (by decide))]; rw [hb9 46 (gNm_s (by decide))]; rw [hb9 116 (gNm_s (by decide))]; exact hl
      refine W.eq (g2 := F0 m 335 ls [Value.int x302]) (by rfl) ?_
      refine lv_istore (lv' := [(5, Value.int x302), (4, Value.int i4_258), (0, Value.ref bq), (1, Value.ref (b 0)), (2, Value.ref (b 46)), (3, Value.ref (b 116))]) hx hb d_Lw_law_335 hl (by decide) rfl (fun ls hl => ?_)
      refine lv_aload_n hx hb d_Lw_law_337 rfl (lv_at hl 4 rfl) ?_
      refine lv_aload_n hx hb d_Lw_law_338 rfl (lv_at hl 2 rfl) ?_
      refine lv_iload hx hb d_Lw_law_339 (lv_at hl 1 rfl) ?_
      refine lv_iconst (v := 1) hx hb d_Lw_law_341 (by decide) ?_
      refine lv_iadd hx hb d_Lw_law_342 ?_
      refine gy_sld hf hx hb hX hbl hbA Y d_Lw_law_343 (fun hf => ?_)
      obtain ⟨x303, X303, hF303, hf⟩ := gCi_el hf
      refine gy_callI (rm := { frames := 5, cells := 0, slots := 0, locals := 105 }) (ig := .invokevirtual 111) (av := [Value.ref (b 46), Value.int (xs (gn (i4_258 + 1)))]) Y (fun ws h hS hw => K_Mo_erase l htr D tys z _ ws h hS t ht b X302 hw (xs (gn (i4_258 + 1))) (gR.i x303, X303) hF303) (gx_invV (As := [Value.int (xs (gn (i4_258 + 1)))]) (rest := []) hx hb hown hts km_Lw_111 kI_Mo_erase kV_Mo_erase kc_Mo_erase (by decide) (show (parseMethodDescriptor y_Mo_erase.desc).map (fun d => d.parameters.length) = some 1 by decide +kernel) (gy_recv (ci := 8) hK Y rfl gF_46) rfl rfl d_Lw_law_344) (gx_cw (z := 0) hts kc_Mo_erase kN_Mo rfl rfl ⟨Nat.le_of_ble_eq_true rfl, Nat.le_of_ble_eq_true rfl⟩) hb hml hz hK hY hAz hA hl.1 (lv_room (Nat.le_of_ble_eq_true rfl)) d_Lw_law_344 ⟨hC.rc0 hRc, hC.rs0 hRs⟩ (fun H locs Y => ?_)
      refine lv_istore (lv' := [(6, Value.int x303), (5, Value.int x302), (4, Value.int i4_258), (0, Value.ref bq), (1, Value.ref (b 0)), (2, Value.ref (b 46)), (3, Value.ref (b 116))]) hx hb d_Lw_law_347 hl (by decide) rfl (fun ls hl => ?_)
      refine lv_aload_n hx hb d_Lw_law_349 rfl (lv_at hl 5 rfl) ?_
      obtain ⟨x304, X304, hF304, hf⟩ := gCi_el hf
      refine gy_callI (rm := { frames := 1, cells := 0, slots := 0, locals := 12 }) (ig := .invokevirtual 98) (av := [Value.ref (b 46)]) Y (fun ws h hS hw => K_Mo_thrown l htr D tys z _ ws h hS t ht b X303 hw (gR.i x304, X304) hF304) (gx_invV (As := []) (rest := []) hx hb hown hts km_Lw_98 kI_Mo_thrown kV_Mo_thrown kc_Mo_thrown (by decide) (show (parseMethodDescriptor y_Mo_thrown.desc).map (fun d => d.parameters.length) = some 0 by decide +kernel) (gy_recv (ci := 8) hK Y rfl gF_46) rfl rfl d_Lw_law_350) (gx_cw (z := 0) hts kc_Mo_thrown kN_Mo rfl rfl ⟨Nat.le_of_ble_eq_true rfl, Nat.le_of_ble_eq_true rfl⟩) hb hml hz hK hY hAz hA hl.1 (lv_room (Nat.le_of_ble_eq_true rfl)) d_Lw_law_350 ⟨hC.rc0 hRc, hC.rs0 hRs⟩ (fun H locs Y => ?_)
      refine lv_iload hx hb d_Lw_law_353 (lv_at hl 1 rfl) ?_
      refine lv_icmp_eq (tgt := 360) hx hb d_Lw_law_355 (by decide) (fun c355_305 => ?_) (fun c355_305 => ?_)
      · replace hf := gp_t c355_305 hf
        refine lv_iload hx hb d_Lw_law_360 (lv_at hl 1 rfl) ?_
        refine lv_if_ne (tgt := 377) hx hb d_Lw_law_362 (by decide) (fun c362_306 => ?_) (fun c362_306 => ?_)
        · replace hf := gp_f c362_306 hf
          exact J377 (X304, i4_258) _ _ _ _ _ _ hf (lv_sub hl [2, 3, 4, 5, 6] rfl) (hC.mv Y) Y.rb
        · replace hf := gp_t c362_306 hf
          refine lv_aload_n hx hb d_Lw_law_365 rfl (lv_at hl 6 rfl) ?_
          refine lv_iconst (v := 0) hx hb d_Lw_law_366 (by decide) ?_
          refine gy_lald hx hb hK Y ht6 d_Lw_law_367 ?_
          refine lv_iload hx hb d_Lw_law_368 (lv_at hl 0 rfl) ?_
          refine lv_i2l (v := x303.toInt64) hx hb d_Lw_law_370 rfl ?_
          refine gx_leq (tgt := 377) hx hb d_Lw_law_371 d_Lw_law_372 (by decide) (fun c371_307 => ?_) (fun c371_307 => ?_)
          · replace hf := gp_t c371_307 hf
            exact J377 (X304, i4_258) _ _ _ _ _ _ hf (lv_sub hl [2, 3, 4, 5, 6] rfl) (hC.mv Y) Y.rb
          · replace hf := gp_f c371_307 hf
            refine lv_iconst (v := 0) hx hb d_Lw_law_375 (by decide) ?_
            replace hf := gU hf ho258
            exact (law_no hf).elim
      · replace hf := gp_f c355_305 hf
        refine lv_iconst (v := 0) hx hb d_Lw_law_358 (by decide) ?_
        replace hf := gU hf ho258
        exact (law_no hf).elim
    replace hf := gp_f s285_3 hf
    by_cases s285_4 : ((xs (gn i4_258)) &&& 31) = (4 : Int32)
    · replace hf := gp_t s285_4 hf
      refine gx_topi s285_4 ?_
      refine lv_tableIn (off := 341) (tgt := 380) hx hb d_Lw_law_39 (by decide) (by decide) rfl (by decide) ?_
      refine lv_aload_n hx hb d_Lw_law_380 rfl (lv_at hl 2 rfl) ?_
      refine lv_aload_n hx hb d_Lw_law_381 rfl (lv_at hl 4 rfl) ?_
      have hl : lv_has ls 7 [(4, Value.int i4_258), (0, Value.ref bq), (1, Value.ref (b 0)), (2, Value.ref (b 46)), (3, Value.ref (b 116))] := lv_sub hl [0, 1, 2, 3, 4] rfl
      obtain ⟨x308, X308, hF308, hf⟩ := gCi_el hf
      refine gA_callH (fr := 13) (lo := 302) (o1 := (gR.i x308, X308)) (ig := .invokestatic 112) (av := [Value.ref (b 0), Value.ref (b 116)]) hC Y ⟨hRc, hRs⟩ (fun hc9 hs9 ws h hS hw => K_Lw_flush l htr D tys z _ ws h hS t ht b X258 hw hc9 hs9 (gR.i x308, X308) hF308) (gx_invSH (As := [Value.ref (b 0), Value.ref (b 116)]) (rest := []) hx hb hown hts km_Lw_112 kS_Lw_flush kN_Lw kc_Lw_flush (by decide) (show (parseMethodDescriptor y_Lw_flush.desc).map (fun d => d.parameters.length) = some 2 by decide +kernel) rfl rfl d_Lw_law_382) (gx_cwHA hts kc_Lw_flush kN_Lw ⟨Nat.le_of_ble_eq_true rfl, Nat.le_of_ble_eq_true rfl⟩) hb hml hz hK hY hAz hA hl.1 (lv_room (Nat.le_of_ble_eq_true rfl)) d_Lw_law_382 (fun vz9 b H locs cells slots e9 hb9 hC Y => ?_) (fun xz9 Ez9 ce b H locs cells slots e9 hce hC Y => ?_)
      rotate_left
      · have e9 : (Sum.inr Ez9 : Option Value ⊕ String) = Sum.inl (some (Value.int x308)) := e9
        cases e9
      have e9 : (Sum.inl vz9 : Option Value ⊕ String) = Sum.inl (some (Value.int x308)) := e9
      cases e9
      replace hl : lv_has ls 7 [(4, Value.int i4_258), (0, Value.ref bq), (1, Value.ref (b 0)), (2, Value.ref (b 46)), (3, Value.ref (b 116))] := by rw [hb9 0 (gNm_s (by decide))]; rw [hb9 46 (gNm_s (by decide))]; rw [hb9 116 (gNm_s (by decide))]; exact hl
      refine W.eq (g2 := F0 m 385 ls [Value.int x308]) (by rfl) ?_
      refine lv_istore (lv' := [(5, Value.int x308), (4, Value.int i4_258), (0, Value.ref bq), (1, Value.ref (b 0)), (2, Value.ref (b 46)), (3, Value.ref (b 116))]) hx hb d_Lw_law_385 hl (by decide) rfl (fun ls hl => ?_)
      refine lv_aload_n hx hb d_Lw_law_387 rfl (lv_at hl 4 rfl) ?_
      obtain ⟨x309, X309, hF309, hf⟩ := gCi_el hf
      refine gy_callI (rm := { frames := 6, cells := 0, slots := 0, locals := 123 }) (ig := .invokevirtual 115) (av := [Value.ref (b 46)]) Y (fun ws h hS hw => K_Mo_flush l htr D tys z _ ws h hS t ht b X308 hw (gR.i x309, X309) hF309) (gx_invV (As := []) (rest := []) hx hb hown hts km_Lw_115 kI_Mo_flush kV_Mo_flush kc_Mo_flush (by decide) (show (parseMethodDescriptor y_Mo_flush.desc).map (fun d => d.parameters.length) = some 0 by decide +kernel) (gy_recv (ci := 8) hK Y rfl gF_46) rfl rfl d_Lw_law_388) (gx_cw (z := 0) hts kc_Mo_flush kN_Mo rfl rfl ⟨Nat.le_of_ble_eq_true rfl, Nat.le_of_ble_eq_true rfl⟩) hb hml hz hK hY hAz hA hl.1 (lv_room (Nat.le_of_ble_eq_true rfl)) d_Lw_law_388 ⟨hC.rc0 hRc, hC.rs0 hRs⟩ (fun H locs Y => ?_)
      refine lv_istore (lv' := [(6, Value.int x309), (5, Value.int x308), (4, Value.int i4_258), (0, Value.ref bq), (1, Value.ref (b 0)), (2, Value.ref (b 46)), (3, Value.ref (b 116))]) hx hb d_Lw_law_391 hl (by decide) rfl (fun ls hl => ?_)
      refine lv_aload_n hx hb d_Lw_law_393 rfl (lv_at hl 5 rfl) ?_
      obtain ⟨x310, X310, hF310, hf⟩ := gCi_el hf
      refine gy_callI (rm := { frames := 1, cells := 0, slots := 0, locals := 12 }) (ig := .invokevirtual 98) (av := [Value.ref (b 46)]) Y (fun ws h hS hw => K_Mo_thrown l htr D tys z _ ws h hS t ht b X309 hw (gR.i x310, X310) hF310) (gx_invV (As := []) (rest := []) hx hb hown hts km_Lw_98 kI_Mo_thrown kV_Mo_thrown kc_Mo_thrown (by decide) (show (parseMethodDescriptor y_Mo_thrown.desc).map (fun d => d.parameters.length) = some 0 by decide +kernel) (gy_recv (ci := 8) hK Y rfl gF_46) rfl rfl d_Lw_law_394) (gx_cw (z := 0) hts kc_Mo_thrown kN_Mo rfl rfl ⟨Nat.le_of_ble_eq_true rfl, Nat.le_of_ble_eq_true rfl⟩) hb hml hz hK hY hAz hA hl.1 (lv_room (Nat.le_of_ble_eq_true rfl)) d_Lw_law_394 ⟨hC.rc0 hRc, hC.rs0 hRs⟩ (fun H locs Y => ?_)
      refine lv_iload hx hb d_Lw_law_397 (lv_at hl 1 rfl) ?_
      refine lv_icmp_eq (tgt := 404) hx hb d_Lw_law_399 (by decide) (fun c399_311 => ?_) (fun c399_311 => ?_)
      · replace hf := gp_t c399_311 hf
        refine lv_iload hx hb d_Lw_law_404 (lv_at hl 1 rfl) ?_
        refine lv_if_ne (tgt := 421) hx hb d_Lw_law_406 (by decide) (fun c406_312 => ?_) (fun c406_312 => ?_)
        · replace hf := gp_f c406_312 hf
          exact J421 (X310, i4_258) _ _ _ _ _ _ hf (lv_sub hl [2, 3, 4, 5, 6] rfl) (hC.mv Y) Y.rb
        · replace hf := gp_t c406_312 hf
          refine lv_aload_n hx hb d_Lw_law_409 rfl (lv_at hl 6 rfl) ?_
          refine lv_iconst (v := 0) hx hb d_Lw_law_410 (by decide) ?_
          refine gy_lald hx hb hK Y ht6 d_Lw_law_411 ?_
          refine lv_iload hx hb d_Lw_law_412 (lv_at hl 0 rfl) ?_
          refine lv_i2l (v := x309.toInt64) hx hb d_Lw_law_414 rfl ?_
          refine gx_leq (tgt := 421) hx hb d_Lw_law_415 d_Lw_law_416 (by decide) (fun c415_313 => ?_) (fun c415_313 => ?_)
          · replace hf := gp_t c415_313 hf
            exact J421 (X310, i4_258) _ _ _ _ _ _ hf (lv_sub hl [2, 3, 4, 5, 6] rfl) (hC.mv Y) Y.rb
          · replace hf := gp_f c415_313 hf
            refine lv_iconst (v := 0) hx hb d_Lw_law_419 (by decide) ?_
            replace hf := gU hf ho258
            exact (law_no hf).elim
      · replace hf := gp_f c399_311 hf
        refine lv_iconst (v := 0) hx hb d_Lw_law_402 (by decide) ?_
        replace hf := gU hf ho258
        exact (law_no hf).elim
    replace hf := gp_f s285_4 hf
    by_cases s285_5 : ((xs (gn i4_258)) &&& 31) = (5 : Int32)
    · replace hf := gp_t s285_5 hf
      refine gx_topi s285_5 ?_
      refine lv_tableIn (off := 385) (tgt := 424) hx hb d_Lw_law_39 (by decide) (by decide) rfl (by decide) ?_
      refine lv_aload_n hx hb d_Lw_law_424 rfl (lv_at hl 2 rfl) ?_
      refine lv_aload_n hx hb d_Lw_law_425 rfl (lv_at hl 1 rfl) ?_
      refine lv_iload hx hb d_Lw_law_426 (lv_at hl 0 rfl) ?_
      refine lv_iconst (v := 1) hx hb d_Lw_law_428 (by decide) ?_
      refine lv_iadd hx hb d_Lw_law_429 ?_
      refine gy_sld hf hx hb hX hbl hbA Y d_Lw_law_430 (fun hf => ?_)
      refine lv_aload_n hx hb d_Lw_law_431 rfl (lv_at hl 4 rfl) ?_
      have hl : lv_has ls 7 [(4, Value.int i4_258), (0, Value.ref bq), (1, Value.ref (b 0)), (2, Value.ref (b 46)), (3, Value.ref (b 116))] := lv_sub hl [0, 1, 2, 3, 4] rfl
      obtain ⟨x314, X314, hF314, hf⟩ := gCi_el hf
      refine gA_callH (fr := 13) (lo := 308) (o1 := (gR.i x314, X314)) (ig := .invokestatic 116) (av := [Value.ref (b 0), Value.int (xs (gn (i4_258 + 1))), Value.ref (b 116)]) hC Y ⟨hRc, hRs⟩ (fun hc9 hs9 ws h hS hw => K_Lw_merge l htr D tys z _ ws h hS t ht b X258 hw (xs (gn (i4_258 + 1))) hc9 hs9 (gR.i x314, X314) hF314) (gx_invSH (As := [Value.ref (b 0), Value.int (xs (gn (i4_258 + 1))), Value.ref (b 116)]) (rest := []) hx hb hown hts km_Lw_116 kS_Lw_merge kN_Lw kc_Lw_merge (by decide) (show (parseMethodDescriptor y_Lw_merge.desc).map (fun d => d.parameters.length) = some 3 by decide +kernel) rfl rfl d_Lw_law_432) (gx_cwHA hts kc_Lw_merge kN_Lw ⟨Nat.le_of_ble_eq_true rfl, Nat.le_of_ble_eq_true rfl⟩) hb hml hz hK hY hAz hA hl.1 (lv_room (Nat.le_of_ble_eq_true rfl)) d_Lw_law_432 (fun vz9 b H locs cells slots e9 hb9 hC Y => ?_) (fun xz9 Ez9 ce b H locs cells slots e9 hce hC Y => ?_)
      rotate_left
      · have e9 : (Sum.inr Ez9 : Option Value ⊕ String) = Sum.inl (some (Value.int x314)) := e9
        cases e9
      have e9 : (Sum.inl vz9 : Option Value ⊕ String) = Sum.inl (some (Value.int x314)) := e9
      cases e9
      replace hl : lv_has ls 7 [(4, Value.int i4_258), (0, Value.ref bq), (1, Value.ref (b 0)), (2, Value.ref (b 46)), (3, Value.ref (b 116))] := by rw [hb9 0 (gNm_s (by decide))]; rw [hb9 46 (gNm_s (by decide))]; rw [hb9 116 (gNm_s (by decide))]; exact hl
      refine W.eq (g2 := F0 m 435 ls [Value.int x314]) (by rfl) ?_
      refine lv_istore (lv' := [(5, Value.int x314), (4, Value.int i4_258), (0, Value.ref bq), (1, Value.ref (b 0)), (2, Value.ref (b 46)), (3, Value.ref (b 116))]) hx hb d_Lw_law_435 hl (by decide) rfl (fun ls hl => ?_)
      refine lv_aload_n hx hb d_Lw_law_437 rfl (lv_at hl 4 rfl) ?_
      refine lv_aload_n hx hb d_Lw_law_438 rfl (lv_at hl 2 rfl) ?_
      refine lv_iload hx hb d_Lw_law_439 (lv_at hl 1 rfl) ?_
      refine lv_iconst (v := 1) hx hb d_Lw_law_441 (by decide) ?_
      refine lv_iadd hx hb d_Lw_law_442 ?_
      refine gy_sld hf hx hb hX hbl hbA Y d_Lw_law_443 (fun hf => ?_)
      obtain ⟨x315, X315, hF315, hf⟩ := gCi_el hf
      refine gy_callI (rm := { frames := 5, cells := 0, slots := 0, locals := 107 }) (ig := .invokevirtual 118) (av := [Value.ref (b 46), Value.int (xs (gn (i4_258 + 1)))]) Y (fun ws h hS hw => K_Mo_merge l htr D tys z _ ws h hS t ht b X314 hw (xs (gn (i4_258 + 1))) (gR.i x315, X315) hF315) (gx_invV (As := [Value.int (xs (gn (i4_258 + 1)))]) (rest := []) hx hb hown hts km_Lw_118 kI_Mo_merge kV_Mo_merge kc_Mo_merge (by decide) (show (parseMethodDescriptor y_Mo_merge.desc).map (fun d => d.parameters.length) = some 1 by decide +kernel) (gy_recv (ci := 8) hK Y rfl gF_46) rfl rfl d_Lw_law_444) (gx_cw (z := 0) hts kc_Mo_merge kN_Mo rfl rfl ⟨Nat.le_of_ble_eq_true rfl, Nat.le_of_ble_eq_true rfl⟩) hb hml hz hK hY hAz hA hl.1 (lv_room (Nat.le_of_ble_eq_true rfl)) d_Lw_law_444 ⟨hC.rc0 hRc, hC.rs0 hRs⟩ (fun H locs Y => ?_)
      refine lv_istore (lv' := [(6, Value.int x315), (5, Value.int x314), (4, Value.int i4_258), (0, Value.ref bq), (1, Value.ref (b 0)), (2, Value.ref (b 46)), (3, Value.ref (b 116))]) hx hb d_Lw_law_447 hl (by decide) rfl (fun ls hl => ?_)
      refine lv_aload_n hx hb d_Lw_law_449 rfl (lv_at hl 5 rfl) ?_
      obtain ⟨x316, X316, hF316, hf⟩ := gCi_el hf
      refine gy_callI (rm := { frames := 1, cells := 0, slots := 0, locals := 12 }) (ig := .invokevirtual 98) (av := [Value.ref (b 46)]) Y (fun ws h hS hw => K_Mo_thrown l htr D tys z _ ws h hS t ht b X315 hw (gR.i x316, X316) hF316) (gx_invV (As := []) (rest := []) hx hb hown hts km_Lw_98 kI_Mo_thrown kV_Mo_thrown kc_Mo_thrown (by decide) (show (parseMethodDescriptor y_Mo_thrown.desc).map (fun d => d.parameters.length) = some 0 by decide +kernel) (gy_recv (ci := 8) hK Y rfl gF_46) rfl rfl d_Lw_law_450) (gx_cw (z := 0) hts kc_Mo_thrown kN_Mo rfl rfl ⟨Nat.le_of_ble_eq_true rfl, Nat.le_of_ble_eq_true rfl⟩) hb hml hz hK hY hAz hA hl.1 (lv_room (Nat.le_of_ble_eq_true rfl)) d_Lw_law_450 ⟨hC.rc0 hRc, hC.rs0 hRs⟩ (fun H locs Y => ?_)
      refine lv_iload hx hb d_Lw_law_453 (lv_at hl 1 rfl) ?_
      refine lv_icmp_eq (tgt := 460) hx hb d_Lw_law_455 (by decide) (fun c455_317 => ?_) (fun c455_317 => ?_)
      · replace hf := gp_t c455_317 hf
        refine lv_iload hx hb d_Lw_law_460 (lv_at hl 1 rfl) ?_
        refine lv_if_ne (tgt := 477) hx hb d_Lw_law_462 (by decide) (fun c462_318 => ?_) (fun c462_318 => ?_)
        · replace hf := gp_f c462_318 hf
          exact J477 (X316, i4_258) _ _ _ _ _ _ hf (lv_sub hl [2, 3, 4, 5, 6] rfl) (hC.mv Y) Y.rb
        · replace hf := gp_t c462_318 hf
          refine lv_aload_n hx hb d_Lw_law_465 rfl (lv_at hl 6 rfl) ?_
          refine lv_iconst (v := 0) hx hb d_Lw_law_466 (by decide) ?_
          refine gy_lald hx hb hK Y ht6 d_Lw_law_467 ?_
          refine lv_iload hx hb d_Lw_law_468 (lv_at hl 0 rfl) ?_
          refine lv_i2l (v := x315.toInt64) hx hb d_Lw_law_470 rfl ?_
          refine gx_leq (tgt := 477) hx hb d_Lw_law_471 d_Lw_law_472 (by decide) (fun c471_319 => ?_) (fun c471_319 => ?_)
          · replace hf := gp_t c471_319 hf
            exact J477 (X316, i4_258) _ _ _ _ _ _ hf (lv_sub hl [2, 3, 4, 5, 6] rfl) (hC.mv Y) Y.rb
          · replace hf := gp_f c471_319 hf
            refine lv_iconst (v := 0) hx hb d_Lw_law_475 (by decide) ?_
            replace hf := gU hf ho258
            exact (law_no hf).elim
      · replace hf := gp_f c455_317 hf
        refine lv_iconst (v := 0) hx hb d_Lw_law_458 (by decide) ?_
        replace hf := gU hf ho258
        exact (law_no hf).elim
    replace hf := gp_f s285_5 hf
    by_cases s285_6 : ((xs (gn i4_258)) &&& 31) = (6 : Int32)
    · replace hf := gp_t s285_6 hf
      refine gx_topi s285_6 ?_
      refine lv_tableIn (off := 441) (tgt := 480) hx hb d_Lw_law_39 (by decide) (by decide) rfl (by decide) ?_
      refine lv_aload_n hx hb d_Lw_law_480 rfl (lv_at hl 2 rfl) ?_
      refine lv_aload_n hx hb d_Lw_law_481 rfl (lv_at hl 1 rfl) ?_
      refine lv_iload hx hb d_Lw_law_482 (lv_at hl 0 rfl) ?_
      refine lv_iconst (v := 1) hx hb d_Lw_law_484 (by decide) ?_
      refine lv_iadd hx hb d_Lw_law_485 ?_
      refine gy_sld hf hx hb hX hbl hbA Y d_Lw_law_486 (fun hf => ?_)
      refine lv_aload_n hx hb d_Lw_law_487 rfl (lv_at hl 1 rfl) ?_
      refine lv_iload hx hb d_Lw_law_488 (lv_at hl 0 rfl) ?_
      refine lv_iconst (v := 2) hx hb d_Lw_law_490 (by decide) ?_
      refine lv_iadd hx hb d_Lw_law_491 ?_
      refine gy_sld hf hx hb hX hbl hbA Y d_Lw_law_492 (fun hf => ?_)
      refine lv_if_eq (tgt := 500) hx hb d_Lw_law_493 (by decide) (fun c493_320 => ?_) (fun c493_320 => ?_)
      · replace hf := gp_t c493_320 hf
        refine lv_iconst (v := 0) hx hb d_Lw_law_500 (by decide) ?_
        exact J501 (X258, i4_258, 0, xs (gn (i4_258 + 1))) _ _ _ _ _ _ hf (lv_sub hl [0, 1, 2, 3, 4] rfl) (hC.mv Y) Y.rb
      · replace hf := gp_f c493_320 hf
        refine lv_iconst (v := 1) hx hb d_Lw_law_496 (by decide) ?_
        refine lv_goto (tgt := 501) hx hb d_Lw_law_497 (by decide) ?_
        exact J501 (X258, i4_258, 1, xs (gn (i4_258 + 1))) _ _ _ _ _ _ hf (lv_sub hl [0, 1, 2, 3, 4] rfl) (hC.mv Y) Y.rb
    replace hf := gp_f s285_6 hf
    by_cases s285_7 : ((xs (gn i4_258)) &&& 31) = (7 : Int32)
    · replace hf := gp_t s285_7 hf
      refine gx_topi s285_7 ?_
      refine lv_tableIn (off := 525) (tgt := 564) hx hb d_Lw_law_39 (by decide) (by decide) rfl (by decide) ?_
      refine lv_aload_n hx hb d_Lw_law_564 rfl (lv_at hl 2 rfl) ?_
      refine lv_aload_n hx hb d_Lw_law_565 rfl (lv_at hl 4 rfl) ?_
      have hl : lv_has ls 7 [(4, Value.int i4_258), (0, Value.ref bq), (1, Value.ref (b 0)), (2, Value.ref (b 46)), (3, Value.ref (b 116))] := lv_sub hl [0, 1, 2, 3, 4] rfl
      obtain ⟨x321, X321, hF321, hf⟩ := gCi_el hf
      refine gA_callH (fr := 15) (lo := 344) (o1 := (gR.i x321, X321)) (ig := .invokestatic 123) (av := [Value.ref (b 0), Value.ref (b 116)]) hC Y ⟨hRc, hRs⟩ (fun hc9 hs9 ws h hS hw => K_Lw_prepare l htr D tys z _ ws h hS t ht b X258 hw hc9 hs9 (gR.i x321, X321) hF321) (gx_invSH (As := [Value.ref (b 0), Value.ref (b 116)]) (rest := []) hx hb hown hts km_Lw_123 kS_Lw_prepare kN_Lw kc_Lw_prepare (by decide) (show (parseMethodDescriptor y_Lw_prepare.desc).map (fun d => d.parameters.length) = some 2 by decide +kernel) rfl rfl d_Lw_law_566) (gx_cwHA hts kc_Lw_prepare kN_Lw ⟨Nat.le_of_ble_eq_true rfl, Nat.le_of_ble_eq_true rfl⟩) hb hml hz hK hY hAz hA hl.1 (lv_room (Nat.le_of_ble_eq_true rfl)) d_Lw_law_566 (fun vz9 b H locs cells slots e9 hb9 hC Y => ?_) (fun xz9 Ez9 ce b H locs cells slots e9 hce hC Y => ?_)
      rotate_left
      · have e9 : (Sum.inr Ez9 : Option Value ⊕ String) = Sum.inl (some (Value.int x321)) := e9
        cases e9
      have e9 : (Sum.inl vz9 : Option Value ⊕ String) = Sum.inl (some (Value.int x321)) := e9
      cases e9
      replace hl : lv_has ls 7 [(4, Value.int i4_258), (0, Value.ref bq), (1, Value.ref (b 0)), (2, Value.ref (b 46)), (3, Value.ref (b 116))] := by rw [hb9 0 (gNm_s (by decide))]; rw [hb9 46 (gNm_s (by decide))]; rw [hb9 116 (gNm_s (by decide))]; exact hl
      refine W.eq (g2 := F0 m 569 ls [Value.int x321]) (by rfl) ?_
      refine lv_istore (lv' := [(5, Value.int x321), (4, Value.int i4_258), (0, Value.ref bq), (1, Value.ref (b 0)), (2, Value.ref (b 46)), (3, Value.ref (b 116))]) hx hb d_Lw_law_569 hl (by decide) rfl (fun ls hl => ?_)
      refine lv_aload_n hx hb d_Lw_law_571 rfl (lv_at hl 4 rfl) ?_
      obtain ⟨x322, X322, hF322, hf⟩ := gCi_el hf
      refine gy_callI (rm := { frames := 7, cells := 0, slots := 0, locals := 144 }) (ig := .invokevirtual 125) (av := [Value.ref (b 46)]) Y (fun ws h hS hw => K_Mo_prepare l htr D tys z _ ws h hS t ht b X321 hw (gR.i x322, X322) hF322) (gx_invV (As := []) (rest := []) hx hb hown hts km_Lw_125 kI_Mo_prepare kV_Mo_prepare kc_Mo_prepare (by decide) (show (parseMethodDescriptor y_Mo_prepare.desc).map (fun d => d.parameters.length) = some 0 by decide +kernel) (gy_recv (ci := 8) hK Y rfl gF_46) rfl rfl d_Lw_law_572) (gx_cw (z := 0) hts kc_Mo_prepare kN_Mo rfl rfl ⟨Nat.le_of_ble_eq_true rfl, Nat.le_of_ble_eq_true rfl⟩) hb hml hz hK hY hAz hA hl.1 (lv_room (Nat.le_of_ble_eq_true rfl)) d_Lw_law_572 ⟨hC.rc0 hRc, hC.rs0 hRs⟩ (fun H locs Y => ?_)
      refine lv_istore (lv' := [(6, Value.int x322), (5, Value.int x321), (4, Value.int i4_258), (0, Value.ref bq), (1, Value.ref (b 0)), (2, Value.ref (b 46)), (3, Value.ref (b 116))]) hx hb d_Lw_law_575 hl (by decide) rfl (fun ls hl => ?_)
      refine lv_aload_n hx hb d_Lw_law_577 rfl (lv_at hl 5 rfl) ?_
      obtain ⟨x323, X323, hF323, hf⟩ := gCi_el hf
      refine gy_callI (rm := { frames := 1, cells := 0, slots := 0, locals := 12 }) (ig := .invokevirtual 98) (av := [Value.ref (b 46)]) Y (fun ws h hS hw => K_Mo_thrown l htr D tys z _ ws h hS t ht b X322 hw (gR.i x323, X323) hF323) (gx_invV (As := []) (rest := []) hx hb hown hts km_Lw_98 kI_Mo_thrown kV_Mo_thrown kc_Mo_thrown (by decide) (show (parseMethodDescriptor y_Mo_thrown.desc).map (fun d => d.parameters.length) = some 0 by decide +kernel) (gy_recv (ci := 8) hK Y rfl gF_46) rfl rfl d_Lw_law_578) (gx_cw (z := 0) hts kc_Mo_thrown kN_Mo rfl rfl ⟨Nat.le_of_ble_eq_true rfl, Nat.le_of_ble_eq_true rfl⟩) hb hml hz hK hY hAz hA hl.1 (lv_room (Nat.le_of_ble_eq_true rfl)) d_Lw_law_578 ⟨hC.rc0 hRc, hC.rs0 hRs⟩ (fun H locs Y => ?_)
      refine lv_iload hx hb d_Lw_law_581 (lv_at hl 1 rfl) ?_
      refine lv_icmp_eq (tgt := 588) hx hb d_Lw_law_583 (by decide) (fun c583_324 => ?_) (fun c583_324 => ?_)
      · replace hf := gp_t c583_324 hf
        refine lv_iload hx hb d_Lw_law_588 (lv_at hl 1 rfl) ?_
        refine lv_if_ne (tgt := 605) hx hb d_Lw_law_590 (by decide) (fun c590_325 => ?_) (fun c590_325 => ?_)
        · replace hf := gp_f c590_325 hf
          exact J605 (X323, i4_258) _ _ _ _ _ _ hf (lv_sub hl [2, 3, 4, 5, 6] rfl) (hC.mv Y) Y.rb
        · replace hf := gp_t c590_325 hf
          refine lv_aload_n hx hb d_Lw_law_593 rfl (lv_at hl 6 rfl) ?_
          refine lv_iconst (v := 0) hx hb d_Lw_law_594 (by decide) ?_
          refine gy_lald hx hb hK Y ht6 d_Lw_law_595 ?_
          refine lv_iload hx hb d_Lw_law_596 (lv_at hl 0 rfl) ?_
          refine lv_i2l (v := x322.toInt64) hx hb d_Lw_law_598 rfl ?_
          refine gx_leq (tgt := 605) hx hb d_Lw_law_599 d_Lw_law_600 (by decide) (fun c599_326 => ?_) (fun c599_326 => ?_)
          · replace hf := gp_t c599_326 hf
            exact J605 (X323, i4_258) _ _ _ _ _ _ hf (lv_sub hl [2, 3, 4, 5, 6] rfl) (hC.mv Y) Y.rb
          · replace hf := gp_f c599_326 hf
            refine lv_iconst (v := 0) hx hb d_Lw_law_603 (by decide) ?_
            replace hf := gU hf ho258
            exact (law_no hf).elim
      · replace hf := gp_f c583_324 hf
        refine lv_iconst (v := 0) hx hb d_Lw_law_586 (by decide) ?_
        replace hf := gU hf ho258
        exact (law_no hf).elim
    replace hf := gp_f s285_7 hf
    by_cases s285_8 : ((xs (gn i4_258)) &&& 31) = (8 : Int32)
    · replace hf := gp_t s285_8 hf
      refine gx_topi s285_8 ?_
      refine lv_tableIn (off := 569) (tgt := 608) hx hb d_Lw_law_39 (by decide) (by decide) rfl (by decide) ?_
      refine lv_aload_n hx hb d_Lw_law_608 rfl (lv_at hl 2 rfl) ?_
      refine lv_aload_n hx hb d_Lw_law_609 rfl (lv_at hl 4 rfl) ?_
      have hl : lv_has ls 7 [(4, Value.int i4_258), (0, Value.ref bq), (1, Value.ref (b 0)), (2, Value.ref (b 46)), (3, Value.ref (b 116))] := lv_sub hl [0, 1, 2, 3, 4] rfl
      obtain ⟨x327, X327, hF327, hf⟩ := gCi_el hf
      refine gA_callH (fr := 15) (lo := 344) (o1 := (gR.i x327, X327)) (ig := .invokestatic 126) (av := [Value.ref (b 0), Value.ref (b 116)]) hC Y ⟨hRc, hRs⟩ (fun hc9 hs9 ws h hS hw => K_Lw_commit l htr D tys z _ ws h hS t ht b X258 hw hc9 hs9 (gR.i x327, X327) hF327) (gx_invSH (As := [Value.ref (b 0), Value.ref (b 116)]) (rest := []) hx hb hown hts km_Lw_126 kS_Lw_commit kN_Lw kc_Lw_commit (by decide) (show (parseMethodDescriptor y_Lw_commit.desc).map (fun d => d.parameters.length) = some 2 by decide +kernel) rfl rfl d_Lw_law_610) (gx_cwHA hts kc_Lw_commit kN_Lw ⟨Nat.le_of_ble_eq_true rfl, Nat.le_of_ble_eq_true rfl⟩) hb hml hz hK hY hAz hA hl.1 (lv_room (Nat.le_of_ble_eq_true rfl)) d_Lw_law_610 (fun vz9 b H locs cells slots e9 hb9 hC Y => ?_) (fun xz9 Ez9 ce b H locs cells slots e9 hce hC Y => ?_)
      rotate_left
      · have e9 : (Sum.inr Ez9 : Option Value ⊕ String) = Sum.inl (some (Value.int x327)) := e9
        cases e9
      have e9 : (Sum.inl vz9 : Option Value ⊕ String) = Sum.inl (some (Value.int x327)) := e9
      cases e9
      replace hl : lv_has ls 7 [(4, Value.int i4_258), (0, Value.ref bq), (1, Value.ref (b 0)), (2, Value.ref (b 46)), (3, Value.ref (b 116))] := by rw [hb9 0 (gNm_s (by decide))]; rw [hb9 46 (gNm_s (by decide))]; rw [hb9 116 (gNm_s (by decide))]; exact hl
      refine W.eq (g2 := F0 m 613 ls [Value.int x327]) (by rfl) ?_
      refine lv_istore (lv' := [(5, Value.int x327), (4, Value.int i4_258), (0, Value.ref bq), (1, Value.ref (b 0)), (2, Value.ref (b 46)), (3, Value.ref (b 116))]) hx hb d_Lw_law_613 hl (by decide) rfl (fun ls hl => ?_)
      refine lv_aload_n hx hb d_Lw_law_615 rfl (lv_at hl 4 rfl) ?_
      obtain ⟨x328, X328, hF328, hf⟩ := gCi_el hf
      refine gy_callI (rm := { frames := 8, cells := 0, slots := 0, locals := 165 }) (ig := .invokevirtual 128) (av := [Value.ref (b 46)]) Y (fun ws h hS hw => K_Mo_commit l htr D tys z _ ws h hS t ht b X327 hw (gR.i x328, X328) hF328) (gx_invV (As := []) (rest := []) hx hb hown hts km_Lw_128 kI_Mo_commit kV_Mo_commit kc_Mo_commit (by decide) (show (parseMethodDescriptor y_Mo_commit.desc).map (fun d => d.parameters.length) = some 0 by decide +kernel) (gy_recv (ci := 8) hK Y rfl gF_46) rfl rfl d_Lw_law_616) (gx_cw (z := 0) hts kc_Mo_commit kN_Mo rfl rfl ⟨Nat.le_of_ble_eq_true rfl, Nat.le_of_ble_eq_true rfl⟩) hb hml hz hK hY hAz hA hl.1 (lv_room (Nat.le_of_ble_eq_true rfl)) d_Lw_law_616 ⟨hC.rc0 hRc, hC.rs0 hRs⟩ (fun H locs Y => ?_)
      refine lv_istore (lv' := [(6, Value.int x328), (5, Value.int x327), (4, Value.int i4_258), (0, Value.ref bq), (1, Value.ref (b 0)), (2, Value.ref (b 46)), (3, Value.ref (b 116))]) hx hb d_Lw_law_619 hl (by decide) rfl (fun ls hl => ?_)
      refine lv_aload_n hx hb d_Lw_law_621 rfl (lv_at hl 5 rfl) ?_
      obtain ⟨x329, X329, hF329, hf⟩ := gCi_el hf
      refine gy_callI (rm := { frames := 1, cells := 0, slots := 0, locals := 12 }) (ig := .invokevirtual 98) (av := [Value.ref (b 46)]) Y (fun ws h hS hw => K_Mo_thrown l htr D tys z _ ws h hS t ht b X328 hw (gR.i x329, X329) hF329) (gx_invV (As := []) (rest := []) hx hb hown hts km_Lw_98 kI_Mo_thrown kV_Mo_thrown kc_Mo_thrown (by decide) (show (parseMethodDescriptor y_Mo_thrown.desc).map (fun d => d.parameters.length) = some 0 by decide +kernel) (gy_recv (ci := 8) hK Y rfl gF_46) rfl rfl d_Lw_law_622) (gx_cw (z := 0) hts kc_Mo_thrown kN_Mo rfl rfl ⟨Nat.le_of_ble_eq_true rfl, Nat.le_of_ble_eq_true rfl⟩) hb hml hz hK hY hAz hA hl.1 (lv_room (Nat.le_of_ble_eq_true rfl)) d_Lw_law_622 ⟨hC.rc0 hRc, hC.rs0 hRs⟩ (fun H locs Y => ?_)
      refine lv_iload hx hb d_Lw_law_625 (lv_at hl 1 rfl) ?_
      refine lv_icmp_eq (tgt := 632) hx hb d_Lw_law_627 (by decide) (fun c627_330 => ?_) (fun c627_330 => ?_)
      · replace hf := gp_t c627_330 hf
        refine lv_iload hx hb d_Lw_law_632 (lv_at hl 1 rfl) ?_
        refine lv_if_ne (tgt := 649) hx hb d_Lw_law_634 (by decide) (fun c634_331 => ?_) (fun c634_331 => ?_)
        · replace hf := gp_f c634_331 hf
          exact J649 (X329, i4_258) _ _ _ _ _ _ hf (lv_sub hl [2, 3, 4, 5, 6] rfl) (hC.mv Y) Y.rb
        · replace hf := gp_t c634_331 hf
          refine lv_aload_n hx hb d_Lw_law_637 rfl (lv_at hl 6 rfl) ?_
          refine lv_iconst (v := 0) hx hb d_Lw_law_638 (by decide) ?_
          refine gy_lald hx hb hK Y ht6 d_Lw_law_639 ?_
          refine lv_iload hx hb d_Lw_law_640 (lv_at hl 0 rfl) ?_
          refine lv_i2l (v := x328.toInt64) hx hb d_Lw_law_642 rfl ?_
          refine gx_leq (tgt := 649) hx hb d_Lw_law_643 d_Lw_law_644 (by decide) (fun c643_332 => ?_) (fun c643_332 => ?_)
          · replace hf := gp_t c643_332 hf
            exact J649 (X329, i4_258) _ _ _ _ _ _ hf (lv_sub hl [2, 3, 4, 5, 6] rfl) (hC.mv Y) Y.rb
          · replace hf := gp_f c643_332 hf
            refine lv_iconst (v := 0) hx hb d_Lw_law_647 (by decide) ?_
            replace hf := gU hf ho258
            exact (law_no hf).elim
      · replace hf := gp_f c627_330 hf
        refine lv_iconst (v := 0) hx hb d_Lw_law_630 (by decide) ?_
        replace hf := gU hf ho258
        exact (law_no hf).elim
    replace hf := gp_f s285_8 hf
    by_cases s285_9 : ((xs (gn i4_258)) &&& 31) = (9 : Int32)
    · replace hf := gp_t s285_9 hf
      refine gx_topi s285_9 ?_
      refine lv_tableIn (off := 613) (tgt := 652) hx hb d_Lw_law_39 (by decide) (by decide) rfl (by decide) ?_
      refine lv_aload_n hx hb d_Lw_law_652 rfl (lv_at hl 2 rfl) ?_
      have hl : lv_has ls 7 [(4, Value.int i4_258), (0, Value.ref bq), (1, Value.ref (b 0)), (2, Value.ref (b 46)), (3, Value.ref (b 116))] := lv_sub hl [0, 1, 2, 3, 4] rfl
      obtain ⟨x333, X333, hF333, hf⟩ := gCi_el hf
      refine gA_callH (fr := 11) (lo := 261) (o1 := (gR.i x333, X333)) (ig := .invokestatic 129) (av := [Value.ref (b 0)]) hC Y ⟨hRc, hRs⟩ (fun hc9 hs9 ws h hS hw => K_Lw_rollback l htr D tys z _ ws h hS t ht b X258 hw hc9 hs9 (gR.i x333, X333) hF333) (gx_invSH (As := [Value.ref (b 0)]) (rest := []) hx hb hown hts km_Lw_129 kS_Lw_rollback kN_Lw kc_Lw_rollback (by decide) (show (parseMethodDescriptor y_Lw_rollback.desc).map (fun d => d.parameters.length) = some 1 by decide +kernel) rfl rfl d_Lw_law_653) (gx_cwHA hts kc_Lw_rollback kN_Lw ⟨Nat.le_of_ble_eq_true rfl, Nat.le_of_ble_eq_true rfl⟩) hb hml hz hK hY hAz hA hl.1 (lv_room (Nat.le_of_ble_eq_true rfl)) d_Lw_law_653 (fun vz9 b H locs cells slots e9 hb9 hC Y => ?_) (fun xz9 Ez9 ce b H locs cells slots e9 hce hC Y => ?_)
      rotate_left
      · have e9 : (Sum.inr Ez9 : Option Value ⊕ String) = Sum.inl (some (Value.int x333)) := e9
        cases e9
      have e9 : (Sum.inl vz9 : Option Value ⊕ String) = Sum.inl (some (Value.int x333)) := e9
      cases e9
      replace hl : lv_has ls 7 [(4, Value.int i4_258), (0, Value.ref bq), (1, Value.ref (b 0)), (2, Value.ref (b 46)), (3, Value.ref (b 116))] := by rw [hb9 0 (gNm_s (by decide))]; rw [hb9 46 (gNm_s (by decide))]; rw [hb9 116 (gNm_s (by decide))]; exact hl
      refine W.eq (g2 := F0 m 656 ls [Value.int x333]) (by rfl) ?_
      refine lv_istore (lv' := [(5, Value.int x333), (4, Value.int i4_258), (0, Value.ref bq), (1, Value.ref (b 0)), (2, Value.ref (b 46)), (3, Value.ref (b 116))]) hx hb d_Lw_law_656 hl (by decide) rfl (fun ls hl => ?_)
      refine lv_aload_n hx hb d_Lw_law_658 rfl (lv_at hl 4 rfl) ?_
      obtain ⟨X334, hF334, hf⟩ := gCv_el hf
      refine gy_callV (rm := { frames := 5, cells := 0, slots := 0, locals := 105 }) (ig := .invokevirtual 132) (av := [Value.ref (b 46)]) Y (fun ws h hS hw => K_Mo_rollback l htr D tys z _ ws h hS t ht b X333 hw (gR.v, X334) hF334) (gx_invV (As := []) (rest := []) hx hb hown hts km_Lw_132 kI_Mo_rollback kV_Mo_rollback kc_Mo_rollback (by decide) (show (parseMethodDescriptor y_Mo_rollback.desc).map (fun d => d.parameters.length) = some 0 by decide +kernel) (gy_recv (ci := 8) hK Y rfl gF_46) rfl rfl d_Lw_law_659) (gx_cw (z := 0) hts kc_Mo_rollback kN_Mo rfl rfl ⟨Nat.le_of_ble_eq_true rfl, Nat.le_of_ble_eq_true rfl⟩) hb hml hz hK hY hAz hA hl.1 (lv_room (Nat.le_of_ble_eq_true rfl)) d_Lw_law_659 ⟨hC.rc0 hRc, hC.rs0 hRs⟩ (fun H locs Y => ?_)
      refine lv_aload_n hx hb d_Lw_law_662 rfl (lv_at hl 4 rfl) ?_
      obtain ⟨x335, X335, hF335, hf⟩ := gCi_el hf
      refine gy_callI (rm := { frames := 1, cells := 0, slots := 0, locals := 12 }) (ig := .invokevirtual 98) (av := [Value.ref (b 46)]) Y (fun ws h hS hw => K_Mo_thrown l htr D tys z _ ws h hS t ht b X334 hw (gR.i x335, X335) hF335) (gx_invV (As := []) (rest := []) hx hb hown hts km_Lw_98 kI_Mo_thrown kV_Mo_thrown kc_Mo_thrown (by decide) (show (parseMethodDescriptor y_Mo_thrown.desc).map (fun d => d.parameters.length) = some 0 by decide +kernel) (gy_recv (ci := 8) hK Y rfl gF_46) rfl rfl d_Lw_law_663) (gx_cw (z := 0) hts kc_Mo_thrown kN_Mo rfl rfl ⟨Nat.le_of_ble_eq_true rfl, Nat.le_of_ble_eq_true rfl⟩) hb hml hz hK hY hAz hA hl.1 (lv_room (Nat.le_of_ble_eq_true rfl)) d_Lw_law_663 ⟨hC.rc0 hRc, hC.rs0 hRs⟩ (fun H locs Y => ?_)
      refine lv_iload hx hb d_Lw_law_666 (lv_at hl 0 rfl) ?_
      refine lv_icmp_eq (tgt := 673) hx hb d_Lw_law_668 (by decide) (fun c668_336 => ?_) (fun c668_336 => ?_)
      · replace hf := gp_t c668_336 hf
        refine lv_goto (tgt := 1272) hx hb d_Lw_law_673 (by decide) ?_
        exact J1272 (X335, i4_258) _ _ _ _ _ _ hf (lv_sub hl [1, 2, 3, 4, 5] rfl) (hC.mv Y) Y.rb
      · replace hf := gp_f c668_336 hf
        refine lv_iconst (v := 0) hx hb d_Lw_law_671 (by decide) ?_
        replace hf := gU hf ho258
        exact (law_no hf).elim
    replace hf := gp_f s285_9 hf
    by_cases s285_10 : ((xs (gn i4_258)) &&& 31) = (10 : Int32)
    · replace hf := gp_t s285_10 hf
      refine gx_topi s285_10 ?_
      refine lv_tableIn (off := 637) (tgt := 676) hx hb d_Lw_law_39 (by decide) (by decide) rfl (by decide) ?_
      refine lv_aload_n hx hb d_Lw_law_676 rfl (lv_at hl 2 rfl) ?_
      refine lv_aload_n hx hb d_Lw_law_677 rfl (lv_at hl 4 rfl) ?_
      have hl : lv_has ls 7 [(4, Value.int i4_258), (0, Value.ref bq), (1, Value.ref (b 0)), (2, Value.ref (b 46)), (3, Value.ref (b 116))] := lv_sub hl [0, 1, 2, 3, 4] rfl
      obtain ⟨x337, X337, hF337, hf⟩ := gCi_el hf
      refine gA_callH (fr := 15) (lo := 345) (o1 := (gR.i x337, X337)) (ig := .invokestatic 133) (av := [Value.ref (b 0), Value.ref (b 116)]) hC Y ⟨hRc, hRs⟩ (fun hc9 hs9 ws h hS hw => K_Lw_close l htr D tys z _ ws h hS t ht b X258 hw hc9 hs9 (gR.i x337, X337) hF337) (gx_invSH (As := [Value.ref (b 0), Value.ref (b 116)]) (rest := []) hx hb hown hts km_Lw_133 kS_Lw_close kN_Lw kc_Lw_close (by decide) (show (parseMethodDescriptor y_Lw_close.desc).map (fun d => d.parameters.length) = some 2 by decide +kernel) rfl rfl d_Lw_law_678) (gx_cwHA hts kc_Lw_close kN_Lw ⟨Nat.le_of_ble_eq_true rfl, Nat.le_of_ble_eq_true rfl⟩) hb hml hz hK hY hAz hA hl.1 (lv_room (Nat.le_of_ble_eq_true rfl)) d_Lw_law_678 (fun vz9 b H locs cells slots e9 hb9 hC Y => ?_) (fun xz9 Ez9 ce b H locs cells slots e9 hce hC Y => ?_)
      rotate_left
      · have e9 : (Sum.inr Ez9 : Option Value ⊕ String) = Sum.inl (some (Value.int x337)) := e9
        cases e9
      have e9 : (Sum.inl vz9 : Option Value ⊕ String) = Sum.inl (some (Value.int x337)) := e9
      cases e9
      replace hl : lv_has ls 7 [(4, Value.int i4_258), (0, Value.ref bq), (1, Value.ref (b 0)), (2, Value.ref (b 46)), (3, Value.ref (b 116))] := by rw [hb9 0 (gNm_s (by decide))]; rw [hb9 46 (gNm_s (by decide))]; rw [hb9 116 (gNm_s (by decide))]; exact hl
      refine W.eq (g2 := F0 m 681 ls [Value.int x337]) (by rfl) ?_
      refine lv_istore (lv' := [(5, Value.int x337), (4, Value.int i4_258), (0, Value.ref bq), (1, Value.ref (b 0)), (2, Value.ref (b 46)), (3, Value.ref (b 116))]) hx hb d_Lw_law_681 hl (by decide) rfl (fun ls hl => ?_)
      refine lv_aload_n hx hb d_Lw_law_683 rfl (lv_at hl 4 rfl) ?_
      obtain ⟨x338, X338, hF338, hf⟩ := gCi_el hf
      refine gy_callI (rm := { frames := 8, cells := 0, slots := 0, locals := 165 }) (ig := .invokevirtual 135) (av := [Value.ref (b 46)]) Y (fun ws h hS hw => K_Mo_close0 l htr D tys z _ ws h hS t ht b X337 hw (gR.i x338, X338) hF338) (gx_invV (As := []) (rest := []) hx hb hown hts km_Lw_135 kI_Mo_close0 kV_Mo_close0 kc_Mo_close0 (by decide) (show (parseMethodDescriptor y_Mo_close0.desc).map (fun d => d.parameters.length) = some 0 by decide +kernel) (gy_recv (ci := 8) hK Y rfl gF_46) rfl rfl d_Lw_law_684) (gx_cw (z := 0) hts kc_Mo_close0 kN_Mo rfl rfl ⟨Nat.le_of_ble_eq_true rfl, Nat.le_of_ble_eq_true rfl⟩) hb hml hz hK hY hAz hA hl.1 (lv_room (Nat.le_of_ble_eq_true rfl)) d_Lw_law_684 ⟨hC.rc0 hRc, hC.rs0 hRs⟩ (fun H locs Y => ?_)
      refine lv_istore (lv' := [(6, Value.int x338), (5, Value.int x337), (4, Value.int i4_258), (0, Value.ref bq), (1, Value.ref (b 0)), (2, Value.ref (b 46)), (3, Value.ref (b 116))]) hx hb d_Lw_law_687 hl (by decide) rfl (fun ls hl => ?_)
      refine lv_aload_n hx hb d_Lw_law_689 rfl (lv_at hl 5 rfl) ?_
      obtain ⟨x339, X339, hF339, hf⟩ := gCi_el hf
      refine gy_callI (rm := { frames := 1, cells := 0, slots := 0, locals := 12 }) (ig := .invokevirtual 98) (av := [Value.ref (b 46)]) Y (fun ws h hS hw => K_Mo_thrown l htr D tys z _ ws h hS t ht b X338 hw (gR.i x339, X339) hF339) (gx_invV (As := []) (rest := []) hx hb hown hts km_Lw_98 kI_Mo_thrown kV_Mo_thrown kc_Mo_thrown (by decide) (show (parseMethodDescriptor y_Mo_thrown.desc).map (fun d => d.parameters.length) = some 0 by decide +kernel) (gy_recv (ci := 8) hK Y rfl gF_46) rfl rfl d_Lw_law_690) (gx_cw (z := 0) hts kc_Mo_thrown kN_Mo rfl rfl ⟨Nat.le_of_ble_eq_true rfl, Nat.le_of_ble_eq_true rfl⟩) hb hml hz hK hY hAz hA hl.1 (lv_room (Nat.le_of_ble_eq_true rfl)) d_Lw_law_690 ⟨hC.rc0 hRc, hC.rs0 hRs⟩ (fun H locs Y => ?_)
      refine lv_iload hx hb d_Lw_law_693 (lv_at hl 1 rfl) ?_
      refine lv_icmp_eq (tgt := 700) hx hb d_Lw_law_695 (by decide) (fun c695_340 => ?_) (fun c695_340 => ?_)
      · replace hf := gp_t c695_340 hf
        refine lv_iload hx hb d_Lw_law_700 (lv_at hl 1 rfl) ?_
        refine lv_if_ne (tgt := 717) hx hb d_Lw_law_702 (by decide) (fun c702_341 => ?_) (fun c702_341 => ?_)
        · replace hf := gp_f c702_341 hf
          exact J717 (X339, i4_258) _ _ _ _ _ _ hf (lv_sub hl [2, 3, 4, 5, 6] rfl) (hC.mv Y) Y.rb
        · replace hf := gp_t c702_341 hf
          refine lv_aload_n hx hb d_Lw_law_705 rfl (lv_at hl 6 rfl) ?_
          refine lv_iconst (v := 0) hx hb d_Lw_law_706 (by decide) ?_
          refine gy_lald hx hb hK Y ht6 d_Lw_law_707 ?_
          refine lv_iload hx hb d_Lw_law_708 (lv_at hl 0 rfl) ?_
          refine lv_i2l (v := x338.toInt64) hx hb d_Lw_law_710 rfl ?_
          refine gx_leq (tgt := 717) hx hb d_Lw_law_711 d_Lw_law_712 (by decide) (fun c711_342 => ?_) (fun c711_342 => ?_)
          · replace hf := gp_t c711_342 hf
            exact J717 (X339, i4_258) _ _ _ _ _ _ hf (lv_sub hl [2, 3, 4, 5, 6] rfl) (hC.mv Y) Y.rb
          · replace hf := gp_f c711_342 hf
            refine lv_iconst (v := 0) hx hb d_Lw_law_715 (by decide) ?_
            replace hf := gU hf ho258
            exact (law_no hf).elim
      · replace hf := gp_f c695_340 hf
        refine lv_iconst (v := 0) hx hb d_Lw_law_698 (by decide) ?_
        replace hf := gU hf ho258
        exact (law_no hf).elim
    replace hf := gp_f s285_10 hf
    by_cases s285_11 : ((xs (gn i4_258)) &&& 31) = (11 : Int32)
    · replace hf := gp_t s285_11 hf
      refine gx_topi s285_11 ?_
      refine lv_tableIn (off := 681) (tgt := 720) hx hb d_Lw_law_39 (by decide) (by decide) rfl (by decide) ?_
      refine lv_aload_n hx hb d_Lw_law_720 rfl (lv_at hl 2 rfl) ?_
      refine lv_aload_n hx hb d_Lw_law_721 rfl (lv_at hl 1 rfl) ?_
      refine lv_iload hx hb d_Lw_law_722 (lv_at hl 0 rfl) ?_
      refine lv_iconst (v := 1) hx hb d_Lw_law_724 (by decide) ?_
      refine lv_iadd hx hb d_Lw_law_725 ?_
      refine gy_sld hf hx hb hX hbl hbA Y d_Lw_law_726 (fun hf => ?_)
      have hl : lv_has ls 7 [(4, Value.int i4_258), (0, Value.ref bq), (1, Value.ref (b 0)), (2, Value.ref (b 46)), (3, Value.ref (b 116))] := lv_sub hl [0, 1, 2, 3, 4] rfl
      obtain ⟨x343, X343, hF343, hf⟩ := gCi_el hf
      refine gA_callH (fr := 8) (lo := 125) (o1 := (gR.i x343, X343)) (ig := .invokestatic 136) (av := [Value.ref (b 0), Value.int (xs (gn (i4_258 + 1)))]) hC Y ⟨hRc, hRs⟩ (fun hc9 hs9 ws h hS hw => K_Lw_power l htr D tys z _ ws h hS t ht b X258 hw (xs (gn (i4_258 + 1))) hc9 hs9 (gR.i x343, X343) hF343) (gx_invSH (As := [Value.ref (b 0), Value.int (xs (gn (i4_258 + 1)))]) (rest := []) hx hb hown hts km_Lw_136 kS_Lw_power kN_Lw kc_Lw_power (by decide) (show (parseMethodDescriptor y_Lw_power.desc).map (fun d => d.parameters.length) = some 2 by decide +kernel) rfl rfl d_Lw_law_727) (gx_cwHA hts kc_Lw_power kN_Lw ⟨Nat.le_of_ble_eq_true rfl, Nat.le_of_ble_eq_true rfl⟩) hb hml hz hK hY hAz hA hl.1 (lv_room (Nat.le_of_ble_eq_true rfl)) d_Lw_law_727 (fun vz9 b H locs cells slots e9 hb9 hC Y => ?_) (fun xz9 Ez9 ce b H locs cells slots e9 hce hC Y => ?_)
      rotate_left
      · have e9 : (Sum.inr Ez9 : Option Value ⊕ String) = Sum.inl (some (Value.int x343)) := e9
        cases e9
      have e9 : (Sum.inl vz9 : Option Value ⊕ String) = Sum.inl (some (Value.int x343)) := e9
      cases e9
      replace hl : lv_has ls 7 [(4, Value.int i4_258), (0, Value.ref bq), (1, Value.ref (b 0)), (2, Value.ref (b 46)), (3, Value.ref (b 116))] := by rw [hb9 0 (gNm_s (by decide))]; rw [hb9 46 (gNm_s (by decide))]; rw [hb9 116 (gNm_s (by decide))]; exact hl
      refine W.eq (g2 := F0 m 730 ls [Value.int x343]) (by rfl) ?_
      refine lv_istore (lv' := [(5, Value.int x343), (4, Value.int i4_258), (0, Value.ref bq), (1, Value.ref (b 0)), (2, Value.ref (b 46)), (3, Value.ref (b 116))]) hx hb d_Lw_law_730 hl (by decide) rfl (fun ls hl => ?_)
      refine lv_aload_n hx hb d_Lw_law_732 rfl (lv_at hl 4 rfl) ?_
      refine lv_aload_n hx hb d_Lw_law_733 rfl (lv_at hl 2 rfl) ?_
      refine lv_iload hx hb d_Lw_law_734 (lv_at hl 1 rfl) ?_
      refine lv_iconst (v := 1) hx hb d_Lw_law_736 (by decide) ?_
      refine lv_iadd hx hb d_Lw_law_737 ?_
      refine gy_sld hf hx hb hX hbl hbA Y d_Lw_law_738 (fun hf => ?_)
      obtain ⟨X344, hF344, hf⟩ := gCv_el hf
      refine gy_callV (rm := { frames := 2, cells := 0, slots := 0, locals := 37 }) (ig := .invokevirtual 139) (av := [Value.ref (b 46), Value.int (xs (gn (i4_258 + 1)))]) Y (fun ws h hS hw => K_Mo_power l htr D tys z _ ws h hS t ht b X343 hw (xs (gn (i4_258 + 1))) (gR.v, X344) hF344) (gx_invV (As := [Value.int (xs (gn (i4_258 + 1)))]) (rest := []) hx hb hown hts km_Lw_139 kI_Mo_power kV_Mo_power kc_Mo_power (by decide) (show (parseMethodDescriptor y_Mo_power.desc).map (fun d => d.parameters.length) = some 1 by decide +kernel) (gy_recv (ci := 8) hK Y rfl gF_46) rfl rfl d_Lw_law_739) (gx_cw (z := 0) hts kc_Mo_power kN_Mo rfl rfl ⟨Nat.le_of_ble_eq_true rfl, Nat.le_of_ble_eq_true rfl⟩) hb hml hz hK hY hAz hA hl.1 (lv_room (Nat.le_of_ble_eq_true rfl)) d_Lw_law_739 ⟨hC.rc0 hRc, hC.rs0 hRs⟩ (fun H locs Y => ?_)
      refine lv_aload_n hx hb d_Lw_law_742 rfl (lv_at hl 4 rfl) ?_
      obtain ⟨x345, X345, hF345, hf⟩ := gCi_el hf
      refine gy_callI (rm := { frames := 1, cells := 0, slots := 0, locals := 12 }) (ig := .invokevirtual 98) (av := [Value.ref (b 46)]) Y (fun ws h hS hw => K_Mo_thrown l htr D tys z _ ws h hS t ht b X344 hw (gR.i x345, X345) hF345) (gx_invV (As := []) (rest := []) hx hb hown hts km_Lw_98 kI_Mo_thrown kV_Mo_thrown kc_Mo_thrown (by decide) (show (parseMethodDescriptor y_Mo_thrown.desc).map (fun d => d.parameters.length) = some 0 by decide +kernel) (gy_recv (ci := 8) hK Y rfl gF_46) rfl rfl d_Lw_law_743) (gx_cw (z := 0) hts kc_Mo_thrown kN_Mo rfl rfl ⟨Nat.le_of_ble_eq_true rfl, Nat.le_of_ble_eq_true rfl⟩) hb hml hz hK hY hAz hA hl.1 (lv_room (Nat.le_of_ble_eq_true rfl)) d_Lw_law_743 ⟨hC.rc0 hRc, hC.rs0 hRs⟩ (fun H locs Y => ?_)
      refine lv_iload hx hb d_Lw_law_746 (lv_at hl 0 rfl) ?_
      refine lv_icmp_eq (tgt := 753) hx hb d_Lw_law_748 (by decide) (fun c748_346 => ?_) (fun c748_346 => ?_)
      · replace hf := gp_t c748_346 hf
        refine lv_goto (tgt := 1272) hx hb d_Lw_law_753 (by decide) ?_
        exact J1272 (X345, i4_258) _ _ _ _ _ _ hf (lv_sub hl [1, 2, 3, 4, 5] rfl) (hC.mv Y) Y.rb
      · replace hf := gp_f c748_346 hf
        refine lv_iconst (v := 0) hx hb d_Lw_law_751 (by decide) ?_
        replace hf := gU hf ho258
        exact (law_no hf).elim
    replace hf := gp_f s285_11 hf
    by_cases s285_12 : ((xs (gn i4_258)) &&& 31) = (12 : Int32)
    · replace hf := gp_t s285_12 hf
      refine gx_topi s285_12 ?_
      refine lv_tableIn (off := 717) (tgt := 756) hx hb d_Lw_law_39 (by decide) (by decide) rfl (by decide) ?_
      refine lv_aload_n hx hb d_Lw_law_756 rfl (lv_at hl 2 rfl) ?_
      have hl : lv_has ls 7 [(4, Value.int i4_258), (0, Value.ref bq), (1, Value.ref (b 0)), (2, Value.ref (b 46)), (3, Value.ref (b 116))] := lv_sub hl [0, 1, 2, 3, 4] rfl
      obtain ⟨X347, hF347, hf⟩ := gCv_el hf
      refine gA_call (fr := 10) (lo := 241) (o1 := (gR.v, X347)) (ig := .invokevirtual 140) (av := [Value.ref (b 0)]) hC Y ⟨hRc, hRs⟩ (fun hc9 hs9 ws h hS hw => K_Le_crash l htr D tys z _ ws h hS t ht b X258 hw hc9 hs9 (gR.v, X347) hF347) (gx_invV (As := []) (rest := []) hx hb hown hts km_Lw_140 kI_Le_crash kV_Le_crash kc_Le_crash (by decide) (show (parseMethodDescriptor y_Le_crash.desc).map (fun d => d.parameters.length) = some 0 by decide +kernel) (gy_recv (ci := 0) hK Y rfl gF_0) rfl rfl d_Lw_law_757) (gx_cwA hts kc_Le_crash kN_Le ⟨Nat.le_of_ble_eq_true rfl, Nat.le_of_ble_eq_true rfl⟩) hb hml hz hK hY hAz hA hl.1 (lv_room (Nat.le_of_ble_eq_true rfl)) d_Lw_law_757 (fun vz9 b H locs cells slots e9 hb9 hC Y => ?_) (fun xz9 Ez9 ce b H locs cells slots e9 hce hC Y => ?_)
      rotate_left
      · have e9 : (Sum.inr Ez9 : Option Value ⊕ String) = Sum.inl none := e9
        cases e9
      have e9 : (Sum.inl vz9 : Option Value ⊕ String) = Sum.inl none := e9
      cases e9
      replace hl : lv_has ls 7 [(4, Value.int i4_258), (0, Value.ref bq), (1, Value.ref (b 0)), (2, Value.ref (b 46)), (3, Value.ref (b 116))] := by rw [hb9 0 (gNm_s (by decide))]; rw [hb9 46 (gNm_s (by decide))]; rw [hb9 116 (gNm_s (by decide))]; exact hl
      refine W.eq (g2 := F0 m 760 ls []) (by rfl) ?_
      refine lv_aload_n hx hb d_Lw_law_760 rfl (lv_at hl 3 rfl) ?_
      obtain ⟨X348, hF348, hf⟩ := gCv_el hf
      refine gy_callV (rm := { frames := 3, cells := 0, slots := 0, locals := 58 }) (ig := .invokevirtual 143) (av := [Value.ref (b 46)]) Y (fun ws h hS hw => K_Mo_crash l htr D tys z _ ws h hS t ht b X347 hw (gR.v, X348) hF348) (gx_invV (As := []) (rest := []) hx hb hown hts km_Lw_143 kI_Mo_crash kV_Mo_crash kc_Mo_crash (by decide) (show (parseMethodDescriptor y_Mo_crash.desc).map (fun d => d.parameters.length) = some 0 by decide +kernel) (gy_recv (ci := 8) hK Y rfl gF_46) rfl rfl d_Lw_law_761) (gx_cw (z := 0) hts kc_Mo_crash kN_Mo rfl rfl ⟨Nat.le_of_ble_eq_true rfl, Nat.le_of_ble_eq_true rfl⟩) hb hml hz hK hY hAz hA hl.1 (lv_room (Nat.le_of_ble_eq_true rfl)) d_Lw_law_761 ⟨hC.rc0 hRc, hC.rs0 hRs⟩ (fun H locs Y => ?_)
      refine lv_goto (tgt := 1272) hx hb d_Lw_law_764 (by decide) ?_
      exact J1272 (X348, i4_258) _ _ _ _ _ _ hf (lv_sub hl [0, 1, 2, 3, 4] rfl) (hC.mv Y) Y.rb
    replace hf := gp_f s285_12 hf
    by_cases s285_13 : ((xs (gn i4_258)) &&& 31) = (13 : Int32)
    · replace hf := gp_t s285_13 hf
      refine gx_topi s285_13 ?_
      refine lv_tableIn (off := 728) (tgt := 767) hx hb d_Lw_law_39 (by decide) (by decide) rfl (by decide) ?_
      refine lv_aload_n hx hb d_Lw_law_767 rfl (lv_at hl 2 rfl) ?_
      refine lv_aload_n hx hb d_Lw_law_768 rfl (lv_at hl 1 rfl) ?_
      refine lv_iload hx hb d_Lw_law_769 (lv_at hl 0 rfl) ?_
      refine lv_iconst (v := 1) hx hb d_Lw_law_771 (by decide) ?_
      refine lv_iadd hx hb d_Lw_law_772 ?_
      refine gy_sld hf hx hb hX hbl hbA Y d_Lw_law_773 (fun hf => ?_)
      refine lv_aload_n hx hb d_Lw_law_774 rfl (lv_at hl 1 rfl) ?_
      refine lv_iload hx hb d_Lw_law_775 (lv_at hl 0 rfl) ?_
      refine lv_iconst (v := 2) hx hb d_Lw_law_777 (by decide) ?_
      refine lv_iadd hx hb d_Lw_law_778 ?_
      refine gy_sld hf hx hb hX hbl hbA Y d_Lw_law_779 (fun hf => ?_)
      have hl : lv_has ls 7 [(4, Value.int i4_258), (0, Value.ref bq), (1, Value.ref (b 0)), (2, Value.ref (b 46)), (3, Value.ref (b 116))] := lv_sub hl [0, 1, 2, 3, 4] rfl
      obtain ⟨x349, X349, hF349, hf⟩ := gCi_el hf
      refine gA_callH (fr := 7) (lo := 121) (o1 := (gR.i x349, X349)) (ig := .invokestatic 144) (av := [Value.ref (b 0), Value.int (xs (gn (i4_258 + 1))), Value.int (xs (gn (i4_258 + 2)))]) hC Y ⟨hRc, hRs⟩ (fun hc9 hs9 ws h hS hw => K_Lw_harm l htr D tys z _ ws h hS t ht b X258 hw (xs (gn (i4_258 + 1))) (xs (gn (i4_258 + 2))) hc9 hs9 (gR.i x349, X349) hF349) (gx_invSH (As := [Value.ref (b 0), Value.int (xs (gn (i4_258 + 1))), Value.int (xs (gn (i4_258 + 2)))]) (rest := []) hx hb hown hts km_Lw_144 kS_Lw_harm kN_Lw kc_Lw_harm (by decide) (show (parseMethodDescriptor y_Lw_harm.desc).map (fun d => d.parameters.length) = some 3 by decide +kernel) rfl rfl d_Lw_law_780) (gx_cwHA hts kc_Lw_harm kN_Lw ⟨Nat.le_of_ble_eq_true rfl, Nat.le_of_ble_eq_true rfl⟩) hb hml hz hK hY hAz hA hl.1 (lv_room (Nat.le_of_ble_eq_true rfl)) d_Lw_law_780 (fun vz9 b H locs cells slots e9 hb9 hC Y => ?_) (fun xz9 Ez9 ce b H locs cells slots e9 hce hC Y => ?_)
      rotate_left
      · have e9 : (Sum.inr Ez9 : Option Value ⊕ String) = Sum.inl (some (Value.int x349)) := e9
        cases e9
      have e9 : (Sum.inl vz9 : Option Value ⊕ String) = Sum.inl (some (Value.int x349)) := e9
      cases e9
      replace hl : lv_has ls 7 [(4, Value.int i4_258), (0, Value.ref bq), (1, Value.ref (b 0)), (2, Value.ref (b 46)), (3, Value.ref (b 116))] := by rw [hb9 0 (gNm_s (by decide))]; rw [hb9 46 (gNm_s (by decide))]; rw [hb9 116 (gNm_s (by decide))]; exact hl
      refine W.eq (g2 := F0 m 783 ls [Value.int x349]) (by rfl) ?_
      refine lv_istore (lv' := [(5, Value.int x349), (4, Value.int i4_258), (0, Value.ref bq), (1, Value.ref (b 0)), (2, Value.ref (b 46)), (3, Value.ref (b 116))]) hx hb d_Lw_law_783 hl (by decide) rfl (fun ls hl => ?_)
      refine lv_aload_n hx hb d_Lw_law_785 rfl (lv_at hl 4 rfl) ?_
      refine lv_aload_n hx hb d_Lw_law_786 rfl (lv_at hl 2 rfl) ?_
      refine lv_iload hx hb d_Lw_law_787 (lv_at hl 1 rfl) ?_
      refine lv_iconst (v := 1) hx hb d_Lw_law_789 (by decide) ?_
      refine lv_iadd hx hb d_Lw_law_790 ?_
      refine gy_sld hf hx hb hX hbl hbA Y d_Lw_law_791 (fun hf => ?_)
      refine lv_aload_n hx hb d_Lw_law_792 rfl (lv_at hl 2 rfl) ?_
      refine lv_iload hx hb d_Lw_law_793 (lv_at hl 1 rfl) ?_
      refine lv_iconst (v := 2) hx hb d_Lw_law_795 (by decide) ?_
      refine lv_iadd hx hb d_Lw_law_796 ?_
      refine gy_sld hf hx hb hX hbl hbA Y d_Lw_law_797 (fun hf => ?_)
      obtain ⟨X350, hF350, hf⟩ := gCv_el hf
      refine gy_callV (rm := { frames := 2, cells := 0, slots := 0, locals := 37 }) (ig := .invokevirtual 146) (av := [Value.ref (b 46), Value.int (xs (gn (i4_258 + 1))), Value.int (xs (gn (i4_258 + 2)))]) Y (fun ws h hS hw => K_Mo_harm l htr D tys z _ ws h hS t ht b X349 hw (xs (gn (i4_258 + 1))) (xs (gn (i4_258 + 2))) (gR.v, X350) hF350) (gx_invV (As := [Value.int (xs (gn (i4_258 + 1))), Value.int (xs (gn (i4_258 + 2)))]) (rest := []) hx hb hown hts km_Lw_146 kI_Mo_harm kV_Mo_harm kc_Mo_harm (by decide) (show (parseMethodDescriptor y_Mo_harm.desc).map (fun d => d.parameters.length) = some 2 by decide +kernel) (gy_recv (ci := 8) hK Y rfl gF_46) rfl rfl d_Lw_law_798) (gx_cw (z := 0) hts kc_Mo_harm kN_Mo rfl rfl ⟨Nat.le_of_ble_eq_true rfl, Nat.le_of_ble_eq_true rfl⟩) hb hml hz hK hY hAz hA hl.1 (lv_room (Nat.le_of_ble_eq_true rfl)) d_Lw_law_798 ⟨hC.rc0 hRc, hC.rs0 hRs⟩ (fun H locs Y => ?_)
      refine lv_aload_n hx hb d_Lw_law_801 rfl (lv_at hl 4 rfl) ?_
      obtain ⟨x351, X351, hF351, hf⟩ := gCi_el hf
      refine gy_callI (rm := { frames := 1, cells := 0, slots := 0, locals := 12 }) (ig := .invokevirtual 98) (av := [Value.ref (b 46)]) Y (fun ws h hS hw => K_Mo_thrown l htr D tys z _ ws h hS t ht b X350 hw (gR.i x351, X351) hF351) (gx_invV (As := []) (rest := []) hx hb hown hts km_Lw_98 kI_Mo_thrown kV_Mo_thrown kc_Mo_thrown (by decide) (show (parseMethodDescriptor y_Mo_thrown.desc).map (fun d => d.parameters.length) = some 0 by decide +kernel) (gy_recv (ci := 8) hK Y rfl gF_46) rfl rfl d_Lw_law_802) (gx_cw (z := 0) hts kc_Mo_thrown kN_Mo rfl rfl ⟨Nat.le_of_ble_eq_true rfl, Nat.le_of_ble_eq_true rfl⟩) hb hml hz hK hY hAz hA hl.1 (lv_room (Nat.le_of_ble_eq_true rfl)) d_Lw_law_802 ⟨hC.rc0 hRc, hC.rs0 hRs⟩ (fun H locs Y => ?_)
      refine lv_iload hx hb d_Lw_law_805 (lv_at hl 0 rfl) ?_
      refine lv_icmp_eq (tgt := 812) hx hb d_Lw_law_807 (by decide) (fun c807_352 => ?_) (fun c807_352 => ?_)
      · replace hf := gp_t c807_352 hf
        refine lv_goto (tgt := 1272) hx hb d_Lw_law_812 (by decide) ?_
        exact J1272 (X351, i4_258) _ _ _ _ _ _ hf (lv_sub hl [1, 2, 3, 4, 5] rfl) (hC.mv Y) Y.rb
      · replace hf := gp_f c807_352 hf
        refine lv_iconst (v := 0) hx hb d_Lw_law_810 (by decide) ?_
        replace hf := gU hf ho258
        exact (law_no hf).elim
    replace hf := gp_f s285_13 hf
    by_cases s285_14 : ((xs (gn i4_258)) &&& 31) = (14 : Int32)
    · replace hf := gp_t s285_14 hf
      refine gx_topi s285_14 ?_
      refine lv_tableIn (off := 776) (tgt := 815) hx hb d_Lw_law_39 (by decide) (by decide) rfl (by decide) ?_
      refine lv_aload_n hx hb d_Lw_law_815 rfl (lv_at hl 2 rfl) ?_
      refine lv_aload_n hx hb d_Lw_law_816 rfl (lv_at hl 1 rfl) ?_
      refine lv_iload hx hb d_Lw_law_817 (lv_at hl 0 rfl) ?_
      refine lv_iconst (v := 1) hx hb d_Lw_law_819 (by decide) ?_
      refine lv_iadd hx hb d_Lw_law_820 ?_
      refine gy_sld hf hx hb hX hbl hbA Y d_Lw_law_821 (fun hf => ?_)
      refine lv_aload_n hx hb d_Lw_law_822 rfl (lv_at hl 4 rfl) ?_
      have hl : lv_has ls 7 [(4, Value.int i4_258), (0, Value.ref bq), (1, Value.ref (b 0)), (2, Value.ref (b 46)), (3, Value.ref (b 116))] := lv_sub hl [0, 1, 2, 3, 4] rfl
      obtain ⟨x353, X353, hF353, hf⟩ := gCi_el hf
      refine gA_callH (fr := 13) (lo := 304) (o1 := (gR.i x353, X353)) (ig := .invokestatic 147) (av := [Value.ref (b 0), Value.int (xs (gn (i4_258 + 1))), Value.ref (b 116)]) hC Y ⟨hRc, hRs⟩ (fun hc9 hs9 ws h hS hw => K_Lw_reader l htr D tys z _ ws h hS t ht b X258 hw (xs (gn (i4_258 + 1))) hc9 hs9 (gR.i x353, X353) hF353) (gx_invSH (As := [Value.ref (b 0), Value.int (xs (gn (i4_258 + 1))), Value.ref (b 116)]) (rest := []) hx hb hown hts km_Lw_147 kS_Lw_reader kN_Lw kc_Lw_reader (by decide) (show (parseMethodDescriptor y_Lw_reader.desc).map (fun d => d.parameters.length) = some 3 by decide +kernel) rfl rfl d_Lw_law_823) (gx_cwHA hts kc_Lw_reader kN_Lw ⟨Nat.le_of_ble_eq_true rfl, Nat.le_of_ble_eq_true rfl⟩) hb hml hz hK hY hAz hA hl.1 (lv_room (Nat.le_of_ble_eq_true rfl)) d_Lw_law_823 (fun vz9 b H locs cells slots e9 hb9 hC Y => ?_) (fun xz9 Ez9 ce b H locs cells slots e9 hce hC Y => ?_)
      rotate_left
      · have e9 : (Sum.inr Ez9 : Option Value ⊕ String) = Sum.inl (some (Value.int x353)) := e9
        cases e9
      have e9 : (Sum.inl vz9 : Option Value ⊕ String) = Sum.inl (some (Value.int x353)) := e9
      cases e9
      replace hl : lv_has ls 7 [(4, Value.int i4_258), (0, Value.ref bq), (1, Value.ref (b 0)), (2, Value.ref (b 46)), (3, Value.ref (b 116))] := by rw [hb9 0 (gNm_s (by decide))]; rw [hb9 46 (gNm_s (by decide))]; rw [hb9 116 (gNm_s (by decide))]; exact hl
      refine W.eq (g2 := F0 m 826 ls [Value.int x353]) (by rfl) ?_
      refine lv_istore (lv' := [(5, Value.int x353), (4, Value.int i4_258), (0, Value.ref bq), (1, Value.ref (b 0)), (2, Value.ref (b 46)), (3, Value.ref (b 116))]) hx hb d_Lw_law_826 hl (by decide) rfl (fun ls hl => ?_)
      refine lv_aload_n hx hb d_Lw_law_828 rfl (lv_at hl 4 rfl) ?_
      refine lv_aload_n hx hb d_Lw_law_829 rfl (lv_at hl 2 rfl) ?_
      refine lv_iload hx hb d_Lw_law_830 (lv_at hl 1 rfl) ?_
      refine lv_iconst (v := 1) hx hb d_Lw_law_832 (by decide) ?_
      refine lv_iadd hx hb d_Lw_law_833 ?_
      refine gy_sld hf hx hb hX hbl hbA Y d_Lw_law_834 (fun hf => ?_)
      obtain ⟨x354, X354, hF354, hf⟩ := gCi_el hf
      refine gy_callI (rm := { frames := 6, cells := 0, slots := 0, locals := 123 }) (ig := .invokevirtual 149) (av := [Value.ref (b 46), Value.int (xs (gn (i4_258 + 1)))]) Y (fun ws h hS hw => K_Mo_reader l htr D tys z _ ws h hS t ht b X353 hw (xs (gn (i4_258 + 1))) (gR.i x354, X354) hF354) (gx_invV (As := [Value.int (xs (gn (i4_258 + 1)))]) (rest := []) hx hb hown hts km_Lw_149 kI_Mo_reader kV_Mo_reader kc_Mo_reader (by decide) (show (parseMethodDescriptor y_Mo_reader.desc).map (fun d => d.parameters.length) = some 1 by decide +kernel) (gy_recv (ci := 8) hK Y rfl gF_46) rfl rfl d_Lw_law_835) (gx_cw (z := 0) hts kc_Mo_reader kN_Mo rfl rfl ⟨Nat.le_of_ble_eq_true rfl, Nat.le_of_ble_eq_true rfl⟩) hb hml hz hK hY hAz hA hl.1 (lv_room (Nat.le_of_ble_eq_true rfl)) d_Lw_law_835 ⟨hC.rc0 hRc, hC.rs0 hRs⟩ (fun H locs Y => ?_)
      refine lv_istore (lv' := [(6, Value.int x354), (5, Value.int x353), (4, Value.int i4_258), (0, Value.ref bq), (1, Value.ref (b 0)), (2, Value.ref (b 46)), (3, Value.ref (b 116))]) hx hb d_Lw_law_838 hl (by decide) rfl (fun ls hl => ?_)
      refine lv_aload_n hx hb d_Lw_law_840 rfl (lv_at hl 5 rfl) ?_
      obtain ⟨x355, X355, hF355, hf⟩ := gCi_el hf
      refine gy_callI (rm := { frames := 1, cells := 0, slots := 0, locals := 12 }) (ig := .invokevirtual 98) (av := [Value.ref (b 46)]) Y (fun ws h hS hw => K_Mo_thrown l htr D tys z _ ws h hS t ht b X354 hw (gR.i x355, X355) hF355) (gx_invV (As := []) (rest := []) hx hb hown hts km_Lw_98 kI_Mo_thrown kV_Mo_thrown kc_Mo_thrown (by decide) (show (parseMethodDescriptor y_Mo_thrown.desc).map (fun d => d.parameters.length) = some 0 by decide +kernel) (gy_recv (ci := 8) hK Y rfl gF_46) rfl rfl d_Lw_law_841) (gx_cw (z := 0) hts kc_Mo_thrown kN_Mo rfl rfl ⟨Nat.le_of_ble_eq_true rfl, Nat.le_of_ble_eq_true rfl⟩) hb hml hz hK hY hAz hA hl.1 (lv_room (Nat.le_of_ble_eq_true rfl)) d_Lw_law_841 ⟨hC.rc0 hRc, hC.rs0 hRs⟩ (fun H locs Y => ?_)
      refine lv_iload hx hb d_Lw_law_844 (lv_at hl 1 rfl) ?_
      refine lv_icmp_eq (tgt := 851) hx hb d_Lw_law_846 (by decide) (fun c846_356 => ?_) (fun c846_356 => ?_)
      · replace hf := gp_t c846_356 hf
        refine lv_iload hx hb d_Lw_law_851 (lv_at hl 1 rfl) ?_
        refine lv_if_ne (tgt := 868) hx hb d_Lw_law_853 (by decide) (fun c853_357 => ?_) (fun c853_357 => ?_)
        · replace hf := gp_f c853_357 hf
          exact J868 (X355, i4_258) _ _ _ _ _ _ hf (lv_sub hl [2, 3, 4, 5, 6] rfl) (hC.mv Y) Y.rb
        · replace hf := gp_t c853_357 hf
          refine lv_aload_n hx hb d_Lw_law_856 rfl (lv_at hl 6 rfl) ?_
          refine lv_iconst (v := 0) hx hb d_Lw_law_857 (by decide) ?_
          refine gy_lald hx hb hK Y ht6 d_Lw_law_858 ?_
          refine lv_iload hx hb d_Lw_law_859 (lv_at hl 0 rfl) ?_
          refine lv_i2l (v := x354.toInt64) hx hb d_Lw_law_861 rfl ?_
          refine gx_leq (tgt := 868) hx hb d_Lw_law_862 d_Lw_law_863 (by decide) (fun c862_358 => ?_) (fun c862_358 => ?_)
          · replace hf := gp_t c862_358 hf
            exact J868 (X355, i4_258) _ _ _ _ _ _ hf (lv_sub hl [2, 3, 4, 5, 6] rfl) (hC.mv Y) Y.rb
          · replace hf := gp_f c862_358 hf
            refine lv_iconst (v := 0) hx hb d_Lw_law_866 (by decide) ?_
            replace hf := gU hf ho258
            exact (law_no hf).elim
      · replace hf := gp_f c846_356 hf
        refine lv_iconst (v := 0) hx hb d_Lw_law_849 (by decide) ?_
        replace hf := gU hf ho258
        exact (law_no hf).elim
    replace hf := gp_f s285_14 hf
    by_cases s285_15 : ((xs (gn i4_258)) &&& 31) = (15 : Int32)
    · replace hf := gp_t s285_15 hf
      refine gx_topi s285_15 ?_
      refine lv_tableIn (off := 832) (tgt := 871) hx hb d_Lw_law_39 (by decide) (by decide) rfl (by decide) ?_
      refine lv_aload_n hx hb d_Lw_law_871 rfl (lv_at hl 2 rfl) ?_
      refine lv_aload_n hx hb d_Lw_law_872 rfl (lv_at hl 1 rfl) ?_
      refine lv_iload hx hb d_Lw_law_873 (lv_at hl 0 rfl) ?_
      refine lv_iconst (v := 1) hx hb d_Lw_law_875 (by decide) ?_
      refine lv_iadd hx hb d_Lw_law_876 ?_
      refine gy_sld hf hx hb hX hbl hbA Y d_Lw_law_877 (fun hf => ?_)
      have hl : lv_has ls 7 [(4, Value.int i4_258), (0, Value.ref bq), (1, Value.ref (b 0)), (2, Value.ref (b 46)), (3, Value.ref (b 116))] := lv_sub hl [0, 1, 2, 3, 4] rfl
      obtain ⟨x359, X359, hF359, hf⟩ := gCi_el hf
      refine gA_callH (fr := 11) (lo := 262) (o1 := (gR.i x359, X359)) (ig := .invokestatic 150) (av := [Value.ref (b 0), Value.int (xs (gn (i4_258 + 1)))]) hC Y ⟨hRc, hRs⟩ (fun hc9 hs9 ws h hS hw => K_Lw_release l htr D tys z _ ws h hS t ht b X258 hw (xs (gn (i4_258 + 1))) hc9 hs9 (gR.i x359, X359) hF359) (gx_invSH (As := [Value.ref (b 0), Value.int (xs (gn (i4_258 + 1)))]) (rest := []) hx hb hown hts km_Lw_150 kS_Lw_release kN_Lw kc_Lw_release (by decide) (show (parseMethodDescriptor y_Lw_release.desc).map (fun d => d.parameters.length) = some 2 by decide +kernel) rfl rfl d_Lw_law_878) (gx_cwHA hts kc_Lw_release kN_Lw ⟨Nat.le_of_ble_eq_true rfl, Nat.le_of_ble_eq_true rfl⟩) hb hml hz hK hY hAz hA hl.1 (lv_room (Nat.le_of_ble_eq_true rfl)) d_Lw_law_878 (fun vz9 b H locs cells slots e9 hb9 hC Y => ?_) (fun xz9 Ez9 ce b H locs cells slots e9 hce hC Y => ?_)
      rotate_left
      · have e9 : (Sum.inr Ez9 : Option Value ⊕ String) = Sum.inl (some (Value.int x359)) := e9
        cases e9
      have e9 : (Sum.inl vz9 : Option Value ⊕ String) = Sum.inl (some (Value.int x359)) := e9
      cases e9
      replace hl : lv_has ls 7 [(4, Value.int i4_258), (0, Value.ref bq), (1, Value.ref (b 0)), (2, Value.ref (b 46)), (3, Value.ref (b 116))] := by rw [hb9 0 (gNm_s (by decide))]; rw [hb9 46 (gNm_s (by decide))]; rw [hb9 116 (gNm_s (by decide))]; exact hl
      refine W.eq (g2 := F0 m 881 ls [Value.int x359]) (by rfl) ?_
      refine lv_istore (lv' := [(5, Value.int x359), (4, Value.int i4_258), (0, Value.ref bq), (1, Value.ref (b 0)), (2, Value.ref (b 46)), (3, Value.ref (b 116))]) hx hb d_Lw_law_881 hl (by decide) rfl (fun ls hl => ?_)
      refine lv_aload_n hx hb d_Lw_law_883 rfl (lv_at hl 4 rfl) ?_
      refine lv_aload_n hx hb d_Lw_law_884 rfl (lv_at hl 2 rfl) ?_
      refine lv_iload hx hb d_Lw_law_885 (lv_at hl 1 rfl) ?_
      refine lv_iconst (v := 1) hx hb d_Lw_law_887 (by decide) ?_
      refine lv_iadd hx hb d_Lw_law_888 ?_
      refine gy_sld hf hx hb hX hbl hbA Y d_Lw_law_889 (fun hf => ?_)
      obtain ⟨X360, hF360, hf⟩ := gCv_el hf
      refine gy_callV (rm := { frames := 5, cells := 0, slots := 0, locals := 105 }) (ig := .invokevirtual 152) (av := [Value.ref (b 46), Value.int (xs (gn (i4_258 + 1)))]) Y (fun ws h hS hw => K_Mo_release l htr D tys z _ ws h hS t ht b X359 hw (xs (gn (i4_258 + 1))) (gR.v, X360) hF360) (gx_invV (As := [Value.int (xs (gn (i4_258 + 1)))]) (rest := []) hx hb hown hts km_Lw_152 kI_Mo_release kV_Mo_release kc_Mo_release (by decide) (show (parseMethodDescriptor y_Mo_release.desc).map (fun d => d.parameters.length) = some 1 by decide +kernel) (gy_recv (ci := 8) hK Y rfl gF_46) rfl rfl d_Lw_law_890) (gx_cw (z := 0) hts kc_Mo_release kN_Mo rfl rfl ⟨Nat.le_of_ble_eq_true rfl, Nat.le_of_ble_eq_true rfl⟩) hb hml hz hK hY hAz hA hl.1 (lv_room (Nat.le_of_ble_eq_true rfl)) d_Lw_law_890 ⟨hC.rc0 hRc, hC.rs0 hRs⟩ (fun H locs Y => ?_)
      refine lv_aload_n hx hb d_Lw_law_893 rfl (lv_at hl 4 rfl) ?_
      obtain ⟨x361, X361, hF361, hf⟩ := gCi_el hf
      refine gy_callI (rm := { frames := 1, cells := 0, slots := 0, locals := 12 }) (ig := .invokevirtual 98) (av := [Value.ref (b 46)]) Y (fun ws h hS hw => K_Mo_thrown l htr D tys z _ ws h hS t ht b X360 hw (gR.i x361, X361) hF361) (gx_invV (As := []) (rest := []) hx hb hown hts km_Lw_98 kI_Mo_thrown kV_Mo_thrown kc_Mo_thrown (by decide) (show (parseMethodDescriptor y_Mo_thrown.desc).map (fun d => d.parameters.length) = some 0 by decide +kernel) (gy_recv (ci := 8) hK Y rfl gF_46) rfl rfl d_Lw_law_894) (gx_cw (z := 0) hts kc_Mo_thrown kN_Mo rfl rfl ⟨Nat.le_of_ble_eq_true rfl, Nat.le_of_ble_eq_true rfl⟩) hb hml hz hK hY hAz hA hl.1 (lv_room (Nat.le_of_ble_eq_true rfl)) d_Lw_law_894 ⟨hC.rc0 hRc, hC.rs0 hRs⟩ (fun H locs Y => ?_)
      refine lv_iload hx hb d_Lw_law_897 (lv_at hl 0 rfl) ?_
      refine lv_icmp_eq (tgt := 904) hx hb d_Lw_law_899 (by decide) (fun c899_362 => ?_) (fun c899_362 => ?_)
      · replace hf := gp_t c899_362 hf
        refine lv_goto (tgt := 1272) hx hb d_Lw_law_904 (by decide) ?_
        exact J1272 (X361, i4_258) _ _ _ _ _ _ hf (lv_sub hl [1, 2, 3, 4, 5] rfl) (hC.mv Y) Y.rb
      · replace hf := gp_f c899_362 hf
        refine lv_iconst (v := 0) hx hb d_Lw_law_902 (by decide) ?_
        replace hf := gU hf ho258
        exact (law_no hf).elim
    replace hf := gp_f s285_15 hf
    by_cases s285_16 : ((xs (gn i4_258)) &&& 31) = (16 : Int32)
    · replace hf := gp_t s285_16 hf
      refine gx_topi s285_16 ?_
      refine lv_tableIn (off := 868) (tgt := 907) hx hb d_Lw_law_39 (by decide) (by decide) rfl (by decide) ?_
      refine lv_aload_n hx hb d_Lw_law_907 rfl (lv_at hl 2 rfl) ?_
      refine lv_aload_n hx hb d_Lw_law_908 rfl (lv_at hl 1 rfl) ?_
      refine lv_iload hx hb d_Lw_law_909 (lv_at hl 0 rfl) ?_
      refine lv_iconst (v := 1) hx hb d_Lw_law_911 (by decide) ?_
      refine lv_iadd hx hb d_Lw_law_912 ?_
      refine gy_sld hf hx hb hX hbl hbA Y d_Lw_law_913 (fun hf => ?_)
      refine lv_aload_n hx hb d_Lw_law_914 rfl (lv_at hl 1 rfl) ?_
      refine lv_iload hx hb d_Lw_law_915 (lv_at hl 0 rfl) ?_
      refine lv_iconst (v := 2) hx hb d_Lw_law_917 (by decide) ?_
      refine lv_iadd hx hb d_Lw_law_918 ?_
      refine gy_sld hf hx hb hX hbl hbA Y d_Lw_law_919 (fun hf => ?_)
      refine lv_aload_n hx hb d_Lw_law_920 rfl (lv_at hl 4 rfl) ?_
      have hl : lv_has ls 7 [(4, Value.int i4_258), (0, Value.ref bq), (1, Value.ref (b 0)), (2, Value.ref (b 46)), (3, Value.ref (b 116))] := lv_sub hl [0, 1, 2, 3, 4] rfl
      obtain ⟨x363, X363, hF363, hf⟩ := gCi_el hf
      refine gA_callH (fr := 8) (lo := 128) (o1 := (gR.i x363, X363)) (ig := .invokestatic 153) (av := [Value.ref (b 0), Value.int (xs (gn (i4_258 + 1))), Value.int (xs (gn (i4_258 + 2))), Value.ref (b 116)]) hC Y ⟨hRc, hRs⟩ (fun hc9 hs9 ws h hS hw => K_Lw_value l htr D tys z _ ws h hS t ht b X258 hw (xs (gn (i4_258 + 1))) (xs (gn (i4_258 + 2))) hc9 hs9 (gR.i x363, X363) hF363) (gx_invSH (As := [Value.ref (b 0), Value.int (xs (gn (i4_258 + 1))), Value.int (xs (gn (i4_258 + 2))), Value.ref (b 116)]) (rest := []) hx hb hown hts km_Lw_153 kS_Lw_value kN_Lw kc_Lw_value (by decide) (show (parseMethodDescriptor y_Lw_value.desc).map (fun d => d.parameters.length) = some 4 by decide +kernel) rfl rfl d_Lw_law_921) (gx_cwHA hts kc_Lw_value kN_Lw ⟨Nat.le_of_ble_eq_true rfl, Nat.le_of_ble_eq_true rfl⟩) hb hml hz hK hY hAz hA hl.1 (lv_room (Nat.le_of_ble_eq_true rfl)) d_Lw_law_921 (fun vz9 b H locs cells slots e9 hb9 hC Y => ?_) (fun xz9 Ez9 ce b H locs cells slots e9 hce hC Y => ?_)
      rotate_left
      · have e9 : (Sum.inr Ez9 : Option Value ⊕ String) = Sum.inl (some (Value.int x363)) := e9
        cases e9
      have e9 : (Sum.inl vz9 : Option Value ⊕ String) = Sum.inl (some (Value.int x363)) := e9
      cases e9
      replace hl : lv_has ls 7 [(4, Value.int i4_258), (0, Value.ref bq), (1, Value.ref (b 0)), (2, Value.ref (b 46)), (3, Value.ref (b 116))] := by rw [hb9 0 (gNm_s (by decide))]; rw [hb9 46 (gNm_s (by decide))]; rw [hb9 116 (gNm_s (by decide))]; exact hl
      refine W.eq (g2 := F0 m 924 ls [Value.int x363]) (by rfl) ?_
      refine lv_istore (lv' := [(5, Value.int x363), (4, Value.int i4_258), (0, Value.ref bq), (1, Value.ref (b 0)), (2, Value.ref (b 46)), (3, Value.ref (b 116))]) hx hb d_Lw_law_924 hl (by decide) rfl (fun ls hl => ?_)
      refine lv_aload_n hx hb d_Lw_law_926 rfl (lv_at hl 4 rfl) ?_
      refine lv_aload_n hx hb d_Lw_law_927 rfl (lv_at hl 2 rfl) ?_
      refine lv_iload hx hb d_Lw_law_928 (lv_at hl 1 rfl) ?_
      refine lv_iconst (v := 1) hx hb d_Lw_law_930 (by decide) ?_
      refine lv_iadd hx hb d_Lw_law_931 ?_
      refine gy_sld hf hx hb hX hbl hbA Y d_Lw_law_932 (fun hf => ?_)
      refine lv_aload_n hx hb d_Lw_law_933 rfl (lv_at hl 2 rfl) ?_
      refine lv_iload hx hb d_Lw_law_934 (lv_at hl 1 rfl) ?_
      refine lv_iconst (v := 2) hx hb d_Lw_law_936 (by decide) ?_
      refine lv_iadd hx hb d_Lw_law_937 ?_
      refine gy_sld hf hx hb hX hbl hbA Y d_Lw_law_938 (fun hf => ?_)
      obtain ⟨x364, X364, hF364, hf⟩ := gCi_el hf
      refine gy_callI (rm := { frames := 2, cells := 0, slots := 0, locals := 37 }) (ig := .invokevirtual 156) (av := [Value.ref (b 46), Value.int (xs (gn (i4_258 + 1))), Value.int (xs (gn (i4_258 + 2)))]) Y (fun ws h hS hw => K_Mo_value l htr D tys z _ ws h hS t ht b X363 hw (xs (gn (i4_258 + 1))) (xs (gn (i4_258 + 2))) (gR.i x364, X364) hF364) (gx_invV (As := [Value.int (xs (gn (i4_258 + 1))), Value.int (xs (gn (i4_258 + 2)))]) (rest := []) hx hb hown hts km_Lw_156 kI_Mo_value kV_Mo_value kc_Mo_value (by decide) (show (parseMethodDescriptor y_Mo_value.desc).map (fun d => d.parameters.length) = some 2 by decide +kernel) (gy_recv (ci := 8) hK Y rfl gF_46) rfl rfl d_Lw_law_939) (gx_cw (z := 0) hts kc_Mo_value kN_Mo rfl rfl ⟨Nat.le_of_ble_eq_true rfl, Nat.le_of_ble_eq_true rfl⟩) hb hml hz hK hY hAz hA hl.1 (lv_room (Nat.le_of_ble_eq_true rfl)) d_Lw_law_939 ⟨hC.rc0 hRc, hC.rs0 hRs⟩ (fun H locs Y => ?_)
      refine lv_istore (lv' := [(6, Value.int x364), (5, Value.int x363), (4, Value.int i4_258), (0, Value.ref bq), (1, Value.ref (b 0)), (2, Value.ref (b 46)), (3, Value.ref (b 116))]) hx hb d_Lw_law_942 hl (by decide) rfl (fun ls hl => ?_)
      refine lv_aload_n hx hb d_Lw_law_944 rfl (lv_at hl 5 rfl) ?_
      obtain ⟨x365, X365, hF365, hf⟩ := gCi_el hf
      refine gy_callI (rm := { frames := 1, cells := 0, slots := 0, locals := 12 }) (ig := .invokevirtual 98) (av := [Value.ref (b 46)]) Y (fun ws h hS hw => K_Mo_thrown l htr D tys z _ ws h hS t ht b X364 hw (gR.i x365, X365) hF365) (gx_invV (As := []) (rest := []) hx hb hown hts km_Lw_98 kI_Mo_thrown kV_Mo_thrown kc_Mo_thrown (by decide) (show (parseMethodDescriptor y_Mo_thrown.desc).map (fun d => d.parameters.length) = some 0 by decide +kernel) (gy_recv (ci := 8) hK Y rfl gF_46) rfl rfl d_Lw_law_945) (gx_cw (z := 0) hts kc_Mo_thrown kN_Mo rfl rfl ⟨Nat.le_of_ble_eq_true rfl, Nat.le_of_ble_eq_true rfl⟩) hb hml hz hK hY hAz hA hl.1 (lv_room (Nat.le_of_ble_eq_true rfl)) d_Lw_law_945 ⟨hC.rc0 hRc, hC.rs0 hRs⟩ (fun H locs Y => ?_)
      refine lv_iload hx hb d_Lw_law_948 (lv_at hl 1 rfl) ?_
      refine lv_icmp_eq (tgt := 955) hx hb d_Lw_law_950 (by decide) (fun c950_366 => ?_) (fun c950_366 => ?_)
      · replace hf := gp_t c950_366 hf
        refine lv_iload hx hb d_Lw_law_955 (lv_at hl 1 rfl) ?_
        refine lv_if_ne (tgt := 972) hx hb d_Lw_law_957 (by decide) (fun c957_367 => ?_) (fun c957_367 => ?_)
        · replace hf := gp_f c957_367 hf
          exact J972 (X365, i4_258) _ _ _ _ _ _ hf (lv_sub hl [2, 3, 4, 5, 6] rfl) (hC.mv Y) Y.rb
        · replace hf := gp_t c957_367 hf
          refine lv_aload_n hx hb d_Lw_law_960 rfl (lv_at hl 6 rfl) ?_
          refine lv_iconst (v := 0) hx hb d_Lw_law_961 (by decide) ?_
          refine gy_lald hx hb hK Y ht6 d_Lw_law_962 ?_
          refine lv_iload hx hb d_Lw_law_963 (lv_at hl 0 rfl) ?_
          refine lv_i2l (v := x364.toInt64) hx hb d_Lw_law_965 rfl ?_
          refine gx_leq (tgt := 972) hx hb d_Lw_law_966 d_Lw_law_967 (by decide) (fun c966_368 => ?_) (fun c966_368 => ?_)
          · replace hf := gp_t c966_368 hf
            exact J972 (X365, i4_258) _ _ _ _ _ _ hf (lv_sub hl [2, 3, 4, 5, 6] rfl) (hC.mv Y) Y.rb
          · replace hf := gp_f c966_368 hf
            refine lv_iconst (v := 0) hx hb d_Lw_law_970 (by decide) ?_
            replace hf := gU hf ho258
            exact (law_no hf).elim
      · replace hf := gp_f c950_366 hf
        refine lv_iconst (v := 0) hx hb d_Lw_law_953 (by decide) ?_
        replace hf := gU hf ho258
        exact (law_no hf).elim
    replace hf := gp_f s285_16 hf
    by_cases s285_17 : ((xs (gn i4_258)) &&& 31) = (17 : Int32)
    · replace hf := gp_t s285_17 hf
      refine gx_topi s285_17 ?_
      refine lv_tableIn (off := 936) (tgt := 975) hx hb d_Lw_law_39 (by decide) (by decide) rfl (by decide) ?_
      refine lv_aload_n hx hb d_Lw_law_975 rfl (lv_at hl 2 rfl) ?_
      refine lv_aload_n hx hb d_Lw_law_976 rfl (lv_at hl 1 rfl) ?_
      refine lv_iload hx hb d_Lw_law_977 (lv_at hl 0 rfl) ?_
      refine lv_iconst (v := 1) hx hb d_Lw_law_979 (by decide) ?_
      refine lv_iadd hx hb d_Lw_law_980 ?_
      refine gy_sld hf hx hb hX hbl hbA Y d_Lw_law_981 (fun hf => ?_)
      refine lv_aload_n hx hb d_Lw_law_982 rfl (lv_at hl 1 rfl) ?_
      refine lv_iload hx hb d_Lw_law_983 (lv_at hl 0 rfl) ?_
      refine lv_iconst (v := 2) hx hb d_Lw_law_985 (by decide) ?_
      refine lv_iadd hx hb d_Lw_law_986 ?_
      refine gy_sld hf hx hb hX hbl hbA Y d_Lw_law_987 (fun hf => ?_)
      refine lv_aload_n hx hb d_Lw_law_988 rfl (lv_at hl 4 rfl) ?_
      have hl : lv_has ls 7 [(4, Value.int i4_258), (0, Value.ref bq), (1, Value.ref (b 0)), (2, Value.ref (b 46)), (3, Value.ref (b 116))] := lv_sub hl [0, 1, 2, 3, 4] rfl
      obtain ⟨x369, X369, hF369, hf⟩ := gCi_el hf
      refine gA_callH (fr := 8) (lo := 129) (o1 := (gR.i x369, X369)) (ig := .invokestatic 157) (av := [Value.ref (b 0), Value.int (xs (gn (i4_258 + 1))), Value.int (xs (gn (i4_258 + 2))), Value.ref (b 116)]) hC Y ⟨hRc, hRs⟩ (fun hc9 hs9 ws h hS hw => K_Lw_many l htr D tys z _ ws h hS t ht b X258 hw (xs (gn (i4_258 + 1))) (xs (gn (i4_258 + 2))) hc9 hs9 (gR.i x369, X369) hF369) (gx_invSH (As := [Value.ref (b 0), Value.int (xs (gn (i4_258 + 1))), Value.int (xs (gn (i4_258 + 2))), Value.ref (b 116)]) (rest := []) hx hb hown hts km_Lw_157 kS_Lw_many kN_Lw kc_Lw_many (by decide) (show (parseMethodDescriptor y_Lw_many.desc).map (fun d => d.parameters.length) = some 4 by decide +kernel) rfl rfl d_Lw_law_989) (gx_cwHA hts kc_Lw_many kN_Lw ⟨Nat.le_of_ble_eq_true rfl, Nat.le_of_ble_eq_true rfl⟩) hb hml hz hK hY hAz hA hl.1 (lv_room (Nat.le_of_ble_eq_true rfl)) d_Lw_law_989 (fun vz9 b H locs cells slots e9 hb9 hC Y => ?_) (fun xz9 Ez9 ce b H locs cells slots e9 hce hC Y => ?_)
      rotate_left
      · have e9 : (Sum.inr Ez9 : Option Value ⊕ String) = Sum.inl (some (Value.int x369)) := e9
        cases e9
      have e9 : (Sum.inl vz9 : Option Value ⊕ String) = Sum.inl (some (Value.int x369)) := e9
      cases e9
      replace hl : lv_has ls 7 [(4, Value.int i4_258), (0, Value.ref bq), (1, Value.ref (b 0)), (2, Value.ref (b 46)), (3, Value.ref (b 116))] := by rw [hb9 0 (gNm_s (by decide))]; rw [hb9 46 (gNm_s (by decide))]; rw [hb9 116 (gNm_s (by decide))]; exact hl
      refine W.eq (g2 := F0 m 992 ls [Value.int x369]) (by rfl) ?_
      refine lv_istore (lv' := [(5, Value.int x369), (4, Value.int i4_258), (0, Value.ref bq), (1, Value.ref (b 0)), (2, Value.ref (b 46)), (3, Value.ref (b 116))]) hx hb d_Lw_law_992 hl (by decide) rfl (fun ls hl => ?_)
      refine lv_aload_n hx hb d_Lw_law_994 rfl (lv_at hl 4 rfl) ?_
      refine lv_aload_n hx hb d_Lw_law_995 rfl (lv_at hl 2 rfl) ?_
      refine lv_iload hx hb d_Lw_law_996 (lv_at hl 1 rfl) ?_
      refine lv_iconst (v := 1) hx hb d_Lw_law_998 (by decide) ?_
      refine lv_iadd hx hb d_Lw_law_999 ?_
      refine gy_sld hf hx hb hX hbl hbA Y d_Lw_law_1000 (fun hf => ?_)
      refine lv_aload_n hx hb d_Lw_law_1001 rfl (lv_at hl 2 rfl) ?_
      refine lv_iload hx hb d_Lw_law_1002 (lv_at hl 1 rfl) ?_
      refine lv_iconst (v := 2) hx hb d_Lw_law_1004 (by decide) ?_
      refine lv_iadd hx hb d_Lw_law_1005 ?_
      refine gy_sld hf hx hb hX hbl hbA Y d_Lw_law_1006 (fun hf => ?_)
      obtain ⟨x370, X370, hF370, hf⟩ := gCi_el hf
      refine gy_callI (rm := { frames := 2, cells := 0, slots := 0, locals := 37 }) (ig := .invokevirtual 159) (av := [Value.ref (b 46), Value.int (xs (gn (i4_258 + 1))), Value.int (xs (gn (i4_258 + 2)))]) Y (fun ws h hS hw => K_Mo_many l htr D tys z _ ws h hS t ht b X369 hw (xs (gn (i4_258 + 1))) (xs (gn (i4_258 + 2))) (gR.i x370, X370) hF370) (gx_invV (As := [Value.int (xs (gn (i4_258 + 1))), Value.int (xs (gn (i4_258 + 2)))]) (rest := []) hx hb hown hts km_Lw_159 kI_Mo_many kV_Mo_many kc_Mo_many (by decide) (show (parseMethodDescriptor y_Mo_many.desc).map (fun d => d.parameters.length) = some 2 by decide +kernel) (gy_recv (ci := 8) hK Y rfl gF_46) rfl rfl d_Lw_law_1007) (gx_cw (z := 0) hts kc_Mo_many kN_Mo rfl rfl ⟨Nat.le_of_ble_eq_true rfl, Nat.le_of_ble_eq_true rfl⟩) hb hml hz hK hY hAz hA hl.1 (lv_room (Nat.le_of_ble_eq_true rfl)) d_Lw_law_1007 ⟨hC.rc0 hRc, hC.rs0 hRs⟩ (fun H locs Y => ?_)
      refine lv_istore (lv' := [(6, Value.int x370), (5, Value.int x369), (4, Value.int i4_258), (0, Value.ref bq), (1, Value.ref (b 0)), (2, Value.ref (b 46)), (3, Value.ref (b 116))]) hx hb d_Lw_law_1010 hl (by decide) rfl (fun ls hl => ?_)
      refine lv_aload_n hx hb d_Lw_law_1012 rfl (lv_at hl 5 rfl) ?_
      obtain ⟨x371, X371, hF371, hf⟩ := gCi_el hf
      refine gy_callI (rm := { frames := 1, cells := 0, slots := 0, locals := 12 }) (ig := .invokevirtual 98) (av := [Value.ref (b 46)]) Y (fun ws h hS hw => K_Mo_thrown l htr D tys z _ ws h hS t ht b X370 hw (gR.i x371, X371) hF371) (gx_invV (As := []) (rest := []) hx hb hown hts km_Lw_98 kI_Mo_thrown kV_Mo_thrown kc_Mo_thrown (by decide) (show (parseMethodDescriptor y_Mo_thrown.desc).map (fun d => d.parameters.length) = some 0 by decide +kernel) (gy_recv (ci := 8) hK Y rfl gF_46) rfl rfl d_Lw_law_1013) (gx_cw (z := 0) hts kc_Mo_thrown kN_Mo rfl rfl ⟨Nat.le_of_ble_eq_true rfl, Nat.le_of_ble_eq_true rfl⟩) hb hml hz hK hY hAz hA hl.1 (lv_room (Nat.le_of_ble_eq_true rfl)) d_Lw_law_1013 ⟨hC.rc0 hRc, hC.rs0 hRs⟩ (fun H locs Y => ?_)
      refine lv_iload hx hb d_Lw_law_1016 (lv_at hl 1 rfl) ?_
      refine lv_icmp_eq (tgt := 1023) hx hb d_Lw_law_1018 (by decide) (fun c1018_372 => ?_) (fun c1018_372 => ?_)
      · replace hf := gp_t c1018_372 hf
        refine lv_iload hx hb d_Lw_law_1023 (lv_at hl 1 rfl) ?_
        refine lv_if_ne (tgt := 1040) hx hb d_Lw_law_1025 (by decide) (fun c1025_373 => ?_) (fun c1025_373 => ?_)
        · replace hf := gp_f c1025_373 hf
          exact J1040 (X371, i4_258) _ _ _ _ _ _ hf (lv_sub hl [2, 3, 4, 5, 6] rfl) (hC.mv Y) Y.rb
        · replace hf := gp_t c1025_373 hf
          refine lv_aload_n hx hb d_Lw_law_1028 rfl (lv_at hl 6 rfl) ?_
          refine lv_iconst (v := 0) hx hb d_Lw_law_1029 (by decide) ?_
          refine gy_lald hx hb hK Y ht6 d_Lw_law_1030 ?_
          refine lv_iload hx hb d_Lw_law_1031 (lv_at hl 0 rfl) ?_
          refine lv_i2l (v := x370.toInt64) hx hb d_Lw_law_1033 rfl ?_
          refine gx_leq (tgt := 1040) hx hb d_Lw_law_1034 d_Lw_law_1035 (by decide) (fun c1034_374 => ?_) (fun c1034_374 => ?_)
          · replace hf := gp_t c1034_374 hf
            exact J1040 (X371, i4_258) _ _ _ _ _ _ hf (lv_sub hl [2, 3, 4, 5, 6] rfl) (hC.mv Y) Y.rb
          · replace hf := gp_f c1034_374 hf
            refine lv_iconst (v := 0) hx hb d_Lw_law_1038 (by decide) ?_
            replace hf := gU hf ho258
            exact (law_no hf).elim
      · replace hf := gp_f c1018_372 hf
        refine lv_iconst (v := 0) hx hb d_Lw_law_1021 (by decide) ?_
        replace hf := gU hf ho258
        exact (law_no hf).elim
    replace hf := gp_f s285_17 hf
    by_cases s285_18 : ((xs (gn i4_258)) &&& 31) = (18 : Int32)
    · replace hf := gp_t s285_18 hf
      refine gx_topi s285_18 ?_
      refine lv_tableIn (off := 1004) (tgt := 1043) hx hb d_Lw_law_39 (by decide) (by decide) rfl (by decide) ?_
      refine lv_aload_n hx hb d_Lw_law_1043 rfl (lv_at hl 2 rfl) ?_
      refine lv_aload_n hx hb d_Lw_law_1044 rfl (lv_at hl 1 rfl) ?_
      refine lv_iload hx hb d_Lw_law_1045 (lv_at hl 0 rfl) ?_
      refine lv_iconst (v := 1) hx hb d_Lw_law_1047 (by decide) ?_
      refine lv_iadd hx hb d_Lw_law_1048 ?_
      refine gy_sld hf hx hb hX hbl hbA Y d_Lw_law_1049 (fun hf => ?_)
      refine lv_aload_n hx hb d_Lw_law_1050 rfl (lv_at hl 1 rfl) ?_
      refine lv_iload hx hb d_Lw_law_1051 (lv_at hl 0 rfl) ?_
      refine lv_iconst (v := 2) hx hb d_Lw_law_1053 (by decide) ?_
      refine lv_iadd hx hb d_Lw_law_1054 ?_
      refine gy_sld hf hx hb hX hbl hbA Y d_Lw_law_1055 (fun hf => ?_)
      refine lv_aload_n hx hb d_Lw_law_1056 rfl (lv_at hl 4 rfl) ?_
      have hl : lv_has ls 7 [(4, Value.int i4_258), (0, Value.ref bq), (1, Value.ref (b 0)), (2, Value.ref (b 46)), (3, Value.ref (b 116))] := lv_sub hl [0, 1, 2, 3, 4] rfl
      obtain ⟨x375, X375, hF375, hf⟩ := gCi_el hf
      refine gA_callH (fr := 8) (lo := 129) (o1 := (gR.i x375, X375)) (ig := .invokestatic 160) (av := [Value.ref (b 0), Value.int (xs (gn (i4_258 + 1))), Value.int (xs (gn (i4_258 + 2))), Value.ref (b 116)]) hC Y ⟨hRc, hRs⟩ (fun hc9 hs9 ws h hS hw => K_Lw_serial l htr D tys z _ ws h hS t ht b X258 hw (xs (gn (i4_258 + 1))) (xs (gn (i4_258 + 2))) hc9 hs9 (gR.i x375, X375) hF375) (gx_invSH (As := [Value.ref (b 0), Value.int (xs (gn (i4_258 + 1))), Value.int (xs (gn (i4_258 + 2))), Value.ref (b 116)]) (rest := []) hx hb hown hts km_Lw_160 kS_Lw_serial kN_Lw kc_Lw_serial (by decide) (show (parseMethodDescriptor y_Lw_serial.desc).map (fun d => d.parameters.length) = some 4 by decide +kernel) rfl rfl d_Lw_law_1057) (gx_cwHA hts kc_Lw_serial kN_Lw ⟨Nat.le_of_ble_eq_true rfl, Nat.le_of_ble_eq_true rfl⟩) hb hml hz hK hY hAz hA hl.1 (lv_room (Nat.le_of_ble_eq_true rfl)) d_Lw_law_1057 (fun vz9 b H locs cells slots e9 hb9 hC Y => ?_) (fun xz9 Ez9 ce b H locs cells slots e9 hce hC Y => ?_)
      rotate_left
      · have e9 : (Sum.inr Ez9 : Option Value ⊕ String) = Sum.inl (some (Value.int x375)) := e9
        cases e9
      have e9 : (Sum.inl vz9 : Option Value ⊕ String) = Sum.inl (some (Value.int x375)) := e9
      cases e9
      replace hl : lv_has ls 7 [(4, Value.int i4_258), (0, Value.ref bq), (1, Value.ref (b 0)), (2, Value.ref (b 46)), (3, Value.ref (b 116))] := by rw [hb9 0 (gNm_s (by decide))]; rw [hb9 46 (gNm_s (by decide))]; rw [hb9 116 (gNm_s (by decide))]; exact hl
      refine W.eq (g2 := F0 m 1060 ls [Value.int x375]) (by rfl) ?_
      refine lv_istore (lv' := [(5, Value.int x375), (4, Value.int i4_258), (0, Value.ref bq), (1, Value.ref (b 0)), (2, Value.ref (b 46)), (3, Value.ref (b 116))]) hx hb d_Lw_law_1060 hl (by decide) rfl (fun ls hl => ?_)
      refine lv_aload_n hx hb d_Lw_law_1062 rfl (lv_at hl 4 rfl) ?_
      refine lv_aload_n hx hb d_Lw_law_1063 rfl (lv_at hl 2 rfl) ?_
      refine lv_iload hx hb d_Lw_law_1064 (lv_at hl 1 rfl) ?_
      refine lv_iconst (v := 1) hx hb d_Lw_law_1066 (by decide) ?_
      refine lv_iadd hx hb d_Lw_law_1067 ?_
      refine gy_sld hf hx hb hX hbl hbA Y d_Lw_law_1068 (fun hf => ?_)
      refine lv_aload_n hx hb d_Lw_law_1069 rfl (lv_at hl 2 rfl) ?_
      refine lv_iload hx hb d_Lw_law_1070 (lv_at hl 1 rfl) ?_
      refine lv_iconst (v := 2) hx hb d_Lw_law_1072 (by decide) ?_
      refine lv_iadd hx hb d_Lw_law_1073 ?_
      refine gy_sld hf hx hb hX hbl hbA Y d_Lw_law_1074 (fun hf => ?_)
      obtain ⟨x376, X376, hF376, hf⟩ := gCi_el hf
      refine gy_callI (rm := { frames := 2, cells := 0, slots := 0, locals := 37 }) (ig := .invokevirtual 162) (av := [Value.ref (b 46), Value.int (xs (gn (i4_258 + 1))), Value.int (xs (gn (i4_258 + 2)))]) Y (fun ws h hS hw => K_Mo_serial l htr D tys z _ ws h hS t ht b X375 hw (xs (gn (i4_258 + 1))) (xs (gn (i4_258 + 2))) (gR.i x376, X376) hF376) (gx_invV (As := [Value.int (xs (gn (i4_258 + 1))), Value.int (xs (gn (i4_258 + 2)))]) (rest := []) hx hb hown hts km_Lw_162 kI_Mo_serial kV_Mo_serial kc_Mo_serial (by decide) (show (parseMethodDescriptor y_Mo_serial.desc).map (fun d => d.parameters.length) = some 2 by decide +kernel) (gy_recv (ci := 8) hK Y rfl gF_46) rfl rfl d_Lw_law_1075) (gx_cw (z := 0) hts kc_Mo_serial kN_Mo rfl rfl ⟨Nat.le_of_ble_eq_true rfl, Nat.le_of_ble_eq_true rfl⟩) hb hml hz hK hY hAz hA hl.1 (lv_room (Nat.le_of_ble_eq_true rfl)) d_Lw_law_1075 ⟨hC.rc0 hRc, hC.rs0 hRs⟩ (fun H locs Y => ?_)
      refine lv_istore (lv' := [(6, Value.int x376), (5, Value.int x375), (4, Value.int i4_258), (0, Value.ref bq), (1, Value.ref (b 0)), (2, Value.ref (b 46)), (3, Value.ref (b 116))]) hx hb d_Lw_law_1078 hl (by decide) rfl (fun ls hl => ?_)
      refine lv_aload_n hx hb d_Lw_law_1080 rfl (lv_at hl 5 rfl) ?_
      obtain ⟨x377, X377, hF377, hf⟩ := gCi_el hf
      refine gy_callI (rm := { frames := 1, cells := 0, slots := 0, locals := 12 }) (ig := .invokevirtual 98) (av := [Value.ref (b 46)]) Y (fun ws h hS hw => K_Mo_thrown l htr D tys z _ ws h hS t ht b X376 hw (gR.i x377, X377) hF377) (gx_invV (As := []) (rest := []) hx hb hown hts km_Lw_98 kI_Mo_thrown kV_Mo_thrown kc_Mo_thrown (by decide) (show (parseMethodDescriptor y_Mo_thrown.desc).map (fun d => d.parameters.length) = some 0 by decide +kernel) (gy_recv (ci := 8) hK Y rfl gF_46) rfl rfl d_Lw_law_1081) (gx_cw (z := 0) hts kc_Mo_thrown kN_Mo rfl rfl ⟨Nat.le_of_ble_eq_true rfl, Nat.le_of_ble_eq_true rfl⟩) hb hml hz hK hY hAz hA hl.1 (lv_room (Nat.le_of_ble_eq_true rfl)) d_Lw_law_1081 ⟨hC.rc0 hRc, hC.rs0 hRs⟩ (fun H locs Y => ?_)
      refine lv_iload hx hb d_Lw_law_1084 (lv_at hl 1 rfl) ?_
      refine lv_icmp_eq (tgt := 1091) hx hb d_Lw_law_1086 (by decide) (fun c1086_378 => ?_) (fun c1086_378 => ?_)
      · replace hf := gp_t c1086_378 hf
        refine lv_iload hx hb d_Lw_law_1091 (lv_at hl 1 rfl) ?_
        refine lv_if_ne (tgt := 1108) hx hb d_Lw_law_1093 (by decide) (fun c1093_379 => ?_) (fun c1093_379 => ?_)
        · replace hf := gp_f c1093_379 hf
          exact J1108 (X377, i4_258) _ _ _ _ _ _ hf (lv_sub hl [2, 3, 4, 5, 6] rfl) (hC.mv Y) Y.rb
        · replace hf := gp_t c1093_379 hf
          refine lv_aload_n hx hb d_Lw_law_1096 rfl (lv_at hl 6 rfl) ?_
          refine lv_iconst (v := 0) hx hb d_Lw_law_1097 (by decide) ?_
          refine gy_lald hx hb hK Y ht6 d_Lw_law_1098 ?_
          refine lv_iload hx hb d_Lw_law_1099 (lv_at hl 0 rfl) ?_
          refine lv_i2l (v := x376.toInt64) hx hb d_Lw_law_1101 rfl ?_
          refine gx_leq (tgt := 1108) hx hb d_Lw_law_1102 d_Lw_law_1103 (by decide) (fun c1102_380 => ?_) (fun c1102_380 => ?_)
          · replace hf := gp_t c1102_380 hf
            exact J1108 (X377, i4_258) _ _ _ _ _ _ hf (lv_sub hl [2, 3, 4, 5, 6] rfl) (hC.mv Y) Y.rb
          · replace hf := gp_f c1102_380 hf
            refine lv_iconst (v := 0) hx hb d_Lw_law_1106 (by decide) ?_
            replace hf := gU hf ho258
            exact (law_no hf).elim
      · replace hf := gp_f c1086_378 hf
        refine lv_iconst (v := 0) hx hb d_Lw_law_1089 (by decide) ?_
        replace hf := gU hf ho258
        exact (law_no hf).elim
    replace hf := gp_f s285_18 hf
    by_cases s285_19 : ((xs (gn i4_258)) &&& 31) = (19 : Int32)
    · replace hf := gp_t s285_19 hf
      refine gx_topi s285_19 ?_
      refine lv_tableIn (off := 1072) (tgt := 1111) hx hb d_Lw_law_39 (by decide) (by decide) rfl (by decide) ?_
      refine lv_aload_n hx hb d_Lw_law_1111 rfl (lv_at hl 2 rfl) ?_
      refine lv_aload_n hx hb d_Lw_law_1112 rfl (lv_at hl 1 rfl) ?_
      refine lv_iload hx hb d_Lw_law_1113 (lv_at hl 0 rfl) ?_
      refine lv_iconst (v := 1) hx hb d_Lw_law_1115 (by decide) ?_
      refine lv_iadd hx hb d_Lw_law_1116 ?_
      refine gy_sld hf hx hb hX hbl hbA Y d_Lw_law_1117 (fun hf => ?_)
      refine lv_aload_n hx hb d_Lw_law_1118 rfl (lv_at hl 1 rfl) ?_
      refine lv_iload hx hb d_Lw_law_1119 (lv_at hl 0 rfl) ?_
      refine lv_iconst (v := 2) hx hb d_Lw_law_1121 (by decide) ?_
      refine lv_iadd hx hb d_Lw_law_1122 ?_
      refine gy_sld hf hx hb hX hbl hbA Y d_Lw_law_1123 (fun hf => ?_)
      refine lv_aload_n hx hb d_Lw_law_1124 rfl (lv_at hl 4 rfl) ?_
      have hl : lv_has ls 7 [(4, Value.int i4_258), (0, Value.ref bq), (1, Value.ref (b 0)), (2, Value.ref (b 46)), (3, Value.ref (b 116))] := lv_sub hl [0, 1, 2, 3, 4] rfl
      obtain ⟨x381, X381, hF381, hf⟩ := gCi_el hf
      refine gA_callH (fr := 8) (lo := 127) (o1 := (gR.i x381, X381)) (ig := .invokestatic 163) (av := [Value.ref (b 0), Value.int (xs (gn (i4_258 + 1))), Value.int (xs (gn (i4_258 + 2))), Value.ref (b 116)]) hC Y ⟨hRc, hRs⟩ (fun hc9 hs9 ws h hS hw => K_Lw_seen l htr D tys z _ ws h hS t ht b X258 hw (xs (gn (i4_258 + 1))) (xs (gn (i4_258 + 2))) hc9 hs9 (gR.i x381, X381) hF381) (gx_invSH (As := [Value.ref (b 0), Value.int (xs (gn (i4_258 + 1))), Value.int (xs (gn (i4_258 + 2))), Value.ref (b 116)]) (rest := []) hx hb hown hts km_Lw_163 kS_Lw_seen kN_Lw kc_Lw_seen (by decide) (show (parseMethodDescriptor y_Lw_seen.desc).map (fun d => d.parameters.length) = some 4 by decide +kernel) rfl rfl d_Lw_law_1125) (gx_cwHA hts kc_Lw_seen kN_Lw ⟨Nat.le_of_ble_eq_true rfl, Nat.le_of_ble_eq_true rfl⟩) hb hml hz hK hY hAz hA hl.1 (lv_room (Nat.le_of_ble_eq_true rfl)) d_Lw_law_1125 (fun vz9 b H locs cells slots e9 hb9 hC Y => ?_) (fun xz9 Ez9 ce b H locs cells slots e9 hce hC Y => ?_)
      rotate_left
      · have e9 : (Sum.inr Ez9 : Option Value ⊕ String) = Sum.inl (some (Value.int x381)) := e9
        cases e9
      have e9 : (Sum.inl vz9 : Option Value ⊕ String) = Sum.inl (some (Value.int x381)) := e9
      cases e9
      replace hl : lv_has ls 7 [(4, Value.int i4_258), (0, Value.ref bq), (1, Value.ref (b 0)), (2, Value.ref (b 46)), (3, Value.ref (b 116))] := by rw [hb9 0 (gNm_s (by decide))]; rw [hb9 46 (gNm_s (by decide))]; rw [hb9 116 (gNm_s (by decide))]; exact hl
      refine W.eq (g2 := F0 m 1128 ls [Value.int x381]) (by rfl) ?_
      refine lv_istore (lv' := [(5, Value.int x381), (4, Value.int i4_258), (0, Value.ref bq), (1, Value.ref (b 0)), (2, Value.ref (b 46)), (3, Value.ref (b 116))]) hx hb d_Lw_law_1128 hl (by decide) rfl (fun ls hl => ?_)
      refine lv_aload_n hx hb d_Lw_law_1130 rfl (lv_at hl 4 rfl) ?_
      refine lv_aload_n hx hb d_Lw_law_1131 rfl (lv_at hl 2 rfl) ?_
      refine lv_iload hx hb d_Lw_law_1132 (lv_at hl 1 rfl) ?_
      refine lv_iconst (v := 1) hx hb d_Lw_law_1134 (by decide) ?_
      refine lv_iadd hx hb d_Lw_law_1135 ?_
      refine gy_sld hf hx hb hX hbl hbA Y d_Lw_law_1136 (fun hf => ?_)
      refine lv_aload_n hx hb d_Lw_law_1137 rfl (lv_at hl 2 rfl) ?_
      refine lv_iload hx hb d_Lw_law_1138 (lv_at hl 1 rfl) ?_
      refine lv_iconst (v := 2) hx hb d_Lw_law_1140 (by decide) ?_
      refine lv_iadd hx hb d_Lw_law_1141 ?_
      refine gy_sld hf hx hb hX hbl hbA Y d_Lw_law_1142 (fun hf => ?_)
      obtain ⟨x382, X382, hF382, hf⟩ := gCi_el hf
      refine gy_callI (rm := { frames := 3, cells := 0, slots := 0, locals := 54 }) (ig := .invokevirtual 165) (av := [Value.ref (b 46), Value.int (xs (gn (i4_258 + 1))), Value.int (xs (gn (i4_258 + 2)))]) Y (fun ws h hS hw => K_Mo_seen l htr D tys z _ ws h hS t ht b X381 hw (xs (gn (i4_258 + 1))) (xs (gn (i4_258 + 2))) (gR.i x382, X382) hF382) (gx_invV (As := [Value.int (xs (gn (i4_258 + 1))), Value.int (xs (gn (i4_258 + 2)))]) (rest := []) hx hb hown hts km_Lw_165 kI_Mo_seen kV_Mo_seen kc_Mo_seen (by decide) (show (parseMethodDescriptor y_Mo_seen.desc).map (fun d => d.parameters.length) = some 2 by decide +kernel) (gy_recv (ci := 8) hK Y rfl gF_46) rfl rfl d_Lw_law_1143) (gx_cw (z := 0) hts kc_Mo_seen kN_Mo rfl rfl ⟨Nat.le_of_ble_eq_true rfl, Nat.le_of_ble_eq_true rfl⟩) hb hml hz hK hY hAz hA hl.1 (lv_room (Nat.le_of_ble_eq_true rfl)) d_Lw_law_1143 ⟨hC.rc0 hRc, hC.rs0 hRs⟩ (fun H locs Y => ?_)
      refine lv_istore (lv' := [(6, Value.int x382), (5, Value.int x381), (4, Value.int i4_258), (0, Value.ref bq), (1, Value.ref (b 0)), (2, Value.ref (b 46)), (3, Value.ref (b 116))]) hx hb d_Lw_law_1146 hl (by decide) rfl (fun ls hl => ?_)
      refine lv_aload_n hx hb d_Lw_law_1148 rfl (lv_at hl 5 rfl) ?_
      obtain ⟨x383, X383, hF383, hf⟩ := gCi_el hf
      refine gy_callI (rm := { frames := 1, cells := 0, slots := 0, locals := 12 }) (ig := .invokevirtual 98) (av := [Value.ref (b 46)]) Y (fun ws h hS hw => K_Mo_thrown l htr D tys z _ ws h hS t ht b X382 hw (gR.i x383, X383) hF383) (gx_invV (As := []) (rest := []) hx hb hown hts km_Lw_98 kI_Mo_thrown kV_Mo_thrown kc_Mo_thrown (by decide) (show (parseMethodDescriptor y_Mo_thrown.desc).map (fun d => d.parameters.length) = some 0 by decide +kernel) (gy_recv (ci := 8) hK Y rfl gF_46) rfl rfl d_Lw_law_1149) (gx_cw (z := 0) hts kc_Mo_thrown kN_Mo rfl rfl ⟨Nat.le_of_ble_eq_true rfl, Nat.le_of_ble_eq_true rfl⟩) hb hml hz hK hY hAz hA hl.1 (lv_room (Nat.le_of_ble_eq_true rfl)) d_Lw_law_1149 ⟨hC.rc0 hRc, hC.rs0 hRs⟩ (fun H locs Y => ?_)
      refine lv_iload hx hb d_Lw_law_1152 (lv_at hl 1 rfl) ?_
      refine lv_icmp_eq (tgt := 1159) hx hb d_Lw_law_1154 (by decide) (fun c1154_384 => ?_) (fun c1154_384 => ?_)
      · replace hf := gp_t c1154_384 hf
        refine lv_iload hx hb d_Lw_law_1159 (lv_at hl 1 rfl) ?_
        refine lv_if_ne (tgt := 1176) hx hb d_Lw_law_1161 (by decide) (fun c1161_385 => ?_) (fun c1161_385 => ?_)
        · replace hf := gp_f c1161_385 hf
          exact J1176 (X383, i4_258) _ _ _ _ _ _ hf (lv_sub hl [2, 3, 4, 5, 6] rfl) (hC.mv Y) Y.rb
        · replace hf := gp_t c1161_385 hf
          refine lv_aload_n hx hb d_Lw_law_1164 rfl (lv_at hl 6 rfl) ?_
          refine lv_iconst (v := 0) hx hb d_Lw_law_1165 (by decide) ?_
          refine gy_lald hx hb hK Y ht6 d_Lw_law_1166 ?_
          refine lv_iload hx hb d_Lw_law_1167 (lv_at hl 0 rfl) ?_
          refine lv_i2l (v := x382.toInt64) hx hb d_Lw_law_1169 rfl ?_
          refine gx_leq (tgt := 1176) hx hb d_Lw_law_1170 d_Lw_law_1171 (by decide) (fun c1170_386 => ?_) (fun c1170_386 => ?_)
          · replace hf := gp_t c1170_386 hf
            exact J1176 (X383, i4_258) _ _ _ _ _ _ hf (lv_sub hl [2, 3, 4, 5, 6] rfl) (hC.mv Y) Y.rb
          · replace hf := gp_f c1170_386 hf
            refine lv_iconst (v := 0) hx hb d_Lw_law_1174 (by decide) ?_
            replace hf := gU hf ho258
            exact (law_no hf).elim
      · replace hf := gp_f c1154_384 hf
        refine lv_iconst (v := 0) hx hb d_Lw_law_1157 (by decide) ?_
        replace hf := gU hf ho258
        exact (law_no hf).elim
    replace hf := gp_f s285_19 hf
    by_cases s285_20 : ((xs (gn i4_258)) &&& 31) = (20 : Int32)
    · replace hf := gp_t s285_20 hf
      refine gx_topi s285_20 ?_
      refine lv_tableIn (off := 1140) (tgt := 1179) hx hb d_Lw_law_39 (by decide) (by decide) rfl (by decide) ?_
      refine lv_aload_n hx hb d_Lw_law_1179 rfl (lv_at hl 2 rfl) ?_
      refine lv_aload_n hx hb d_Lw_law_1180 rfl (lv_at hl 1 rfl) ?_
      refine lv_iload hx hb d_Lw_law_1181 (lv_at hl 0 rfl) ?_
      refine lv_iconst (v := 1) hx hb d_Lw_law_1183 (by decide) ?_
      refine lv_iadd hx hb d_Lw_law_1184 ?_
      refine gy_sld hf hx hb hX hbl hbA Y d_Lw_law_1185 (fun hf => ?_)
      refine lv_aload_n hx hb d_Lw_law_1186 rfl (lv_at hl 1 rfl) ?_
      refine lv_iload hx hb d_Lw_law_1187 (lv_at hl 0 rfl) ?_
      refine lv_iconst (v := 2) hx hb d_Lw_law_1189 (by decide) ?_
      refine lv_iadd hx hb d_Lw_law_1190 ?_
      refine gy_sld hf hx hb hX hbl hbA Y d_Lw_law_1191 (fun hf => ?_)
      refine lv_aload_n hx hb d_Lw_law_1192 rfl (lv_at hl 4 rfl) ?_
      have hl : lv_has ls 7 [(4, Value.int i4_258), (0, Value.ref bq), (1, Value.ref (b 0)), (2, Value.ref (b 46)), (3, Value.ref (b 116))] := lv_sub hl [0, 1, 2, 3, 4] rfl
      obtain ⟨x387, X387, hF387, hf⟩ := gCi_el hf
      refine gA_callH (fr := 8) (lo := 127) (o1 := (gR.i x387, X387)) (ig := .invokestatic 166) (av := [Value.ref (b 0), Value.int (xs (gn (i4_258 + 1))), Value.int (xs (gn (i4_258 + 2))), Value.ref (b 116)]) hC Y ⟨hRc, hRs⟩ (fun hc9 hs9 ws h hS hw => K_Lw_segment l htr D tys z _ ws h hS t ht b X258 hw (xs (gn (i4_258 + 1))) (xs (gn (i4_258 + 2))) hc9 hs9 (gR.i x387, X387) hF387) (gx_invSH (As := [Value.ref (b 0), Value.int (xs (gn (i4_258 + 1))), Value.int (xs (gn (i4_258 + 2))), Value.ref (b 116)]) (rest := []) hx hb hown hts km_Lw_166 kS_Lw_segment kN_Lw kc_Lw_segment (by decide) (show (parseMethodDescriptor y_Lw_segment.desc).map (fun d => d.parameters.length) = some 4 by decide +kernel) rfl rfl d_Lw_law_1193) (gx_cwHA hts kc_Lw_segment kN_Lw ⟨Nat.le_of_ble_eq_true rfl, Nat.le_of_ble_eq_true rfl⟩) hb hml hz hK hY hAz hA hl.1 (lv_room (Nat.le_of_ble_eq_true rfl)) d_Lw_law_1193 (fun vz9 b H locs cells slots e9 hb9 hC Y => ?_) (fun xz9 Ez9 ce b H locs cells slots e9 hce hC Y => ?_)
      rotate_left
      · have e9 : (Sum.inr Ez9 : Option Value ⊕ String) = Sum.inl (some (Value.int x387)) := e9
        cases e9
      have e9 : (Sum.inl vz9 : Option Value ⊕ String) = Sum.inl (some (Value.int x387)) := e9
      cases e9
      replace hl : lv_has ls 7 [(4, Value.int i4_258), (0, Value.ref bq), (1, Value.ref (b 0)), (2, Value.ref (b 46)), (3, Value.ref (b 116))] := by rw [hb9 0 (gNm_s (by decide))]; rw [hb9 46 (gNm_s (by decide))]; rw [hb9 116 (gNm_s (by decide))]; exact hl
      refine W.eq (g2 := F0 m 1196 ls [Value.int x387]) (by rfl) ?_
      refine lv_istore (lv' := [(5, Value.int x387), (4, Value.int i4_258), (0, Value.ref bq), (1, Value.ref (b 0)), (2, Value.ref (b 46)), (3, Value.ref (b 116))]) hx hb d_Lw_law_1196 hl (by decide) rfl (fun ls hl => ?_)
      refine lv_aload_n hx hb d_Lw_law_1198 rfl (lv_at hl 4 rfl) ?_
      refine lv_aload_n hx hb d_Lw_law_1199 rfl (lv_at hl 2 rfl) ?_
      refine lv_iload hx hb d_Lw_law_1200 (lv_at hl 1 rfl) ?_
      refine lv_iconst (v := 1) hx hb d_Lw_law_1202 (by decide) ?_
      refine lv_iadd hx hb d_Lw_law_1203 ?_
      refine gy_sld hf hx hb hX hbl hbA Y d_Lw_law_1204 (fun hf => ?_)
      refine lv_aload_n hx hb d_Lw_law_1205 rfl (lv_at hl 2 rfl) ?_
      refine lv_iload hx hb d_Lw_law_1206 (lv_at hl 1 rfl) ?_
      refine lv_iconst (v := 2) hx hb d_Lw_law_1208 (by decide) ?_
      refine lv_iadd hx hb d_Lw_law_1209 ?_
      refine gy_sld hf hx hb hX hbl hbA Y d_Lw_law_1210 (fun hf => ?_)
      obtain ⟨x388, X388, hF388, hf⟩ := gCi_el hf
      refine gy_callI (rm := { frames := 3, cells := 0, slots := 0, locals := 60 }) (ig := .invokevirtual 168) (av := [Value.ref (b 46), Value.int (xs (gn (i4_258 + 1))), Value.int (xs (gn (i4_258 + 2)))]) Y (fun ws h hS hw => K_Mo_segment l htr D tys z _ ws h hS t ht b X387 hw (xs (gn (i4_258 + 1))) (xs (gn (i4_258 + 2))) (gR.i x388, X388) hF388) (gx_invV (As := [Value.int (xs (gn (i4_258 + 1))), Value.int (xs (gn (i4_258 + 2)))]) (rest := []) hx hb hown hts km_Lw_168 kI_Mo_segment kV_Mo_segment kc_Mo_segment (by decide) (show (parseMethodDescriptor y_Mo_segment.desc).map (fun d => d.parameters.length) = some 2 by decide +kernel) (gy_recv (ci := 8) hK Y rfl gF_46) rfl rfl d_Lw_law_1211) (gx_cw (z := 0) hts kc_Mo_segment kN_Mo rfl rfl ⟨Nat.le_of_ble_eq_true rfl, Nat.le_of_ble_eq_true rfl⟩) hb hml hz hK hY hAz hA hl.1 (lv_room (Nat.le_of_ble_eq_true rfl)) d_Lw_law_1211 ⟨hC.rc0 hRc, hC.rs0 hRs⟩ (fun H locs Y => ?_)
      refine lv_istore (lv' := [(6, Value.int x388), (5, Value.int x387), (4, Value.int i4_258), (0, Value.ref bq), (1, Value.ref (b 0)), (2, Value.ref (b 46)), (3, Value.ref (b 116))]) hx hb d_Lw_law_1214 hl (by decide) rfl (fun ls hl => ?_)
      refine lv_aload_n hx hb d_Lw_law_1216 rfl (lv_at hl 5 rfl) ?_
      obtain ⟨x389, X389, hF389, hf⟩ := gCi_el hf
      refine gy_callI (rm := { frames := 1, cells := 0, slots := 0, locals := 12 }) (ig := .invokevirtual 98) (av := [Value.ref (b 46)]) Y (fun ws h hS hw => K_Mo_thrown l htr D tys z _ ws h hS t ht b X388 hw (gR.i x389, X389) hF389) (gx_invV (As := []) (rest := []) hx hb hown hts km_Lw_98 kI_Mo_thrown kV_Mo_thrown kc_Mo_thrown (by decide) (show (parseMethodDescriptor y_Mo_thrown.desc).map (fun d => d.parameters.length) = some 0 by decide +kernel) (gy_recv (ci := 8) hK Y rfl gF_46) rfl rfl d_Lw_law_1217) (gx_cw (z := 0) hts kc_Mo_thrown kN_Mo rfl rfl ⟨Nat.le_of_ble_eq_true rfl, Nat.le_of_ble_eq_true rfl⟩) hb hml hz hK hY hAz hA hl.1 (lv_room (Nat.le_of_ble_eq_true rfl)) d_Lw_law_1217 ⟨hC.rc0 hRc, hC.rs0 hRs⟩ (fun H locs Y => ?_)
      refine lv_iload hx hb d_Lw_law_1220 (lv_at hl 1 rfl) ?_
      refine lv_icmp_eq (tgt := 1227) hx hb d_Lw_law_1222 (by decide) (fun c1222_390 => ?_) (fun c1222_390 => ?_)
      · replace hf := gp_t c1222_390 hf
        refine lv_iload hx hb d_Lw_law_1227 (lv_at hl 1 rfl) ?_
        refine lv_if_ne (tgt := 1244) hx hb d_Lw_law_1229 (by decide) (fun c1229_391 => ?_) (fun c1229_391 => ?_)
        · replace hf := gp_f c1229_391 hf
          exact J1244 (X389, i4_258) _ _ _ _ _ _ hf (lv_sub hl [2, 3, 4, 5, 6] rfl) (hC.mv Y) Y.rb
        · replace hf := gp_t c1229_391 hf
          refine lv_aload_n hx hb d_Lw_law_1232 rfl (lv_at hl 6 rfl) ?_
          refine lv_iconst (v := 0) hx hb d_Lw_law_1233 (by decide) ?_
          refine gy_lald hx hb hK Y ht6 d_Lw_law_1234 ?_
          refine lv_iload hx hb d_Lw_law_1235 (lv_at hl 0 rfl) ?_
          refine lv_i2l (v := x388.toInt64) hx hb d_Lw_law_1237 rfl ?_
          refine gx_leq (tgt := 1244) hx hb d_Lw_law_1238 d_Lw_law_1239 (by decide) (fun c1238_392 => ?_) (fun c1238_392 => ?_)
          · replace hf := gp_t c1238_392 hf
            exact J1244 (X389, i4_258) _ _ _ _ _ _ hf (lv_sub hl [2, 3, 4, 5, 6] rfl) (hC.mv Y) Y.rb
          · replace hf := gp_f c1238_392 hf
            refine lv_iconst (v := 0) hx hb d_Lw_law_1242 (by decide) ?_
            replace hf := gU hf ho258
            exact (law_no hf).elim
      · replace hf := gp_f c1222_390 hf
        refine lv_iconst (v := 0) hx hb d_Lw_law_1225 (by decide) ?_
        replace hf := gU hf ho258
        exact (law_no hf).elim
    replace hf := gp_f s285_20 hf
    by_cases s285_21 : ((xs (gn i4_258)) &&& 31) = (21 : Int32)
    · replace hf := gp_t s285_21 hf
      refine gx_topi s285_21 ?_
      refine lv_tableIn (off := 1208) (tgt := 1247) hx hb d_Lw_law_39 (by decide) (by decide) rfl (by decide) ?_
      refine lv_aload_n hx hb d_Lw_law_1247 rfl (lv_at hl 2 rfl) ?_
      refine lv_aload_n hx hb d_Lw_law_1248 rfl (lv_at hl 1 rfl) ?_
      refine lv_iload hx hb d_Lw_law_1249 (lv_at hl 0 rfl) ?_
      refine lv_iconst (v := 1) hx hb d_Lw_law_1251 (by decide) ?_
      refine lv_iadd hx hb d_Lw_law_1252 ?_
      refine gy_sld hf hx hb hX hbl hbA Y d_Lw_law_1253 (fun hf => ?_)
      obtain ⟨x393, X393, hF393, hf⟩ := gCi_el hf
      refine gy_callI (rm := { frames := 3, cells := 0, slots := 0, locals := 58 }) (ig := .invokevirtual 169) (av := [Value.ref (b 0), Value.int (xs (gn (i4_258 + 1)))]) Y (fun ws h hS hw => K_Le_count l htr D tys z _ ws h hS t ht b X258 hw (xs (gn (i4_258 + 1))) (gR.i x393, X393) hF393) (gx_invV (As := [Value.int (xs (gn (i4_258 + 1)))]) (rest := []) hx hb hown hts km_Lw_169 kI_Le_count kV_Le_count kc_Le_count (by decide) (show (parseMethodDescriptor y_Le_count.desc).map (fun d => d.parameters.length) = some 1 by decide +kernel) (gy_recv (ci := 0) hK Y rfl gF_0) rfl rfl d_Lw_law_1254) (gx_cw (z := 0) hts kc_Le_count kN_Le rfl rfl ⟨Nat.le_of_ble_eq_true rfl, Nat.le_of_ble_eq_true rfl⟩) hb hml hz hK hY hAz hA hl.1 (lv_room (Nat.le_of_ble_eq_true rfl)) d_Lw_law_1254 ⟨hC.rc0 hRc, hC.rs0 hRs⟩ (fun H locs Y => ?_)
      refine lv_aload_n hx hb d_Lw_law_1257 rfl (lv_at hl 3 rfl) ?_
      refine lv_aload_n hx hb d_Lw_law_1258 rfl (lv_at hl 1 rfl) ?_
      refine lv_iload hx hb d_Lw_law_1259 (lv_at hl 0 rfl) ?_
      refine lv_iconst (v := 1) hx hb d_Lw_law_1261 (by decide) ?_
      refine lv_iadd hx hb d_Lw_law_1262 ?_
      refine gy_sld hf hx hb hX hbl hbA Y d_Lw_law_1263 (fun hf => ?_)
      obtain ⟨x394, X394, hF394, hf⟩ := gCi_el hf
      refine gy_callI (rm := { frames := 4, cells := 0, slots := 0, locals := 75 }) (ig := .invokevirtual 172) (av := [Value.ref (b 46), Value.int (xs (gn (i4_258 + 1)))]) Y (fun ws h hS hw => K_Mo_count l htr D tys z _ ws h hS t ht b X393 hw (xs (gn (i4_258 + 1))) (gR.i x394, X394) hF394) (gx_invV (As := [Value.int (xs (gn (i4_258 + 1)))]) (rest := [Value.int x393]) hx hb hown hts km_Lw_172 kI_Mo_count kV_Mo_count kc_Mo_count (by decide) (show (parseMethodDescriptor y_Mo_count.desc).map (fun d => d.parameters.length) = some 1 by decide +kernel) (gy_recv (ci := 8) hK Y rfl gF_46) rfl rfl d_Lw_law_1264) (gx_cw (z := 0) hts kc_Mo_count kN_Mo rfl rfl ⟨Nat.le_of_ble_eq_true rfl, Nat.le_of_ble_eq_true rfl⟩) hb hml hz hK hY hAz hA hl.1 (lv_room (Nat.le_of_ble_eq_true rfl)) d_Lw_law_1264 ⟨hC.rc0 hRc, hC.rs0 hRs⟩ (fun H locs Y => ?_)
      refine lv_icmp_eq (tgt := 1272) hx hb d_Lw_law_1267 (by decide) (fun c1267_395 => ?_) (fun c1267_395 => ?_)
      · replace hf := gp_t c1267_395 hf
        exact J1272 (X394, i4_258) _ _ _ _ _ _ hf (lv_sub hl [0, 1, 2, 3, 4] rfl) (hC.mv Y) Y.rb
      · replace hf := gp_f c1267_395 hf
        refine lv_iconst (v := 0) hx hb d_Lw_law_1270 (by decide) ?_
        replace hf := gU hf ho258
        exact (law_no hf).elim
    replace hf := gp_f s285_21 hf
    refine lv_tableOut (tgt := 1272) hx hb d_Lw_law_39 (by have e0 := lv_neT s285_0 (a := 0) (by decide); have e1 := lv_neT s285_1 (a := 1) (by decide); have e2 := lv_neT s285_2 (a := 2) (by decide); have e3 := lv_neT s285_3 (a := 3) (by decide); have e4 := lv_neT s285_4 (a := 4) (by decide); have e5 := lv_neT s285_5 (a := 5) (by decide); have e6 := lv_neT s285_6 (a := 6) (by decide); have e7 := lv_neT s285_7 (a := 7) (by decide); have e8 := lv_neT s285_8 (a := 8) (by decide); have e9 := lv_neT s285_9 (a := 9) (by decide); have e10 := lv_neT s285_10 (a := 10) (by decide); have e11 := lv_neT s285_11 (a := 11) (by decide); have e12 := lv_neT s285_12 (a := 12) (by decide); have e13 := lv_neT s285_13 (a := 13) (by decide); have e14 := lv_neT s285_14 (a := 14) (by decide); have e15 := lv_neT s285_15 (a := 15) (by decide); have e16 := lv_neT s285_16 (a := 16) (by decide); have e17 := lv_neT s285_17 (a := 17) (by decide); have e18 := lv_neT s285_18 (a := 18) (by decide); have e19 := lv_neT s285_19 (a := 19) (by decide); have e20 := lv_neT s285_20 (a := 20) (by decide); have e21 := lv_neT s285_21 (a := 21) (by decide); omega) (by decide) ?_
    exact J1272 (X258, i4_258) _ _ _ _ _ _ hf (lv_sub hl [0, 1, 2, 3, 4] rfl) (hC.mv Y) Y.rb
