/-! THE THIRD LAYER: the state of both sides as numbers. A name's ints (fields, cells of an array of ints or booleans) are X.I n, its references X.G n (names, not addresses); b gives each name its address. gF says what lies at a name; gw: it lies there. -/
def gX : Type := (Nat → Nat → Int32) × (Nat → Nat → Option Nat) × (Nat → Nat) × Nat × Nat × Nat
def gX.I (X : gX) : Nat → Nat → Int32 := X.1
def gX.G (X : gX) : Nat → Nat → Option Nat := X.2.1
def gX.L (X : gX) : Nat → Nat := X.2.2.1
def gX.N (X : gX) : Nat := X.2.2.2.1
def gX.cc (X : gX) : Nat := X.2.2.2.2.1
def gX.ss (X : gX) : Nat := X.2.2.2.2.2
def gX.of (I : Nat → Nat → Int32) (G : Nat → Nat → Option Nat) (L : Nat → Nat) (N cc ss : Nat) : gX := (I, G, L, N, cc, ss)
abbrev gn (i : Int32) : Nat := i.toNatClampNeg
def gIn (i : Int32) (n : Nat) : Bool := !(decide (i < 0) || decide (n ≤ i.toNatClampNeg))
theorem gIn.vp {i : Int32} {n : Nat} (h : gIn i n = true) : vp_in i n := by
  intro q
  unfold gIn at h
  rcases q with q | q <;> simp [q] at h
def gX.w (X : gX) (n j : Nat) (v : Int32) : gX := gX.of (fun a => if a = n then upd (X.I n) j v else X.I a) X.G X.L X.N X.cc X.ss
def gX.g (X : gX) (n j : Nat) (v : Option Nat) : gX := gX.of X.I (fun a => if a = n then va_up (X.G n) j v else X.G a) X.L X.N X.cc X.ss
theorem gX.w_self {X : gX} {n j : Nat} {v : Int32} : (X.w n j v).I n = upd (X.I n) j v := if_pos rfl
theorem gX.w_ne {X : gX} {n j a : Nat} {v : Int32} (h : a ≠ n) : (X.w n j v).I a = X.I a := if_neg h
theorem gX.g_self {X : gX} {n j : Nat} {v : Option Nat} : (X.g n j v).G n = va_up (X.G n) j v := if_pos rfl
theorem gX.g_ne {X : gX} {n j a : Nat} {v : Option Nat} (h : a ≠ n) : (X.g n j v).G a = X.G a := if_neg h
/-- the four of a row of names -/
def gRd (n d i : Nat) : Option Nat := if i < 4 then some (n + d * i) else none
def gFile (N n : Nat) : Bool := decide (1000 ≤ n) && decide (n < 1000 + N)
theorem gFile.lo {N n : Nat} (h : gFile N n = true) : 1000 ≤ n := by
  unfold gFile at h
  simp only [Bool.and_eq_true, decide_eq_true_eq] at h
  exact h.1
theorem gFile.hi {N n : Nat} (h : gFile N n = true) : n < 1000 + N := by
  unfold gFile at h
  simp only [Bool.and_eq_true, decide_eq_true_eq] at h
  exact h.2
theorem gFile.of {N n : Nat} (h1 : 1000 ≤ n) (h2 : n < 1000 + N) : gFile N n = true := by
  unfold gFile
  simp only [Bool.and_eq_true, decide_eq_true_eq]
  exact ⟨h1, h2⟩
def gVer (n : Nat) : Bool := decide (n ∈ [54, 62, 70, 84, 92, 100, 108])
def gVie (n : Nat) : Bool := decide (n ∈ [8, 12, 16, 27, 32, 37, 42])
def gMer (n : Nat) : Bool := decide (n ∈ [21, 22, 23, 24])
def gRea (n : Nat) : Bool := decide (n ∈ [26, 31, 36, 41])
def gRow (n : Nat) : Bool := decide (n ∈ [122, 123, 124, 125])
def gLis (n : Nat) : Bool := decide (n ∈ [6, 7])
def gF0 (D : va_G) (t : Nat → ClassId) (b : Nat → Nat) (n : Nat) (r : Nat → Int32) (g : Nat → Option Nat) (L : Nat → Nat) : Option va_E := if n = 0 then some (Sum.inr (0, [Value.ref (b 1), Value.ref (b 5), Value.ref (b 8), Value.ref (b 20), Value.ref (b 25), va_rf ((g 5).map b), va_rf ((g 6).map b), Value.int (r 7), Value.int (r 8), Value.int (r 9), Value.int (r 10), Value.int (r 11), Value.int (r 12), Value.int (r 13), Value.int (r 14), Value.int (r 15), Value.int (r 16), Value.int (r 17)])) else if n = 1 then some (Sum.inr (1, [Value.ref (b 2), Value.ref (b 3), Value.ref (b 4), Value.int (r 3)])) else if n = 2 then some (Sum.inl (t 0, 4096, Sum.inl r)) else if n = 3 then some (Sum.inl (t 0, 4096, Sum.inl r)) else if n = 4 then some (Sum.inl (t 0, 4096, Sum.inl r)) else if n = 5 then some (Sum.inr (2, [Value.ref (b 6), Value.ref (b 7), Value.int (r 2), Value.int (r 3)])) else if n = 6 then some (Sum.inr (3, [Value.ref (if L 130 = 0 then gx_av D else b 130), Value.int (r 1), Value.int (r 2)])) else if n = 7 then some (Sum.inr (3, [Value.ref (if L 131 = 0 then gx_av D else b 131), Value.int (r 1), Value.int (r 2)])) else if n = 8 then some (Sum.inr (4, [Value.ref (b 9), Value.ref (b 10), Value.ref (b 11), va_rf ((g 3).map b), Value.int (r 4), Value.int (r 5)])) else if n = 9 then some (Sum.inl (t 2, 4096, Sum.inr (Sum.inr (Sum.inr (Sum.inr (fun i => (g i).map b)))))) else if n = 10 then some (Sum.inl (t 2, 4096, Sum.inr (Sum.inr (Sum.inr (Sum.inr (fun i => (g i).map b)))))) else if n = 11 then some (Sum.inl (t 1, 4096, Sum.inl r)) else none
def gF1 (D : va_G) (t : Nat → ClassId) (b : Nat → Nat) (n : Nat) (r : Nat → Int32) (g : Nat → Option Nat) (L : Nat → Nat) : Option va_E := if n = 12 then some (Sum.inr (4, [Value.ref (b 13), Value.ref (b 14), Value.ref (b 15), va_rf ((g 3).map b), Value.int (r 4), Value.int (r 5)])) else if n = 13 then some (Sum.inl (t 2, 4096, Sum.inr (Sum.inr (Sum.inr (Sum.inr (fun i => (g i).map b)))))) else if n = 14 then some (Sum.inl (t 2, 4096, Sum.inr (Sum.inr (Sum.inr (Sum.inr (fun i => (g i).map b)))))) else if n = 15 then some (Sum.inl (t 1, 4096, Sum.inl r)) else if n = 16 then some (Sum.inr (4, [Value.ref (b 17), Value.ref (b 18), Value.ref (b 19), va_rf ((g 3).map b), Value.int (r 4), Value.int (r 5)])) else if n = 17 then some (Sum.inl (t 2, 4096, Sum.inr (Sum.inr (Sum.inr (Sum.inr (fun i => (g i).map b)))))) else if n = 18 then some (Sum.inl (t 2, 4096, Sum.inr (Sum.inr (Sum.inr (Sum.inr (fun i => (g i).map b)))))) else if n = 19 then some (Sum.inl (t 1, 4096, Sum.inl r)) else if n = 20 then some (Sum.inl (t 3, 4, Sum.inr (Sum.inr (Sum.inr (Sum.inr (fun i => (g i).map b)))))) else if n = 21 then some (Sum.inr (5, [Value.int (r 0), Value.int (r 1), Value.int (r 2), va_rf ((g 3).map b)])) else if n = 22 then some (Sum.inr (5, [Value.int (r 0), Value.int (r 1), Value.int (r 2), va_rf ((g 3).map b)])) else if n = 23 then some (Sum.inr (5, [Value.int (r 0), Value.int (r 1), Value.int (r 2), va_rf ((g 3).map b)])) else none
def gF2 (D : va_G) (t : Nat → ClassId) (b : Nat → Nat) (n : Nat) (r : Nat → Int32) (g : Nat → Option Nat) (L : Nat → Nat) : Option va_E := if n = 24 then some (Sum.inr (5, [Value.int (r 0), Value.int (r 1), Value.int (r 2), va_rf ((g 3).map b)])) else if n = 25 then some (Sum.inl (t 4, 4, Sum.inr (Sum.inr (Sum.inr (Sum.inr (fun i => (gRd 26 5 i).map b)))))) else if n = 26 then some (Sum.inr (6, [Value.ref (b 27), Value.int (r 1), Value.int (r 2)])) else if n = 27 then some (Sum.inr (4, [Value.ref (b 28), Value.ref (b 29), Value.ref (b 30), va_rf ((g 3).map b), Value.int (r 4), Value.int (r 5)])) else if n = 28 then some (Sum.inl (t 2, 4096, Sum.inr (Sum.inr (Sum.inr (Sum.inr (fun i => (g i).map b)))))) else if n = 29 then some (Sum.inl (t 2, 4096, Sum.inr (Sum.inr (Sum.inr (Sum.inr (fun i => (g i).map b)))))) else if n = 30 then some (Sum.inl (t 1, 4096, Sum.inl r)) else if n = 31 then some (Sum.inr (6, [Value.ref (b 32), Value.int (r 1), Value.int (r 2)])) else if n = 32 then some (Sum.inr (4, [Value.ref (b 33), Value.ref (b 34), Value.ref (b 35), va_rf ((g 3).map b), Value.int (r 4), Value.int (r 5)])) else if n = 33 then some (Sum.inl (t 2, 4096, Sum.inr (Sum.inr (Sum.inr (Sum.inr (fun i => (g i).map b)))))) else if n = 34 then some (Sum.inl (t 2, 4096, Sum.inr (Sum.inr (Sum.inr (Sum.inr (fun i => (g i).map b)))))) else if n = 35 then some (Sum.inl (t 1, 4096, Sum.inl r)) else none
def gF3 (D : va_G) (t : Nat → ClassId) (b : Nat → Nat) (n : Nat) (r : Nat → Int32) (g : Nat → Option Nat) (L : Nat → Nat) : Option va_E := if n = 36 then some (Sum.inr (6, [Value.ref (b 37), Value.int (r 1), Value.int (r 2)])) else if n = 37 then some (Sum.inr (4, [Value.ref (b 38), Value.ref (b 39), Value.ref (b 40), va_rf ((g 3).map b), Value.int (r 4), Value.int (r 5)])) else if n = 38 then some (Sum.inl (t 2, 4096, Sum.inr (Sum.inr (Sum.inr (Sum.inr (fun i => (g i).map b)))))) else if n = 39 then some (Sum.inl (t 2, 4096, Sum.inr (Sum.inr (Sum.inr (Sum.inr (fun i => (g i).map b)))))) else if n = 40 then some (Sum.inl (t 1, 4096, Sum.inl r)) else if n = 41 then some (Sum.inr (6, [Value.ref (b 42), Value.int (r 1), Value.int (r 2)])) else if n = 42 then some (Sum.inr (4, [Value.ref (b 43), Value.ref (b 44), Value.ref (b 45), va_rf ((g 3).map b), Value.int (r 4), Value.int (r 5)])) else if n = 43 then some (Sum.inl (t 2, 4096, Sum.inr (Sum.inr (Sum.inr (Sum.inr (fun i => (g i).map b)))))) else if n = 44 then some (Sum.inl (t 2, 4096, Sum.inr (Sum.inr (Sum.inr (Sum.inr (fun i => (g i).map b)))))) else if n = 45 then some (Sum.inl (t 1, 4096, Sum.inl r)) else if n = 46 then some (Sum.inr (8, [Value.int (r 0), Value.int (r 1), Value.ref (b 47), Value.ref (b 48), Value.ref (b 49), Value.int (r 5), Value.ref (b 50), Value.ref (b 51), Value.ref (b 52), Value.ref (b 53), Value.int (r 10), Value.int (r 11), Value.int (r 12), Value.int (r 13), Value.int (r 14), Value.ref (b 54), Value.ref (b 62), Value.ref (b 70), Value.int (r 18), Value.int (r 19), Value.int (r 20), Value.ref (b 78), Value.ref (b 79), Value.int (r 23), Value.int (r 24), Value.int (r 25), Value.ref (b 121), Value.ref (b 80), Value.ref (b 81), Value.ref (b 82), Value.int (r 30), Value.ref (b 83), Value.int (r 32), Value.int (r 33), Value.int (r 34)])) else if n = 47 then some (Sum.inl (t 0, 4096, Sum.inl r)) else none
def gF4 (D : va_G) (t : Nat → ClassId) (b : Nat → Nat) (n : Nat) (r : Nat → Int32) (g : Nat → Option Nat) (L : Nat → Nat) : Option va_E := if n = 48 then some (Sum.inl (t 0, 4096, Sum.inl r)) else if n = 49 then some (Sum.inl (t 0, 4096, Sum.inl r)) else if n = 50 then some (Sum.inl (t 0, 60000, Sum.inl r)) else if n = 51 then some (Sum.inl (t 1, 60000, Sum.inl r)) else if n = 52 then some (Sum.inl (t 1, 60000, Sum.inl r)) else if n = 53 then some (Sum.inl (t 1, 60000, Sum.inl r)) else if n = 54 then some (Sum.inr (9, [Value.ref (b 55), Value.ref (b 56), Value.ref (b 57), Value.ref (b 58), Value.ref (b 59), Value.ref (b 60), Value.ref (b 61), Value.int (r 7), Value.int (r 8), Value.int (r 9), Value.int (r 10)])) else if n = 55 then some (Sum.inl (t 0, 4097, Sum.inl r)) else if n = 56 then some (Sum.inl (t 0, 4097, Sum.inl r)) else if n = 57 then some (Sum.inl (t 0, 4098, Sum.inl r)) else if n = 58 then some (Sum.inl (t 0, 4097, Sum.inl r)) else if n = 59 then some (Sum.inl (t 0, 4096, Sum.inl r)) else none
def gF5 (D : va_G) (t : Nat → ClassId) (b : Nat → Nat) (n : Nat) (r : Nat → Int32) (g : Nat → Option Nat) (L : Nat → Nat) : Option va_E := if n = 60 then some (Sum.inl (t 1, 4096, Sum.inl r)) else if n = 61 then some (Sum.inl (t 1, 4096, Sum.inl r)) else if n = 62 then some (Sum.inr (9, [Value.ref (b 63), Value.ref (b 64), Value.ref (b 65), Value.ref (b 66), Value.ref (b 67), Value.ref (b 68), Value.ref (b 69), Value.int (r 7), Value.int (r 8), Value.int (r 9), Value.int (r 10)])) else if n = 63 then some (Sum.inl (t 0, 4097, Sum.inl r)) else if n = 64 then some (Sum.inl (t 0, 4097, Sum.inl r)) else if n = 65 then some (Sum.inl (t 0, 4098, Sum.inl r)) else if n = 66 then some (Sum.inl (t 0, 4097, Sum.inl r)) else if n = 67 then some (Sum.inl (t 0, 4096, Sum.inl r)) else if n = 68 then some (Sum.inl (t 1, 4096, Sum.inl r)) else if n = 69 then some (Sum.inl (t 1, 4096, Sum.inl r)) else if n = 70 then some (Sum.inr (9, [Value.ref (b 71), Value.ref (b 72), Value.ref (b 73), Value.ref (b 74), Value.ref (b 75), Value.ref (b 76), Value.ref (b 77), Value.int (r 7), Value.int (r 8), Value.int (r 9), Value.int (r 10)])) else if n = 71 then some (Sum.inl (t 0, 4097, Sum.inl r)) else none
def gF6 (D : va_G) (t : Nat → ClassId) (b : Nat → Nat) (n : Nat) (r : Nat → Int32) (g : Nat → Option Nat) (L : Nat → Nat) : Option va_E := if n = 72 then some (Sum.inl (t 0, 4097, Sum.inl r)) else if n = 73 then some (Sum.inl (t 0, 4098, Sum.inl r)) else if n = 74 then some (Sum.inl (t 0, 4097, Sum.inl r)) else if n = 75 then some (Sum.inl (t 0, 4096, Sum.inl r)) else if n = 76 then some (Sum.inl (t 1, 4096, Sum.inl r)) else if n = 77 then some (Sum.inl (t 1, 4096, Sum.inl r)) else if n = 78 then some (Sum.inl (t 0, 4096, Sum.inl r)) else if n = 79 then some (Sum.inl (t 1, 4096, Sum.inl r)) else if n = 80 then some (Sum.inl (t 0, 4, Sum.inl r)) else if n = 81 then some (Sum.inl (t 0, 4, Sum.inl r)) else if n = 82 then some (Sum.inl (t 0, 4, Sum.inl r)) else if n = 83 then some (Sum.inl (t 5, 4, Sum.inr (Sum.inr (Sum.inr (Sum.inr (fun i => (gRd 84 8 i).map b)))))) else none
def gF7 (D : va_G) (t : Nat → ClassId) (b : Nat → Nat) (n : Nat) (r : Nat → Int32) (g : Nat → Option Nat) (L : Nat → Nat) : Option va_E := if n = 84 then some (Sum.inr (9, [Value.ref (b 85), Value.ref (b 86), Value.ref (b 87), Value.ref (b 88), Value.ref (b 89), Value.ref (b 90), Value.ref (b 91), Value.int (r 7), Value.int (r 8), Value.int (r 9), Value.int (r 10)])) else if n = 85 then some (Sum.inl (t 0, 4097, Sum.inl r)) else if n = 86 then some (Sum.inl (t 0, 4097, Sum.inl r)) else if n = 87 then some (Sum.inl (t 0, 4098, Sum.inl r)) else if n = 88 then some (Sum.inl (t 0, 4097, Sum.inl r)) else if n = 89 then some (Sum.inl (t 0, 4096, Sum.inl r)) else if n = 90 then some (Sum.inl (t 1, 4096, Sum.inl r)) else if n = 91 then some (Sum.inl (t 1, 4096, Sum.inl r)) else if n = 92 then some (Sum.inr (9, [Value.ref (b 93), Value.ref (b 94), Value.ref (b 95), Value.ref (b 96), Value.ref (b 97), Value.ref (b 98), Value.ref (b 99), Value.int (r 7), Value.int (r 8), Value.int (r 9), Value.int (r 10)])) else if n = 93 then some (Sum.inl (t 0, 4097, Sum.inl r)) else if n = 94 then some (Sum.inl (t 0, 4097, Sum.inl r)) else if n = 95 then some (Sum.inl (t 0, 4098, Sum.inl r)) else none
def gF8 (D : va_G) (t : Nat → ClassId) (b : Nat → Nat) (n : Nat) (r : Nat → Int32) (g : Nat → Option Nat) (L : Nat → Nat) : Option va_E := if n = 96 then some (Sum.inl (t 0, 4097, Sum.inl r)) else if n = 97 then some (Sum.inl (t 0, 4096, Sum.inl r)) else if n = 98 then some (Sum.inl (t 1, 4096, Sum.inl r)) else if n = 99 then some (Sum.inl (t 1, 4096, Sum.inl r)) else if n = 100 then some (Sum.inr (9, [Value.ref (b 101), Value.ref (b 102), Value.ref (b 103), Value.ref (b 104), Value.ref (b 105), Value.ref (b 106), Value.ref (b 107), Value.int (r 7), Value.int (r 8), Value.int (r 9), Value.int (r 10)])) else if n = 101 then some (Sum.inl (t 0, 4097, Sum.inl r)) else if n = 102 then some (Sum.inl (t 0, 4097, Sum.inl r)) else if n = 103 then some (Sum.inl (t 0, 4098, Sum.inl r)) else if n = 104 then some (Sum.inl (t 0, 4097, Sum.inl r)) else if n = 105 then some (Sum.inl (t 0, 4096, Sum.inl r)) else if n = 106 then some (Sum.inl (t 1, 4096, Sum.inl r)) else if n = 107 then some (Sum.inl (t 1, 4096, Sum.inl r)) else none
def gF9 (D : va_G) (t : Nat → ClassId) (b : Nat → Nat) (n : Nat) (r : Nat → Int32) (g : Nat → Option Nat) (L : Nat → Nat) : Option va_E := if n = 108 then some (Sum.inr (9, [Value.ref (b 109), Value.ref (b 110), Value.ref (b 111), Value.ref (b 112), Value.ref (b 113), Value.ref (b 114), Value.ref (b 115), Value.int (r 7), Value.int (r 8), Value.int (r 9), Value.int (r 10)])) else if n = 109 then some (Sum.inl (t 0, 4097, Sum.inl r)) else if n = 110 then some (Sum.inl (t 0, 4097, Sum.inl r)) else if n = 111 then some (Sum.inl (t 0, 4098, Sum.inl r)) else if n = 112 then some (Sum.inl (t 0, 4097, Sum.inl r)) else if n = 113 then some (Sum.inl (t 0, 4096, Sum.inl r)) else if n = 114 then some (Sum.inl (t 1, 4096, Sum.inl r)) else if n = 115 then some (Sum.inl (t 1, 4096, Sum.inl r)) else if n = 116 then some (Sum.inl (t 6, 1, Sum.inr (Sum.inl (fun i => if i = 0 then (r 0).toInt64 else 0)))) else if n = 121 then some (Sum.inl (t 8, 4, Sum.inr (Sum.inr (Sum.inr (Sum.inr (fun i => (g i).map b)))))) else if n = 122 then some (Sum.inl (t 0, 4096, Sum.inl r)) else if n = 123 then some (Sum.inl (t 0, 4096, Sum.inl r)) else none
def gF10 (D : va_G) (t : Nat → ClassId) (b : Nat → Nat) (n : Nat) (r : Nat → Int32) (g : Nat → Option Nat) (L : Nat → Nat) : Option va_E := if n = 124 then some (Sum.inl (t 0, 4096, Sum.inl r)) else if n = 125 then some (Sum.inl (t 0, 4096, Sum.inl r)) else none
def gF (D : va_G) (t : Nat → ClassId) (b : Nat → Nat) (n : Nat) (r : Nat → Int32) (g : Nat → Option Nat) (L : Nat → Nat) (N : Nat) : Option va_E := if n ≤ 11 then gF0 D t b n r g L else if n ≤ 23 then gF1 D t b n r g L else if n ≤ 35 then gF2 D t b n r g L else if n ≤ 47 then gF3 D t b n r g L else if n ≤ 59 then gF4 D t b n r g L else if n ≤ 71 then gF5 D t b n r g L else if n ≤ 83 then gF6 D t b n r g L else if n ≤ 95 then gF7 D t b n r g L else if n ≤ 107 then gF8 D t b n r g L else if n ≤ 123 then gF9 D t b n r g L else if n ≤ 125 then gF10 D t b n r g L else if n = 129 ∨ n = 130 ∨ n = 131 then (if L n = 0 then none else some (Sum.inl (t 7, L n, Sum.inr (Sum.inr (Sum.inr (Sum.inr (fun i => (g i).map b))))))) else if gFile N n then some (Sum.inr (7, [Value.int (r 0), Value.int (r 1), Value.int (r 2), Value.int (r 3), Value.int (r 4), Value.int (r 5), Value.int (r 6)])) else none
theorem gF_0 {D : va_G} {t : Nat → ClassId} {b : Nat → Nat} {r : Nat → Int32} {g : Nat → Option Nat} {L : Nat → Nat} {N : Nat} : gF D t b 0 r g L N = some (Sum.inr (0, [Value.ref (b 1), Value.ref (b 5), Value.ref (b 8), Value.ref (b 20), Value.ref (b 25), va_rf ((g 5).map b), va_rf ((g 6).map b), Value.int (r 7), Value.int (r 8), Value.int (r 9), Value.int (r 10), Value.int (r 11), Value.int (r 12), Value.int (r 13), Value.int (r 14), Value.int (r 15), Value.int (r 16), Value.int (r 17)])) := rfl
theorem gF_1 {D : va_G} {t : Nat → ClassId} {b : Nat → Nat} {r : Nat → Int32} {g : Nat → Option Nat} {L : Nat → Nat} {N : Nat} : gF D t b 1 r g L N = some (Sum.inr (1, [Value.ref (b 2), Value.ref (b 3), Value.ref (b 4), Value.int (r 3)])) := rfl
theorem gF_2 {D : va_G} {t : Nat → ClassId} {b : Nat → Nat} {r : Nat → Int32} {g : Nat → Option Nat} {L : Nat → Nat} {N : Nat} : gF D t b 2 r g L N = some (Sum.inl (t 0, 4096, Sum.inl r)) := rfl
theorem gF_3 {D : va_G} {t : Nat → ClassId} {b : Nat → Nat} {r : Nat → Int32} {g : Nat → Option Nat} {L : Nat → Nat} {N : Nat} : gF D t b 3 r g L N = some (Sum.inl (t 0, 4096, Sum.inl r)) := rfl
theorem gF_4 {D : va_G} {t : Nat → ClassId} {b : Nat → Nat} {r : Nat → Int32} {g : Nat → Option Nat} {L : Nat → Nat} {N : Nat} : gF D t b 4 r g L N = some (Sum.inl (t 0, 4096, Sum.inl r)) := rfl
theorem gF_5 {D : va_G} {t : Nat → ClassId} {b : Nat → Nat} {r : Nat → Int32} {g : Nat → Option Nat} {L : Nat → Nat} {N : Nat} : gF D t b 5 r g L N = some (Sum.inr (2, [Value.ref (b 6), Value.ref (b 7), Value.int (r 2), Value.int (r 3)])) := rfl
theorem gF_6 {D : va_G} {t : Nat → ClassId} {b : Nat → Nat} {r : Nat → Int32} {g : Nat → Option Nat} {L : Nat → Nat} {N : Nat} : gF D t b 6 r g L N = some (Sum.inr (3, [Value.ref (if L 130 = 0 then gx_av D else b 130), Value.int (r 1), Value.int (r 2)])) := rfl
theorem gF_7 {D : va_G} {t : Nat → ClassId} {b : Nat → Nat} {r : Nat → Int32} {g : Nat → Option Nat} {L : Nat → Nat} {N : Nat} : gF D t b 7 r g L N = some (Sum.inr (3, [Value.ref (if L 131 = 0 then gx_av D else b 131), Value.int (r 1), Value.int (r 2)])) := rfl
theorem gF_8 {D : va_G} {t : Nat → ClassId} {b : Nat → Nat} {r : Nat → Int32} {g : Nat → Option Nat} {L : Nat → Nat} {N : Nat} : gF D t b 8 r g L N = some (Sum.inr (4, [Value.ref (b 9), Value.ref (b 10), Value.ref (b 11), va_rf ((g 3).map b), Value.int (r 4), Value.int (r 5)])) := rfl
theorem gF_9 {D : va_G} {t : Nat → ClassId} {b : Nat → Nat} {r : Nat → Int32} {g : Nat → Option Nat} {L : Nat → Nat} {N : Nat} : gF D t b 9 r g L N = some (Sum.inl (t 2, 4096, Sum.inr (Sum.inr (Sum.inr (Sum.inr (fun i => (g i).map b)))))) := rfl
theorem gF_10 {D : va_G} {t : Nat → ClassId} {b : Nat → Nat} {r : Nat → Int32} {g : Nat → Option Nat} {L : Nat → Nat} {N : Nat} : gF D t b 10 r g L N = some (Sum.inl (t 2, 4096, Sum.inr (Sum.inr (Sum.inr (Sum.inr (fun i => (g i).map b)))))) := rfl
theorem gF_11 {D : va_G} {t : Nat → ClassId} {b : Nat → Nat} {r : Nat → Int32} {g : Nat → Option Nat} {L : Nat → Nat} {N : Nat} : gF D t b 11 r g L N = some (Sum.inl (t 1, 4096, Sum.inl r)) := rfl
theorem gF_12 {D : va_G} {t : Nat → ClassId} {b : Nat → Nat} {r : Nat → Int32} {g : Nat → Option Nat} {L : Nat → Nat} {N : Nat} : gF D t b 12 r g L N = some (Sum.inr (4, [Value.ref (b 13), Value.ref (b 14), Value.ref (b 15), va_rf ((g 3).map b), Value.int (r 4), Value.int (r 5)])) := rfl
theorem gF_13 {D : va_G} {t : Nat → ClassId} {b : Nat → Nat} {r : Nat → Int32} {g : Nat → Option Nat} {L : Nat → Nat} {N : Nat} : gF D t b 13 r g L N = some (Sum.inl (t 2, 4096, Sum.inr (Sum.inr (Sum.inr (Sum.inr (fun i => (g i).map b)))))) := rfl
theorem gF_14 {D : va_G} {t : Nat → ClassId} {b : Nat → Nat} {r : Nat → Int32} {g : Nat → Option Nat} {L : Nat → Nat} {N : Nat} : gF D t b 14 r g L N = some (Sum.inl (t 2, 4096, Sum.inr (Sum.inr (Sum.inr (Sum.inr (fun i => (g i).map b)))))) := rfl
theorem gF_15 {D : va_G} {t : Nat → ClassId} {b : Nat → Nat} {r : Nat → Int32} {g : Nat → Option Nat} {L : Nat → Nat} {N : Nat} : gF D t b 15 r g L N = some (Sum.inl (t 1, 4096, Sum.inl r)) := rfl
theorem gF_16 {D : va_G} {t : Nat → ClassId} {b : Nat → Nat} {r : Nat → Int32} {g : Nat → Option Nat} {L : Nat → Nat} {N : Nat} : gF D t b 16 r g L N = some (Sum.inr (4, [Value.ref (b 17), Value.ref (b 18), Value.ref (b 19), va_rf ((g 3).map b), Value.int (r 4), Value.int (r 5)])) := rfl
theorem gF_17 {D : va_G} {t : Nat → ClassId} {b : Nat → Nat} {r : Nat → Int32} {g : Nat → Option Nat} {L : Nat → Nat} {N : Nat} : gF D t b 17 r g L N = some (Sum.inl (t 2, 4096, Sum.inr (Sum.inr (Sum.inr (Sum.inr (fun i => (g i).map b)))))) := rfl
theorem gF_18 {D : va_G} {t : Nat → ClassId} {b : Nat → Nat} {r : Nat → Int32} {g : Nat → Option Nat} {L : Nat → Nat} {N : Nat} : gF D t b 18 r g L N = some (Sum.inl (t 2, 4096, Sum.inr (Sum.inr (Sum.inr (Sum.inr (fun i => (g i).map b)))))) := rfl
theorem gF_19 {D : va_G} {t : Nat → ClassId} {b : Nat → Nat} {r : Nat → Int32} {g : Nat → Option Nat} {L : Nat → Nat} {N : Nat} : gF D t b 19 r g L N = some (Sum.inl (t 1, 4096, Sum.inl r)) := rfl
theorem gF_20 {D : va_G} {t : Nat → ClassId} {b : Nat → Nat} {r : Nat → Int32} {g : Nat → Option Nat} {L : Nat → Nat} {N : Nat} : gF D t b 20 r g L N = some (Sum.inl (t 3, 4, Sum.inr (Sum.inr (Sum.inr (Sum.inr (fun i => (g i).map b)))))) := rfl
theorem gF_21 {D : va_G} {t : Nat → ClassId} {b : Nat → Nat} {r : Nat → Int32} {g : Nat → Option Nat} {L : Nat → Nat} {N : Nat} : gF D t b 21 r g L N = some (Sum.inr (5, [Value.int (r 0), Value.int (r 1), Value.int (r 2), va_rf ((g 3).map b)])) := rfl
theorem gF_22 {D : va_G} {t : Nat → ClassId} {b : Nat → Nat} {r : Nat → Int32} {g : Nat → Option Nat} {L : Nat → Nat} {N : Nat} : gF D t b 22 r g L N = some (Sum.inr (5, [Value.int (r 0), Value.int (r 1), Value.int (r 2), va_rf ((g 3).map b)])) := rfl
theorem gF_23 {D : va_G} {t : Nat → ClassId} {b : Nat → Nat} {r : Nat → Int32} {g : Nat → Option Nat} {L : Nat → Nat} {N : Nat} : gF D t b 23 r g L N = some (Sum.inr (5, [Value.int (r 0), Value.int (r 1), Value.int (r 2), va_rf ((g 3).map b)])) := rfl
theorem gF_24 {D : va_G} {t : Nat → ClassId} {b : Nat → Nat} {r : Nat → Int32} {g : Nat → Option Nat} {L : Nat → Nat} {N : Nat} : gF D t b 24 r g L N = some (Sum.inr (5, [Value.int (r 0), Value.int (r 1), Value.int (r 2), va_rf ((g 3).map b)])) := rfl
theorem gF_25 {D : va_G} {t : Nat → ClassId} {b : Nat → Nat} {r : Nat → Int32} {g : Nat → Option Nat} {L : Nat → Nat} {N : Nat} : gF D t b 25 r g L N = some (Sum.inl (t 4, 4, Sum.inr (Sum.inr (Sum.inr (Sum.inr (fun i => (gRd 26 5 i).map b)))))) := rfl
theorem gF_26 {D : va_G} {t : Nat → ClassId} {b : Nat → Nat} {r : Nat → Int32} {g : Nat → Option Nat} {L : Nat → Nat} {N : Nat} : gF D t b 26 r g L N = some (Sum.inr (6, [Value.ref (b 27), Value.int (r 1), Value.int (r 2)])) := rfl
theorem gF_27 {D : va_G} {t : Nat → ClassId} {b : Nat → Nat} {r : Nat → Int32} {g : Nat → Option Nat} {L : Nat → Nat} {N : Nat} : gF D t b 27 r g L N = some (Sum.inr (4, [Value.ref (b 28), Value.ref (b 29), Value.ref (b 30), va_rf ((g 3).map b), Value.int (r 4), Value.int (r 5)])) := rfl
theorem gF_28 {D : va_G} {t : Nat → ClassId} {b : Nat → Nat} {r : Nat → Int32} {g : Nat → Option Nat} {L : Nat → Nat} {N : Nat} : gF D t b 28 r g L N = some (Sum.inl (t 2, 4096, Sum.inr (Sum.inr (Sum.inr (Sum.inr (fun i => (g i).map b)))))) := rfl
theorem gF_29 {D : va_G} {t : Nat → ClassId} {b : Nat → Nat} {r : Nat → Int32} {g : Nat → Option Nat} {L : Nat → Nat} {N : Nat} : gF D t b 29 r g L N = some (Sum.inl (t 2, 4096, Sum.inr (Sum.inr (Sum.inr (Sum.inr (fun i => (g i).map b)))))) := rfl
theorem gF_30 {D : va_G} {t : Nat → ClassId} {b : Nat → Nat} {r : Nat → Int32} {g : Nat → Option Nat} {L : Nat → Nat} {N : Nat} : gF D t b 30 r g L N = some (Sum.inl (t 1, 4096, Sum.inl r)) := rfl
theorem gF_31 {D : va_G} {t : Nat → ClassId} {b : Nat → Nat} {r : Nat → Int32} {g : Nat → Option Nat} {L : Nat → Nat} {N : Nat} : gF D t b 31 r g L N = some (Sum.inr (6, [Value.ref (b 32), Value.int (r 1), Value.int (r 2)])) := rfl
theorem gF_32 {D : va_G} {t : Nat → ClassId} {b : Nat → Nat} {r : Nat → Int32} {g : Nat → Option Nat} {L : Nat → Nat} {N : Nat} : gF D t b 32 r g L N = some (Sum.inr (4, [Value.ref (b 33), Value.ref (b 34), Value.ref (b 35), va_rf ((g 3).map b), Value.int (r 4), Value.int (r 5)])) := rfl
theorem gF_33 {D : va_G} {t : Nat → ClassId} {b : Nat → Nat} {r : Nat → Int32} {g : Nat → Option Nat} {L : Nat → Nat} {N : Nat} : gF D t b 33 r g L N = some (Sum.inl (t 2, 4096, Sum.inr (Sum.inr (Sum.inr (Sum.inr (fun i => (g i).map b)))))) := rfl
theorem gF_34 {D : va_G} {t : Nat → ClassId} {b : Nat → Nat} {r : Nat → Int32} {g : Nat → Option Nat} {L : Nat → Nat} {N : Nat} : gF D t b 34 r g L N = some (Sum.inl (t 2, 4096, Sum.inr (Sum.inr (Sum.inr (Sum.inr (fun i => (g i).map b)))))) := rfl
theorem gF_35 {D : va_G} {t : Nat → ClassId} {b : Nat → Nat} {r : Nat → Int32} {g : Nat → Option Nat} {L : Nat → Nat} {N : Nat} : gF D t b 35 r g L N = some (Sum.inl (t 1, 4096, Sum.inl r)) := rfl
theorem gF_36 {D : va_G} {t : Nat → ClassId} {b : Nat → Nat} {r : Nat → Int32} {g : Nat → Option Nat} {L : Nat → Nat} {N : Nat} : gF D t b 36 r g L N = some (Sum.inr (6, [Value.ref (b 37), Value.int (r 1), Value.int (r 2)])) := rfl
theorem gF_37 {D : va_G} {t : Nat → ClassId} {b : Nat → Nat} {r : Nat → Int32} {g : Nat → Option Nat} {L : Nat → Nat} {N : Nat} : gF D t b 37 r g L N = some (Sum.inr (4, [Value.ref (b 38), Value.ref (b 39), Value.ref (b 40), va_rf ((g 3).map b), Value.int (r 4), Value.int (r 5)])) := rfl
theorem gF_38 {D : va_G} {t : Nat → ClassId} {b : Nat → Nat} {r : Nat → Int32} {g : Nat → Option Nat} {L : Nat → Nat} {N : Nat} : gF D t b 38 r g L N = some (Sum.inl (t 2, 4096, Sum.inr (Sum.inr (Sum.inr (Sum.inr (fun i => (g i).map b)))))) := rfl
theorem gF_39 {D : va_G} {t : Nat → ClassId} {b : Nat → Nat} {r : Nat → Int32} {g : Nat → Option Nat} {L : Nat → Nat} {N : Nat} : gF D t b 39 r g L N = some (Sum.inl (t 2, 4096, Sum.inr (Sum.inr (Sum.inr (Sum.inr (fun i => (g i).map b)))))) := rfl
theorem gF_40 {D : va_G} {t : Nat → ClassId} {b : Nat → Nat} {r : Nat → Int32} {g : Nat → Option Nat} {L : Nat → Nat} {N : Nat} : gF D t b 40 r g L N = some (Sum.inl (t 1, 4096, Sum.inl r)) := rfl
theorem gF_41 {D : va_G} {t : Nat → ClassId} {b : Nat → Nat} {r : Nat → Int32} {g : Nat → Option Nat} {L : Nat → Nat} {N : Nat} : gF D t b 41 r g L N = some (Sum.inr (6, [Value.ref (b 42), Value.int (r 1), Value.int (r 2)])) := rfl
theorem gF_42 {D : va_G} {t : Nat → ClassId} {b : Nat → Nat} {r : Nat → Int32} {g : Nat → Option Nat} {L : Nat → Nat} {N : Nat} : gF D t b 42 r g L N = some (Sum.inr (4, [Value.ref (b 43), Value.ref (b 44), Value.ref (b 45), va_rf ((g 3).map b), Value.int (r 4), Value.int (r 5)])) := rfl
theorem gF_43 {D : va_G} {t : Nat → ClassId} {b : Nat → Nat} {r : Nat → Int32} {g : Nat → Option Nat} {L : Nat → Nat} {N : Nat} : gF D t b 43 r g L N = some (Sum.inl (t 2, 4096, Sum.inr (Sum.inr (Sum.inr (Sum.inr (fun i => (g i).map b)))))) := rfl
theorem gF_44 {D : va_G} {t : Nat → ClassId} {b : Nat → Nat} {r : Nat → Int32} {g : Nat → Option Nat} {L : Nat → Nat} {N : Nat} : gF D t b 44 r g L N = some (Sum.inl (t 2, 4096, Sum.inr (Sum.inr (Sum.inr (Sum.inr (fun i => (g i).map b)))))) := rfl
theorem gF_45 {D : va_G} {t : Nat → ClassId} {b : Nat → Nat} {r : Nat → Int32} {g : Nat → Option Nat} {L : Nat → Nat} {N : Nat} : gF D t b 45 r g L N = some (Sum.inl (t 1, 4096, Sum.inl r)) := rfl
theorem gF_46 {D : va_G} {t : Nat → ClassId} {b : Nat → Nat} {r : Nat → Int32} {g : Nat → Option Nat} {L : Nat → Nat} {N : Nat} : gF D t b 46 r g L N = some (Sum.inr (8, [Value.int (r 0), Value.int (r 1), Value.ref (b 47), Value.ref (b 48), Value.ref (b 49), Value.int (r 5), Value.ref (b 50), Value.ref (b 51), Value.ref (b 52), Value.ref (b 53), Value.int (r 10), Value.int (r 11), Value.int (r 12), Value.int (r 13), Value.int (r 14), Value.ref (b 54), Value.ref (b 62), Value.ref (b 70), Value.int (r 18), Value.int (r 19), Value.int (r 20), Value.ref (b 78), Value.ref (b 79), Value.int (r 23), Value.int (r 24), Value.int (r 25), Value.ref (b 121), Value.ref (b 80), Value.ref (b 81), Value.ref (b 82), Value.int (r 30), Value.ref (b 83), Value.int (r 32), Value.int (r 33), Value.int (r 34)])) := rfl
theorem gF_47 {D : va_G} {t : Nat → ClassId} {b : Nat → Nat} {r : Nat → Int32} {g : Nat → Option Nat} {L : Nat → Nat} {N : Nat} : gF D t b 47 r g L N = some (Sum.inl (t 0, 4096, Sum.inl r)) := rfl
theorem gF_48 {D : va_G} {t : Nat → ClassId} {b : Nat → Nat} {r : Nat → Int32} {g : Nat → Option Nat} {L : Nat → Nat} {N : Nat} : gF D t b 48 r g L N = some (Sum.inl (t 0, 4096, Sum.inl r)) := rfl
theorem gF_49 {D : va_G} {t : Nat → ClassId} {b : Nat → Nat} {r : Nat → Int32} {g : Nat → Option Nat} {L : Nat → Nat} {N : Nat} : gF D t b 49 r g L N = some (Sum.inl (t 0, 4096, Sum.inl r)) := rfl
theorem gF_50 {D : va_G} {t : Nat → ClassId} {b : Nat → Nat} {r : Nat → Int32} {g : Nat → Option Nat} {L : Nat → Nat} {N : Nat} : gF D t b 50 r g L N = some (Sum.inl (t 0, 60000, Sum.inl r)) := rfl
theorem gF_51 {D : va_G} {t : Nat → ClassId} {b : Nat → Nat} {r : Nat → Int32} {g : Nat → Option Nat} {L : Nat → Nat} {N : Nat} : gF D t b 51 r g L N = some (Sum.inl (t 1, 60000, Sum.inl r)) := rfl
theorem gF_52 {D : va_G} {t : Nat → ClassId} {b : Nat → Nat} {r : Nat → Int32} {g : Nat → Option Nat} {L : Nat → Nat} {N : Nat} : gF D t b 52 r g L N = some (Sum.inl (t 1, 60000, Sum.inl r)) := rfl
theorem gF_53 {D : va_G} {t : Nat → ClassId} {b : Nat → Nat} {r : Nat → Int32} {g : Nat → Option Nat} {L : Nat → Nat} {N : Nat} : gF D t b 53 r g L N = some (Sum.inl (t 1, 60000, Sum.inl r)) := rfl
theorem gF_54 {D : va_G} {t : Nat → ClassId} {b : Nat → Nat} {r : Nat → Int32} {g : Nat → Option Nat} {L : Nat → Nat} {N : Nat} : gF D t b 54 r g L N = some (Sum.inr (9, [Value.ref (b 55), Value.ref (b 56), Value.ref (b 57), Value.ref (b 58), Value.ref (b 59), Value.ref (b 60), Value.ref (b 61), Value.int (r 7), Value.int (r 8), Value.int (r 9), Value.int (r 10)])) := rfl
theorem gF_55 {D : va_G} {t : Nat → ClassId} {b : Nat → Nat} {r : Nat → Int32} {g : Nat → Option Nat} {L : Nat → Nat} {N : Nat} : gF D t b 55 r g L N = some (Sum.inl (t 0, 4097, Sum.inl r)) := rfl
theorem gF_56 {D : va_G} {t : Nat → ClassId} {b : Nat → Nat} {r : Nat → Int32} {g : Nat → Option Nat} {L : Nat → Nat} {N : Nat} : gF D t b 56 r g L N = some (Sum.inl (t 0, 4097, Sum.inl r)) := rfl
theorem gF_57 {D : va_G} {t : Nat → ClassId} {b : Nat → Nat} {r : Nat → Int32} {g : Nat → Option Nat} {L : Nat → Nat} {N : Nat} : gF D t b 57 r g L N = some (Sum.inl (t 0, 4098, Sum.inl r)) := rfl
theorem gF_58 {D : va_G} {t : Nat → ClassId} {b : Nat → Nat} {r : Nat → Int32} {g : Nat → Option Nat} {L : Nat → Nat} {N : Nat} : gF D t b 58 r g L N = some (Sum.inl (t 0, 4097, Sum.inl r)) := rfl
theorem gF_59 {D : va_G} {t : Nat → ClassId} {b : Nat → Nat} {r : Nat → Int32} {g : Nat → Option Nat} {L : Nat → Nat} {N : Nat} : gF D t b 59 r g L N = some (Sum.inl (t 0, 4096, Sum.inl r)) := rfl
theorem gF_60 {D : va_G} {t : Nat → ClassId} {b : Nat → Nat} {r : Nat → Int32} {g : Nat → Option Nat} {L : Nat → Nat} {N : Nat} : gF D t b 60 r g L N = some (Sum.inl (t 1, 4096, Sum.inl r)) := rfl
theorem gF_61 {D : va_G} {t : Nat → ClassId} {b : Nat → Nat} {r : Nat → Int32} {g : Nat → Option Nat} {L : Nat → Nat} {N : Nat} : gF D t b 61 r g L N = some (Sum.inl (t 1, 4096, Sum.inl r)) := rfl
theorem gF_62 {D : va_G} {t : Nat → ClassId} {b : Nat → Nat} {r : Nat → Int32} {g : Nat → Option Nat} {L : Nat → Nat} {N : Nat} : gF D t b 62 r g L N = some (Sum.inr (9, [Value.ref (b 63), Value.ref (b 64), Value.ref (b 65), Value.ref (b 66), Value.ref (b 67), Value.ref (b 68), Value.ref (b 69), Value.int (r 7), Value.int (r 8), Value.int (r 9), Value.int (r 10)])) := rfl
theorem gF_63 {D : va_G} {t : Nat → ClassId} {b : Nat → Nat} {r : Nat → Int32} {g : Nat → Option Nat} {L : Nat → Nat} {N : Nat} : gF D t b 63 r g L N = some (Sum.inl (t 0, 4097, Sum.inl r)) := rfl
theorem gF_64 {D : va_G} {t : Nat → ClassId} {b : Nat → Nat} {r : Nat → Int32} {g : Nat → Option Nat} {L : Nat → Nat} {N : Nat} : gF D t b 64 r g L N = some (Sum.inl (t 0, 4097, Sum.inl r)) := rfl
theorem gF_65 {D : va_G} {t : Nat → ClassId} {b : Nat → Nat} {r : Nat → Int32} {g : Nat → Option Nat} {L : Nat → Nat} {N : Nat} : gF D t b 65 r g L N = some (Sum.inl (t 0, 4098, Sum.inl r)) := rfl
theorem gF_66 {D : va_G} {t : Nat → ClassId} {b : Nat → Nat} {r : Nat → Int32} {g : Nat → Option Nat} {L : Nat → Nat} {N : Nat} : gF D t b 66 r g L N = some (Sum.inl (t 0, 4097, Sum.inl r)) := rfl
theorem gF_67 {D : va_G} {t : Nat → ClassId} {b : Nat → Nat} {r : Nat → Int32} {g : Nat → Option Nat} {L : Nat → Nat} {N : Nat} : gF D t b 67 r g L N = some (Sum.inl (t 0, 4096, Sum.inl r)) := rfl
theorem gF_68 {D : va_G} {t : Nat → ClassId} {b : Nat → Nat} {r : Nat → Int32} {g : Nat → Option Nat} {L : Nat → Nat} {N : Nat} : gF D t b 68 r g L N = some (Sum.inl (t 1, 4096, Sum.inl r)) := rfl
theorem gF_69 {D : va_G} {t : Nat → ClassId} {b : Nat → Nat} {r : Nat → Int32} {g : Nat → Option Nat} {L : Nat → Nat} {N : Nat} : gF D t b 69 r g L N = some (Sum.inl (t 1, 4096, Sum.inl r)) := rfl
theorem gF_70 {D : va_G} {t : Nat → ClassId} {b : Nat → Nat} {r : Nat → Int32} {g : Nat → Option Nat} {L : Nat → Nat} {N : Nat} : gF D t b 70 r g L N = some (Sum.inr (9, [Value.ref (b 71), Value.ref (b 72), Value.ref (b 73), Value.ref (b 74), Value.ref (b 75), Value.ref (b 76), Value.ref (b 77), Value.int (r 7), Value.int (r 8), Value.int (r 9), Value.int (r 10)])) := rfl
theorem gF_71 {D : va_G} {t : Nat → ClassId} {b : Nat → Nat} {r : Nat → Int32} {g : Nat → Option Nat} {L : Nat → Nat} {N : Nat} : gF D t b 71 r g L N = some (Sum.inl (t 0, 4097, Sum.inl r)) := rfl
theorem gF_72 {D : va_G} {t : Nat → ClassId} {b : Nat → Nat} {r : Nat → Int32} {g : Nat → Option Nat} {L : Nat → Nat} {N : Nat} : gF D t b 72 r g L N = some (Sum.inl (t 0, 4097, Sum.inl r)) := rfl
theorem gF_73 {D : va_G} {t : Nat → ClassId} {b : Nat → Nat} {r : Nat → Int32} {g : Nat → Option Nat} {L : Nat → Nat} {N : Nat} : gF D t b 73 r g L N = some (Sum.inl (t 0, 4098, Sum.inl r)) := rfl
theorem gF_74 {D : va_G} {t : Nat → ClassId} {b : Nat → Nat} {r : Nat → Int32} {g : Nat → Option Nat} {L : Nat → Nat} {N : Nat} : gF D t b 74 r g L N = some (Sum.inl (t 0, 4097, Sum.inl r)) := rfl
theorem gF_75 {D : va_G} {t : Nat → ClassId} {b : Nat → Nat} {r : Nat → Int32} {g : Nat → Option Nat} {L : Nat → Nat} {N : Nat} : gF D t b 75 r g L N = some (Sum.inl (t 0, 4096, Sum.inl r)) := rfl
theorem gF_76 {D : va_G} {t : Nat → ClassId} {b : Nat → Nat} {r : Nat → Int32} {g : Nat → Option Nat} {L : Nat → Nat} {N : Nat} : gF D t b 76 r g L N = some (Sum.inl (t 1, 4096, Sum.inl r)) := rfl
theorem gF_77 {D : va_G} {t : Nat → ClassId} {b : Nat → Nat} {r : Nat → Int32} {g : Nat → Option Nat} {L : Nat → Nat} {N : Nat} : gF D t b 77 r g L N = some (Sum.inl (t 1, 4096, Sum.inl r)) := rfl
theorem gF_78 {D : va_G} {t : Nat → ClassId} {b : Nat → Nat} {r : Nat → Int32} {g : Nat → Option Nat} {L : Nat → Nat} {N : Nat} : gF D t b 78 r g L N = some (Sum.inl (t 0, 4096, Sum.inl r)) := rfl
theorem gF_79 {D : va_G} {t : Nat → ClassId} {b : Nat → Nat} {r : Nat → Int32} {g : Nat → Option Nat} {L : Nat → Nat} {N : Nat} : gF D t b 79 r g L N = some (Sum.inl (t 1, 4096, Sum.inl r)) := rfl
theorem gF_80 {D : va_G} {t : Nat → ClassId} {b : Nat → Nat} {r : Nat → Int32} {g : Nat → Option Nat} {L : Nat → Nat} {N : Nat} : gF D t b 80 r g L N = some (Sum.inl (t 0, 4, Sum.inl r)) := rfl
theorem gF_81 {D : va_G} {t : Nat → ClassId} {b : Nat → Nat} {r : Nat → Int32} {g : Nat → Option Nat} {L : Nat → Nat} {N : Nat} : gF D t b 81 r g L N = some (Sum.inl (t 0, 4, Sum.inl r)) := rfl
theorem gF_82 {D : va_G} {t : Nat → ClassId} {b : Nat → Nat} {r : Nat → Int32} {g : Nat → Option Nat} {L : Nat → Nat} {N : Nat} : gF D t b 82 r g L N = some (Sum.inl (t 0, 4, Sum.inl r)) := rfl
theorem gF_83 {D : va_G} {t : Nat → ClassId} {b : Nat → Nat} {r : Nat → Int32} {g : Nat → Option Nat} {L : Nat → Nat} {N : Nat} : gF D t b 83 r g L N = some (Sum.inl (t 5, 4, Sum.inr (Sum.inr (Sum.inr (Sum.inr (fun i => (gRd 84 8 i).map b)))))) := rfl
theorem gF_84 {D : va_G} {t : Nat → ClassId} {b : Nat → Nat} {r : Nat → Int32} {g : Nat → Option Nat} {L : Nat → Nat} {N : Nat} : gF D t b 84 r g L N = some (Sum.inr (9, [Value.ref (b 85), Value.ref (b 86), Value.ref (b 87), Value.ref (b 88), Value.ref (b 89), Value.ref (b 90), Value.ref (b 91), Value.int (r 7), Value.int (r 8), Value.int (r 9), Value.int (r 10)])) := rfl
theorem gF_85 {D : va_G} {t : Nat → ClassId} {b : Nat → Nat} {r : Nat → Int32} {g : Nat → Option Nat} {L : Nat → Nat} {N : Nat} : gF D t b 85 r g L N = some (Sum.inl (t 0, 4097, Sum.inl r)) := rfl
theorem gF_86 {D : va_G} {t : Nat → ClassId} {b : Nat → Nat} {r : Nat → Int32} {g : Nat → Option Nat} {L : Nat → Nat} {N : Nat} : gF D t b 86 r g L N = some (Sum.inl (t 0, 4097, Sum.inl r)) := rfl
theorem gF_87 {D : va_G} {t : Nat → ClassId} {b : Nat → Nat} {r : Nat → Int32} {g : Nat → Option Nat} {L : Nat → Nat} {N : Nat} : gF D t b 87 r g L N = some (Sum.inl (t 0, 4098, Sum.inl r)) := rfl
theorem gF_88 {D : va_G} {t : Nat → ClassId} {b : Nat → Nat} {r : Nat → Int32} {g : Nat → Option Nat} {L : Nat → Nat} {N : Nat} : gF D t b 88 r g L N = some (Sum.inl (t 0, 4097, Sum.inl r)) := rfl
theorem gF_89 {D : va_G} {t : Nat → ClassId} {b : Nat → Nat} {r : Nat → Int32} {g : Nat → Option Nat} {L : Nat → Nat} {N : Nat} : gF D t b 89 r g L N = some (Sum.inl (t 0, 4096, Sum.inl r)) := rfl
theorem gF_90 {D : va_G} {t : Nat → ClassId} {b : Nat → Nat} {r : Nat → Int32} {g : Nat → Option Nat} {L : Nat → Nat} {N : Nat} : gF D t b 90 r g L N = some (Sum.inl (t 1, 4096, Sum.inl r)) := rfl
theorem gF_91 {D : va_G} {t : Nat → ClassId} {b : Nat → Nat} {r : Nat → Int32} {g : Nat → Option Nat} {L : Nat → Nat} {N : Nat} : gF D t b 91 r g L N = some (Sum.inl (t 1, 4096, Sum.inl r)) := rfl
theorem gF_92 {D : va_G} {t : Nat → ClassId} {b : Nat → Nat} {r : Nat → Int32} {g : Nat → Option Nat} {L : Nat → Nat} {N : Nat} : gF D t b 92 r g L N = some (Sum.inr (9, [Value.ref (b 93), Value.ref (b 94), Value.ref (b 95), Value.ref (b 96), Value.ref (b 97), Value.ref (b 98), Value.ref (b 99), Value.int (r 7), Value.int (r 8), Value.int (r 9), Value.int (r 10)])) := rfl
theorem gF_93 {D : va_G} {t : Nat → ClassId} {b : Nat → Nat} {r : Nat → Int32} {g : Nat → Option Nat} {L : Nat → Nat} {N : Nat} : gF D t b 93 r g L N = some (Sum.inl (t 0, 4097, Sum.inl r)) := rfl
theorem gF_94 {D : va_G} {t : Nat → ClassId} {b : Nat → Nat} {r : Nat → Int32} {g : Nat → Option Nat} {L : Nat → Nat} {N : Nat} : gF D t b 94 r g L N = some (Sum.inl (t 0, 4097, Sum.inl r)) := rfl
theorem gF_95 {D : va_G} {t : Nat → ClassId} {b : Nat → Nat} {r : Nat → Int32} {g : Nat → Option Nat} {L : Nat → Nat} {N : Nat} : gF D t b 95 r g L N = some (Sum.inl (t 0, 4098, Sum.inl r)) := rfl
theorem gF_96 {D : va_G} {t : Nat → ClassId} {b : Nat → Nat} {r : Nat → Int32} {g : Nat → Option Nat} {L : Nat → Nat} {N : Nat} : gF D t b 96 r g L N = some (Sum.inl (t 0, 4097, Sum.inl r)) := rfl
theorem gF_97 {D : va_G} {t : Nat → ClassId} {b : Nat → Nat} {r : Nat → Int32} {g : Nat → Option Nat} {L : Nat → Nat} {N : Nat} : gF D t b 97 r g L N = some (Sum.inl (t 0, 4096, Sum.inl r)) := rfl
theorem gF_98 {D : va_G} {t : Nat → ClassId} {b : Nat → Nat} {r : Nat → Int32} {g : Nat → Option Nat} {L : Nat → Nat} {N : Nat} : gF D t b 98 r g L N = some (Sum.inl (t 1, 4096, Sum.inl r)) := rfl
theorem gF_99 {D : va_G} {t : Nat → ClassId} {b : Nat → Nat} {r : Nat → Int32} {g : Nat → Option Nat} {L : Nat → Nat} {N : Nat} : gF D t b 99 r g L N = some (Sum.inl (t 1, 4096, Sum.inl r)) := rfl
theorem gF_100 {D : va_G} {t : Nat → ClassId} {b : Nat → Nat} {r : Nat → Int32} {g : Nat → Option Nat} {L : Nat → Nat} {N : Nat} : gF D t b 100 r g L N = some (Sum.inr (9, [Value.ref (b 101), Value.ref (b 102), Value.ref (b 103), Value.ref (b 104), Value.ref (b 105), Value.ref (b 106), Value.ref (b 107), Value.int (r 7), Value.int (r 8), Value.int (r 9), Value.int (r 10)])) := rfl
theorem gF_101 {D : va_G} {t : Nat → ClassId} {b : Nat → Nat} {r : Nat → Int32} {g : Nat → Option Nat} {L : Nat → Nat} {N : Nat} : gF D t b 101 r g L N = some (Sum.inl (t 0, 4097, Sum.inl r)) := rfl
theorem gF_102 {D : va_G} {t : Nat → ClassId} {b : Nat → Nat} {r : Nat → Int32} {g : Nat → Option Nat} {L : Nat → Nat} {N : Nat} : gF D t b 102 r g L N = some (Sum.inl (t 0, 4097, Sum.inl r)) := rfl
theorem gF_103 {D : va_G} {t : Nat → ClassId} {b : Nat → Nat} {r : Nat → Int32} {g : Nat → Option Nat} {L : Nat → Nat} {N : Nat} : gF D t b 103 r g L N = some (Sum.inl (t 0, 4098, Sum.inl r)) := rfl
theorem gF_104 {D : va_G} {t : Nat → ClassId} {b : Nat → Nat} {r : Nat → Int32} {g : Nat → Option Nat} {L : Nat → Nat} {N : Nat} : gF D t b 104 r g L N = some (Sum.inl (t 0, 4097, Sum.inl r)) := rfl
theorem gF_105 {D : va_G} {t : Nat → ClassId} {b : Nat → Nat} {r : Nat → Int32} {g : Nat → Option Nat} {L : Nat → Nat} {N : Nat} : gF D t b 105 r g L N = some (Sum.inl (t 0, 4096, Sum.inl r)) := rfl
theorem gF_106 {D : va_G} {t : Nat → ClassId} {b : Nat → Nat} {r : Nat → Int32} {g : Nat → Option Nat} {L : Nat → Nat} {N : Nat} : gF D t b 106 r g L N = some (Sum.inl (t 1, 4096, Sum.inl r)) := rfl
theorem gF_107 {D : va_G} {t : Nat → ClassId} {b : Nat → Nat} {r : Nat → Int32} {g : Nat → Option Nat} {L : Nat → Nat} {N : Nat} : gF D t b 107 r g L N = some (Sum.inl (t 1, 4096, Sum.inl r)) := rfl
theorem gF_108 {D : va_G} {t : Nat → ClassId} {b : Nat → Nat} {r : Nat → Int32} {g : Nat → Option Nat} {L : Nat → Nat} {N : Nat} : gF D t b 108 r g L N = some (Sum.inr (9, [Value.ref (b 109), Value.ref (b 110), Value.ref (b 111), Value.ref (b 112), Value.ref (b 113), Value.ref (b 114), Value.ref (b 115), Value.int (r 7), Value.int (r 8), Value.int (r 9), Value.int (r 10)])) := rfl
theorem gF_109 {D : va_G} {t : Nat → ClassId} {b : Nat → Nat} {r : Nat → Int32} {g : Nat → Option Nat} {L : Nat → Nat} {N : Nat} : gF D t b 109 r g L N = some (Sum.inl (t 0, 4097, Sum.inl r)) := rfl
theorem gF_110 {D : va_G} {t : Nat → ClassId} {b : Nat → Nat} {r : Nat → Int32} {g : Nat → Option Nat} {L : Nat → Nat} {N : Nat} : gF D t b 110 r g L N = some (Sum.inl (t 0, 4097, Sum.inl r)) := rfl
theorem gF_111 {D : va_G} {t : Nat → ClassId} {b : Nat → Nat} {r : Nat → Int32} {g : Nat → Option Nat} {L : Nat → Nat} {N : Nat} : gF D t b 111 r g L N = some (Sum.inl (t 0, 4098, Sum.inl r)) := rfl
theorem gF_112 {D : va_G} {t : Nat → ClassId} {b : Nat → Nat} {r : Nat → Int32} {g : Nat → Option Nat} {L : Nat → Nat} {N : Nat} : gF D t b 112 r g L N = some (Sum.inl (t 0, 4097, Sum.inl r)) := rfl
theorem gF_113 {D : va_G} {t : Nat → ClassId} {b : Nat → Nat} {r : Nat → Int32} {g : Nat → Option Nat} {L : Nat → Nat} {N : Nat} : gF D t b 113 r g L N = some (Sum.inl (t 0, 4096, Sum.inl r)) := rfl
theorem gF_114 {D : va_G} {t : Nat → ClassId} {b : Nat → Nat} {r : Nat → Int32} {g : Nat → Option Nat} {L : Nat → Nat} {N : Nat} : gF D t b 114 r g L N = some (Sum.inl (t 1, 4096, Sum.inl r)) := rfl
theorem gF_115 {D : va_G} {t : Nat → ClassId} {b : Nat → Nat} {r : Nat → Int32} {g : Nat → Option Nat} {L : Nat → Nat} {N : Nat} : gF D t b 115 r g L N = some (Sum.inl (t 1, 4096, Sum.inl r)) := rfl
theorem gF_116 {D : va_G} {t : Nat → ClassId} {b : Nat → Nat} {r : Nat → Int32} {g : Nat → Option Nat} {L : Nat → Nat} {N : Nat} : gF D t b 116 r g L N = some (Sum.inl (t 6, 1, Sum.inr (Sum.inl (fun i => if i = 0 then (r 0).toInt64 else 0)))) := rfl
theorem gF_121 {D : va_G} {t : Nat → ClassId} {b : Nat → Nat} {r : Nat → Int32} {g : Nat → Option Nat} {L : Nat → Nat} {N : Nat} : gF D t b 121 r g L N = some (Sum.inl (t 8, 4, Sum.inr (Sum.inr (Sum.inr (Sum.inr (fun i => (g i).map b)))))) := rfl
theorem gF_122 {D : va_G} {t : Nat → ClassId} {b : Nat → Nat} {r : Nat → Int32} {g : Nat → Option Nat} {L : Nat → Nat} {N : Nat} : gF D t b 122 r g L N = some (Sum.inl (t 0, 4096, Sum.inl r)) := rfl
theorem gF_123 {D : va_G} {t : Nat → ClassId} {b : Nat → Nat} {r : Nat → Int32} {g : Nat → Option Nat} {L : Nat → Nat} {N : Nat} : gF D t b 123 r g L N = some (Sum.inl (t 0, 4096, Sum.inl r)) := rfl
theorem gF_124 {D : va_G} {t : Nat → ClassId} {b : Nat → Nat} {r : Nat → Int32} {g : Nat → Option Nat} {L : Nat → Nat} {N : Nat} : gF D t b 124 r g L N = some (Sum.inl (t 0, 4096, Sum.inl r)) := rfl
theorem gF_125 {D : va_G} {t : Nat → ClassId} {b : Nat → Nat} {r : Nat → Int32} {g : Nat → Option Nat} {L : Nat → Nat} {N : Nat} : gF D t b 125 r g L N = some (Sum.inl (t 0, 4096, Sum.inl r)) := rfl
theorem gF_Ve {D : va_G} {t : Nat → ClassId} {b : Nat → Nat} {r : Nat → Int32} {g : Nat → Option Nat} {L : Nat → Nat} {N : Nat} {n : Nat} (h : gVer n = true) : gF D t b n r g L N = some (Sum.inr (9, [Value.ref (b (n + 1)), Value.ref (b (n + 2)), Value.ref (b (n + 3)), Value.ref (b (n + 4)), Value.ref (b (n + 5)), Value.ref (b (n + 6)), Value.ref (b (n + 7)), Value.int (r 7), Value.int (r 8), Value.int (r 9), Value.int (r 10)])) := by
  unfold gVer at h
  simp only [decide_eq_true_eq, List.mem_cons, List.mem_nil_iff, or_false] at h
  rcases h with rfl | rfl | rfl | rfl | rfl | rfl | rfl <;> rfl
theorem gF_Ve1 {D : va_G} {t : Nat → ClassId} {b : Nat → Nat} {r : Nat → Int32} {g : Nat → Option Nat} {L : Nat → Nat} {N : Nat} {n : Nat} (h : gVer n = true) : gF D t b (n + 1) r g L N = some (Sum.inl (t 0, 4097, Sum.inl r)) := by
  unfold gVer at h
  simp only [decide_eq_true_eq, List.mem_cons, List.mem_nil_iff, or_false] at h
  rcases h with rfl | rfl | rfl | rfl | rfl | rfl | rfl <;> rfl
theorem gF_Ve2 {D : va_G} {t : Nat → ClassId} {b : Nat → Nat} {r : Nat → Int32} {g : Nat → Option Nat} {L : Nat → Nat} {N : Nat} {n : Nat} (h : gVer n = true) : gF D t b (n + 2) r g L N = some (Sum.inl (t 0, 4097, Sum.inl r)) := by
  unfold gVer at h
  simp only [decide_eq_true_eq, List.mem_cons, List.mem_nil_iff, or_false] at h
  rcases h with rfl | rfl | rfl | rfl | rfl | rfl | rfl <;> rfl
theorem gF_Ve3 {D : va_G} {t : Nat → ClassId} {b : Nat → Nat} {r : Nat → Int32} {g : Nat → Option Nat} {L : Nat → Nat} {N : Nat} {n : Nat} (h : gVer n = true) : gF D t b (n + 3) r g L N = some (Sum.inl (t 0, 4098, Sum.inl r)) := by
  unfold gVer at h
  simp only [decide_eq_true_eq, List.mem_cons, List.mem_nil_iff, or_false] at h
  rcases h with rfl | rfl | rfl | rfl | rfl | rfl | rfl <;> rfl
theorem gF_Ve4 {D : va_G} {t : Nat → ClassId} {b : Nat → Nat} {r : Nat → Int32} {g : Nat → Option Nat} {L : Nat → Nat} {N : Nat} {n : Nat} (h : gVer n = true) : gF D t b (n + 4) r g L N = some (Sum.inl (t 0, 4097, Sum.inl r)) := by
  unfold gVer at h
  simp only [decide_eq_true_eq, List.mem_cons, List.mem_nil_iff, or_false] at h
  rcases h with rfl | rfl | rfl | rfl | rfl | rfl | rfl <;> rfl
theorem gF_Ve5 {D : va_G} {t : Nat → ClassId} {b : Nat → Nat} {r : Nat → Int32} {g : Nat → Option Nat} {L : Nat → Nat} {N : Nat} {n : Nat} (h : gVer n = true) : gF D t b (n + 5) r g L N = some (Sum.inl (t 0, 4096, Sum.inl r)) := by
  unfold gVer at h
  simp only [decide_eq_true_eq, List.mem_cons, List.mem_nil_iff, or_false] at h
  rcases h with rfl | rfl | rfl | rfl | rfl | rfl | rfl <;> rfl
theorem gF_Ve6 {D : va_G} {t : Nat → ClassId} {b : Nat → Nat} {r : Nat → Int32} {g : Nat → Option Nat} {L : Nat → Nat} {N : Nat} {n : Nat} (h : gVer n = true) : gF D t b (n + 6) r g L N = some (Sum.inl (t 1, 4096, Sum.inl r)) := by
  unfold gVer at h
  simp only [decide_eq_true_eq, List.mem_cons, List.mem_nil_iff, or_false] at h
  rcases h with rfl | rfl | rfl | rfl | rfl | rfl | rfl <;> rfl
theorem gF_Ve7 {D : va_G} {t : Nat → ClassId} {b : Nat → Nat} {r : Nat → Int32} {g : Nat → Option Nat} {L : Nat → Nat} {N : Nat} {n : Nat} (h : gVer n = true) : gF D t b (n + 7) r g L N = some (Sum.inl (t 1, 4096, Sum.inl r)) := by
  unfold gVer at h
  simp only [decide_eq_true_eq, List.mem_cons, List.mem_nil_iff, or_false] at h
  rcases h with rfl | rfl | rfl | rfl | rfl | rfl | rfl <;> rfl
theorem gF_Vi {D : va_G} {t : Nat → ClassId} {b : Nat → Nat} {r : Nat → Int32} {g : Nat → Option Nat} {L : Nat → Nat} {N : Nat} {n : Nat} (h : gVie n = true) : gF D t b n r g L N = some (Sum.inr (4, [Value.ref (b (n + 1)), Value.ref (b (n + 2)), Value.ref (b (n + 3)), va_rf ((g 3).map b), Value.int (r 4), Value.int (r 5)])) := by
  unfold gVie at h
  simp only [decide_eq_true_eq, List.mem_cons, List.mem_nil_iff, or_false] at h
  rcases h with rfl | rfl | rfl | rfl | rfl | rfl | rfl <;> rfl
theorem gF_Vi1 {D : va_G} {t : Nat → ClassId} {b : Nat → Nat} {r : Nat → Int32} {g : Nat → Option Nat} {L : Nat → Nat} {N : Nat} {n : Nat} (h : gVie n = true) : gF D t b (n + 1) r g L N = some (Sum.inl (t 2, 4096, Sum.inr (Sum.inr (Sum.inr (Sum.inr (fun i => (g i).map b)))))) := by
  unfold gVie at h
  simp only [decide_eq_true_eq, List.mem_cons, List.mem_nil_iff, or_false] at h
  rcases h with rfl | rfl | rfl | rfl | rfl | rfl | rfl <;> rfl
theorem gF_Vi2 {D : va_G} {t : Nat → ClassId} {b : Nat → Nat} {r : Nat → Int32} {g : Nat → Option Nat} {L : Nat → Nat} {N : Nat} {n : Nat} (h : gVie n = true) : gF D t b (n + 2) r g L N = some (Sum.inl (t 2, 4096, Sum.inr (Sum.inr (Sum.inr (Sum.inr (fun i => (g i).map b)))))) := by
  unfold gVie at h
  simp only [decide_eq_true_eq, List.mem_cons, List.mem_nil_iff, or_false] at h
  rcases h with rfl | rfl | rfl | rfl | rfl | rfl | rfl <;> rfl
theorem gF_Vi3 {D : va_G} {t : Nat → ClassId} {b : Nat → Nat} {r : Nat → Int32} {g : Nat → Option Nat} {L : Nat → Nat} {N : Nat} {n : Nat} (h : gVie n = true) : gF D t b (n + 3) r g L N = some (Sum.inl (t 1, 4096, Sum.inl r)) := by
  unfold gVie at h
  simp only [decide_eq_true_eq, List.mem_cons, List.mem_nil_iff, or_false] at h
  rcases h with rfl | rfl | rfl | rfl | rfl | rfl | rfl <;> rfl
theorem gF_Me {D : va_G} {t : Nat → ClassId} {b : Nat → Nat} {r : Nat → Int32} {g : Nat → Option Nat} {L : Nat → Nat} {N : Nat} {n : Nat} (h : gMer n = true) : gF D t b n r g L N = some (Sum.inr (5, [Value.int (r 0), Value.int (r 1), Value.int (r 2), va_rf ((g 3).map b)])) := by
  unfold gMer at h
  simp only [decide_eq_true_eq, List.mem_cons, List.mem_nil_iff, or_false] at h
  rcases h with rfl | rfl | rfl | rfl <;> rfl
theorem gF_Re {D : va_G} {t : Nat → ClassId} {b : Nat → Nat} {r : Nat → Int32} {g : Nat → Option Nat} {L : Nat → Nat} {N : Nat} {n : Nat} (h : gRea n = true) : gF D t b n r g L N = some (Sum.inr (6, [Value.ref (b (n + 1)), Value.int (r 1), Value.int (r 2)])) := by
  unfold gRea at h
  simp only [decide_eq_true_eq, List.mem_cons, List.mem_nil_iff, or_false] at h
  rcases h with rfl | rfl | rfl | rfl <;> rfl
theorem gF_Ro {D : va_G} {t : Nat → ClassId} {b : Nat → Nat} {r : Nat → Int32} {g : Nat → Option Nat} {L : Nat → Nat} {N : Nat} {n : Nat} (h : gRow n = true) : gF D t b n r g L N = some (Sum.inl (t 0, 4096, Sum.inl r)) := by
  unfold gRow at h
  simp only [decide_eq_true_eq, List.mem_cons, List.mem_nil_iff, or_false] at h
  rcases h with rfl | rfl | rfl | rfl <;> rfl
theorem gVer_rd {i : Nat} (h : i < 4) : gVer (84 + 8 * i) = true := by
  match i, h with
  | 0, _ => decide
  | 1, _ => decide
  | 2, _ => decide
  | 3, _ => decide
  | k + 4, h => omega
theorem gRea_rd {i : Nat} (h : i < 4) : gRea (26 + 5 * i) = true := by
  match i, h with
  | 0, _ => decide
  | 1, _ => decide
  | 2, _ => decide
  | 3, _ => decide
  | k + 4, h => omega
theorem gVie_re {n : Nat} (h : gRea n = true) : gVie (n + 1) = true := by
  unfold gRea at h
  simp only [decide_eq_true_eq, List.mem_cons, List.mem_nil_iff, or_false] at h
  rcases h with rfl | rfl | rfl | rfl <;> decide
theorem gF_Fi {D : va_G} {t : Nat → ClassId} {b : Nat → Nat} {r : Nat → Int32} {g : Nat → Option Nat} {L : Nat → Nat} {N n : Nat} (h : gFile N n = true) : gF D t b n r g L N = some (Sum.inr (7, [Value.int (r 0), Value.int (r 1), Value.int (r 2), Value.int (r 3), Value.int (r 4), Value.int (r 5), Value.int (r 6)])) := by
  have h0 : 1000 ≤ n := (gFile.lo h)
  unfold gF
  repeat rw [if_neg (by omega)]
  exact if_pos h
theorem gF_Li {D : va_G} {t : Nat → ClassId} {b : Nat → Nat} {r : Nat → Int32} {g : Nat → Option Nat} {L : Nat → Nat} {N n : Nat} (h : gLis n = true) : gF D t b n r g L N = some (Sum.inr (3, [Value.ref (if L (n + 124) = 0 then gx_av D else b (n + 124)), Value.int (r 1), Value.int (r 2)])) := by
  unfold gLis at h
  simp only [decide_eq_true_eq, List.mem_cons, List.mem_nil_iff, or_false] at h
  rcases h with rfl | rfl <;> rfl
theorem gF_LiA {D : va_G} {t : Nat → ClassId} {b : Nat → Nat} {r : Nat → Int32} {g : Nat → Option Nat} {L : Nat → Nat} {N n : Nat} (h : gLis n = true) (hL : ¬ L (n + 124) = 0) : gF D t b n r g L N = some (Sum.inr (3, [Value.ref (b (n + 124)), Value.int (r 1), Value.int (r 2)])) := by
  rw [gF_Li h, if_neg hL]
theorem gF_LA {D : va_G} {t : Nat → ClassId} {b : Nat → Nat} {r : Nat → Int32} {g : Nat → Option Nat} {L : Nat → Nat} {N n : Nat} (h : gLis n = true) (hL : ¬ L (n + 124) = 0) : gF D t b (n + 124) r g L N = some (Sum.inl (t 7, L (n + 124), Sum.inr (Sum.inr (Sum.inr (Sum.inr (fun i => (g i).map b)))))) := by
  unfold gLis at h
  simp only [decide_eq_true_eq, List.mem_cons, List.mem_nil_iff, or_false] at h
  rcases h with rfl | rfl
  · exact (show gF D t b 130 r g L N = (if L 130 = 0 then none else some _) from rfl).trans (if_neg hL)
  · exact (show gF D t b 131 r g L N = (if L 131 = 0 then none else some _) from rfl).trans (if_neg hL)
theorem kW_FiObject : Cond.castable "CommitLedger$LedgerFile" "java/lang/Object" ∈ gx_all := gx_in 1319 (by decide +kernel)
theorem kW_smax : Cond.static Lib.Math.max.name ∈ gx_all := gx_in 301 (by decide +kernel)
theorem kW_cmax : Cond.code Lib.Math.max.name Lib.Math.max.code 2 (some .int) ∈ gx_all := gx_in 302 (by decide +kernel)
theorem kW_mod : Cond.sameField "java/util/ArrayList" "java/util/AbstractList" "modCount" "I" ∈ gx_all := gx_in 84 (by decide +kernel)
theorem kW_FiFi : Cond.castable "CommitLedger$LedgerFile" "CommitLedger$LedgerFile" ∈ gx_all := gx_in 1307 (by decide +kernel)
def gEq (X0 X : gX) : Prop := X.cc = X0.cc ∧ X.ss = X0.ss ∧ X.N = X0.N ∧ X.L = X0.L
theorem gEq.rf {X : gX} : gEq X X := ⟨rfl, rfl, rfl, rfl⟩
theorem gEq.tr {X Y Z : gX} (h : gEq X Y) (h' : gEq Y Z) : gEq X Z := ⟨h'.1.trans h.1, h'.2.1.trans h.2.1, h'.2.2.1.trans h.2.2.1, h'.2.2.2.trans h.2.2.2⟩
theorem gEq.w {X Y : gX} {n j : Nat} {v : Int32} (h : gEq X Y) : gEq X (Y.w n j v) := ⟨h.1, h.2.1, h.2.2.1, h.2.2.2⟩
theorem gEq.g {X Y : gX} {n j : Nat} {v : Option Nat} (h : gEq X Y) : gEq X (Y.g n j v) := ⟨h.1, h.2.1, h.2.2.1, h.2.2.2⟩
/-- a name that is in use -/
def gNm (N m : Nat) : Prop := m < 1000 + N ∧ (m < 129 ∨ 131 < m)
def gOk (N : Nat) : Option Nat → Bool
  | none => true
  | some m => decide (m < 1000 + N) && (decide (m < 129) || decide (131 < m))
theorem gOk.of {N : Nat} {x : Option Nat} (h : gOk N x = true) : ∀ m, x = some m → gNm N m := fun m e => by
  subst e
  unfold gOk at h
  simp only [Bool.and_eq_true, Bool.or_eq_true, decide_eq_true_eq] at h
  exact h
theorem gFile.nm {N n : Nat} (h : gFile N n = true) : gNm N n := ⟨(gFile.hi h), Or.inr (by have := (gFile.lo h); omega)⟩
theorem gMer.nm {N n : Nat} (h : gMer n = true) : gNm N n := by
  unfold gMer at h
  simp only [decide_eq_true_eq, List.mem_cons, List.mem_nil_iff, or_false] at h
  unfold gNm
  omega
def gw (D : va_G) (t : Nat → ClassId) (b : Nat → Nat) (X : gX) (h : gm_M) : Prop := (∀ (n : Nat) (e : va_E), gF D t b n (X.I n) (X.G n) X.L X.N = some e → h n = some (b n, e)) ∧ ∀ n i m : Nat, X.G n i = some m → gNm X.N m
theorem gw.put {D : va_G} {t : Nat → ClassId} {b : Nat → Nat} {X : gX} {h : gm_M} (hw : gw D t b X h) {n j : Nat} {v : Int32} {y : va_E} (he : gF D t b n (upd (X.I n) j v) (X.G n) X.L X.N = some y) : gw D t b (X.w n j v) (gm_up h n (b n, y)) := by
  refine ⟨fun a e ha => ?_, hw.2⟩
  by_cases q : a = n
  · subst q
    rw [gX.w_self] at ha
    have h9 : some y = some e := he.symm.trans ha
    cases h9
    exact gm_self
  · rw [gX.w_ne q] at ha
    exact (gm_off q).trans (hw.1 a e ha)
theorem gw.putG {D : va_G} {t : Nat → ClassId} {b : Nat → Nat} {X : gX} {h : gm_M} (hw : gw D t b X h) {n j : Nat} {v : Option Nat} {y : va_E} (hv : ∀ m, v = some m → gNm X.N m) (he : gF D t b n (X.I n) (va_up (X.G n) j v) X.L X.N = some y) : gw D t b (X.g n j v) (gm_up h n (b n, y)) := by
  refine ⟨fun a e ha => ?_, fun a i m hm => ?_⟩
  · by_cases q : a = n
    · subst q
      rw [gX.g_self] at ha
      have h9 : some y = some e := he.symm.trans ha
      cases h9
      exact gm_self
    · rw [gX.g_ne q] at ha
      exact (gm_off q).trans (hw.1 a e ha)
  · by_cases q : a = n
    · subst q
      rw [gX.g_self] at hm
      by_cases q2 : i = j
      · subst q2
        rw [va_up_self] at hm
        exact hv m hm
      · rw [va_up_ne _ _ q2] at hm
        exact hw.2 a i m hm
    · rw [gX.g_ne q] at hm
      exact hw.2 a i m hm
/-- all that a walk carries -/
def gy (D : va_G) (t : Nat → ClassId) (b : Nat → Nat) (A : Nat → Prop) (H0 : Heap) (X0 X : gX) (H : Heap) (locs : List Loc) : Prop := ∃ h : gm_M, gz D A H0 h H locs ∧ gw D t b X h ∧ gEq X0 X
/-- how a method ended, in names -/
def gR : Type := Unit ⊕ Int32 ⊕ Option Nat ⊕ String
def gR.v : gR := Sum.inl ()
def gR.i (x : Int32) : gR := Sum.inr (Sum.inl x)
def gR.a (x : Option Nat) : gR := Sum.inr (Sum.inr (Sum.inl x))
def gR.t (E : String) : gR := Sum.inr (Sum.inr (Sum.inr E))
def gR.val (b : Nat → Nat) (r : gR) : Option Value ⊕ String := match r with
  | Sum.inl _ => Sum.inl none
  | Sum.inr (Sum.inl x) => Sum.inl (some (Value.int x))
  | Sum.inr (Sum.inr (Sum.inl x)) => Sum.inl (some (va_rf (x.map b)))
  | Sum.inr (Sum.inr (Sum.inr E)) => Sum.inr E
def gPo (D : va_G) (t : Nat → ClassId) (b : Nat → Nat) (X : gX) (o : gR × gX) : Option Value ⊕ String → va_W → Prop := gm_p (fun r h' => r = o.1.val b ∧ gw D t b o.2 h' ∧ gEq X o.2)
/-- the array classes -/
def gTy (t : Nat → ClassId) (tys : List (ClassId × FieldType)) : Prop := tys[0]? = some ((t 0, FieldType.int) : ClassId × FieldType) ∧ tys[1]? = some ((t 1, FieldType.boolean) : ClassId × FieldType) ∧ tys[2]? = some ((t 2, FieldType.object "CommitLedger$LedgerFile") : ClassId × FieldType) ∧ tys[3]? = some ((t 3, FieldType.object "CommitLedger$Merge") : ClassId × FieldType) ∧ tys[4]? = some ((t 4, FieldType.object "CommitLedger$Reader") : ClassId × FieldType) ∧ tys[5]? = some ((t 5, FieldType.object "CommitLedgerModel$Version") : ClassId × FieldType) ∧ tys[6]? = some ((t 6, FieldType.long) : ClassId × FieldType) ∧ tys[7]? = some ((t 7, FieldType.object "java/lang/Object") : ClassId × FieldType) ∧ tys[8]? = some ((t 8, FieldType.array .int) : ClassId × FieldType)
/-- steps of the programs of numbers -/
def gB {α β : Type} (a : α) (f : α → β) : β := f a
def gLf {α ρ : Type} (A : Option ρ) : Option (α ⊕ ρ) := A.map Sum.inr
theorem gU {α ρ : Type} {A : Option ρ} {t2 : α ⊕ ρ} {t1 : ρ} (h : gLf A = some t2) (ho : ∀ r, t2 = Sum.inr r → r = t1) : A = some t1 := by
  cases A with
  | none => cases h
  | some r => rw [ho r (Option.some.inj h).symm]
theorem gp_t {ρ : Type} {c : Prop} [Decidable c] {A B r : Option ρ} (hc : c) (h : (if c then A else B) = r) : A = r := (if_pos hc).symm.trans h
theorem gp_f {ρ : Type} {c : Prop} [Decidable c] {A B r : Option ρ} (hc : ¬ c) (h : (if c then A else B) = r) : B = r := (if_neg hc).symm.trans h
theorem gp_g {ρ : Type} {c : Prop} [Decidable c] {A : Option ρ} {r : ρ} (h : (if c then A else none) = some r) : c ∧ A = some r := by
  by_cases hc : c
  · exact ⟨hc, gp_t hc h⟩
  · exact absurd (gp_f hc h) (by simp)
def gI {σ ρ : Type} (body : σ → Option (σ ⊕ ρ)) : Nat → σ → Option ρ
  | 0, _ => none
  | k + 1, s => match body s with
    | none => none
    | some (.inl s') => gI body k s'
    | some (.inr r) => some r
theorem gI_n {σ ρ : Type} {body : σ → Option (σ ⊕ ρ)} {k : Nat} {x : σ} (h : body x = none) : gI body (k + 1) x = none := by
  rw [gI, h]
theorem gI_l {σ ρ : Type} {body : σ → Option (σ ⊕ ρ)} {k : Nat} {x y : σ} (h : body x = some (Sum.inl y)) : gI body (k + 1) x = gI body k y := by
  rw [gI, h]
theorem gI_r {σ ρ : Type} {body : σ → Option (σ ⊕ ρ)} {k : Nat} {x : σ} {r : ρ} (h : body x = some (Sum.inr r)) : gI body (k + 1) x = some r := by
  rw [gI, h]
/-- how often a loop may turn: more than any does -/
def gK : Nat := 1000000
def gCi {ρ : Type} (F : Option (gR × gX)) (k : Int32 → gX → Option ρ) : Option ρ := match F with
  | some (Sum.inr (Sum.inl x), X) => k x X
  | _ => none
theorem gCi_el {ρ : Type} {F : Option (gR × gX)} {k : Int32 → gX → Option ρ} {o : ρ} (h : gCi F k = some o) : ∃ x X, F = some (gR.i x, X) ∧ k x X = some o := by
  unfold gCi at h
  split at h
  · exact ⟨_, _, rfl, h⟩
  · cases h
def gCv {ρ : Type} (F : Option (gR × gX)) (k : gX → Option ρ) : Option ρ := match F with
  | some (Sum.inl _, X) => k X
  | _ => none
theorem gCv_el {ρ : Type} {F : Option (gR × gX)} {k : gX → Option ρ} {o : ρ} (h : gCv F k = some o) : ∃ X, F = some (gR.v, X) ∧ k X = some o := by
  unfold gCv at h
  split at h
  · exact ⟨_, rfl, h⟩
  · cases h
def gCa {ρ : Type} (F : Option (gR × gX)) (k : Option Nat → gX → Option ρ) : Option ρ := match F with
  | some (Sum.inr (Sum.inr (Sum.inl x)), X) => k x X
  | _ => none
theorem gCa_el {ρ : Type} {F : Option (gR × gX)} {k : Option Nat → gX → Option ρ} {o : ρ} (h : gCa F k = some o) : ∃ x X, F = some (gR.a x, X) ∧ k x X = some o := by
  unfold gCa at h
  split at h
  · exact ⟨_, _, rfl, h⟩
  · cases h
/-- calls that may throw: th says what becomes of the exception -/
def gCit {ρ : Type} (F : Option (gR × gX)) (th : String → gX → Option ρ) (k : Int32 → gX → Option ρ) : Option ρ := match F with
  | some (Sum.inr (Sum.inl x), X) => k x X
  | some (Sum.inr (Sum.inr (Sum.inr E)), X) => th E X
  | _ => none
theorem gCit_el {ρ : Type} {F : Option (gR × gX)} {th : String → gX → Option ρ} {k : Int32 → gX → Option ρ} {o : ρ} (h : gCit F th k = some o) : (∃ x X, F = some (gR.i x, X) ∧ k x X = some o) ∨ ∃ E X, F = some (gR.t E, X) ∧ th E X = some o := by
  unfold gCit at h
  split at h
  · exact Or.inl ⟨_, _, rfl, h⟩
  · exact Or.inr ⟨_, _, rfl, h⟩
  · cases h
def gCvt {ρ : Type} (F : Option (gR × gX)) (th : String → gX → Option ρ) (k : gX → Option ρ) : Option ρ := match F with
  | some (Sum.inl _, X) => k X
  | some (Sum.inr (Sum.inr (Sum.inr E)), X) => th E X
  | _ => none
theorem gCvt_el {ρ : Type} {F : Option (gR × gX)} {th : String → gX → Option ρ} {k : gX → Option ρ} {o : ρ} (h : gCvt F th k = some o) : (∃ X, F = some (gR.v, X) ∧ k X = some o) ∨ ∃ E X, F = some (gR.t E, X) ∧ th E X = some o := by
  unfold gCvt at h
  split at h
  · exact Or.inl ⟨_, rfl, h⟩
  · exact Or.inr ⟨_, _, rfl, h⟩
  · cases h
def gCat {ρ : Type} (F : Option (gR × gX)) (th : String → gX → Option ρ) (k : Option Nat → gX → Option ρ) : Option ρ := match F with
  | some (Sum.inr (Sum.inr (Sum.inl x)), X) => k x X
  | some (Sum.inr (Sum.inr (Sum.inr E)), X) => th E X
  | _ => none
theorem gCat_el {ρ : Type} {F : Option (gR × gX)} {th : String → gX → Option ρ} {k : Option Nat → gX → Option ρ} {o : ρ} (h : gCat F th k = some o) : (∃ x X, F = some (gR.a x, X) ∧ k x X = some o) ∨ ∃ E X, F = some (gR.t E, X) ∧ th E X = some o := by
  unfold gCat at h
  split at h
  · exact Or.inl ⟨_, _, rfl, h⟩
  · exact Or.inr ⟨_, _, rfl, h⟩
  · cases h
/-- an exception was made or none -/
def gT (r : gR) : Nat := match r with
  | Sum.inr (Sum.inr (Sum.inr _)) => 1
  | _ => 0
/-- a reference that must lead somewhere -/
def gM {ρ : Type} (x : Option Nat) (k : Nat → Option ρ) : Option ρ := match x with
  | some n => k n
  | none => none
theorem gM_el {ρ : Type} {x : Option Nat} {k : Nat → Option ρ} {o : ρ} (h : gM x k = some o) : ∃ n, x = some n ∧ k n = some o := by
  cases x with
  | none => cases h
  | some n => exact ⟨n, rfl, h⟩
/-- a reference that leads to a file, or nowhere -/
def gOf (N : Nat) : Option Nat → Bool
  | none => true
  | some n => gFile N n
def gOm : Option Nat → Bool
  | none => true
  | some n => gMer n
def gOr : Option Nat → Bool
  | none => false
  | some n => gRow n
theorem gRow.nm {N n : Nat} (h : gRow n = true) : gNm N n := by
  unfold gRow at h
  simp only [decide_eq_true_eq, List.mem_cons, List.mem_nil_iff, or_false] at h
  unfold gNm
  omega
def gO {ρ : Type} (x : Option Nat) (A : Option ρ) (k : Nat → Option ρ) : Option ρ := match x with
  | none => A
  | some n => k n
theorem gO_el {ρ : Type} {x : Option Nat} {A : Option ρ} {k : Nat → Option ρ} {o : ρ} (h : gO x A k = some o) : (x = none ∧ A = some o) ∨ ∃ n, x = some n ∧ k n = some o := by
  cases x with
  | none => exact Or.inl ⟨rfl, h⟩
  | some n => exact Or.inr ⟨n, rfl, h⟩
theorem va_up_map {g : Nat → Option Nat} {b : Nat → Nat} {j : Nat} {x : Option Nat} : va_up (fun i => (g i).map b) j (x.map b) = fun i => (va_up g j x i).map b := by
  funext i
  by_cases q : i = j
  · rw [q, va_up_self, va_up_self]
  · rw [va_up_ne _ _ q, va_up_ne _ _ q]
theorem va_rf_nar {C : String} {x : Option Nat} : narrow (.object C) (va_rf x) = va_rf x := by cases x <;> rfl
theorem va_rf_fit {C : String} {x : Option Nat} : fits (.object C) (va_rf x) = true := by cases x <;> rfl
theorem gx_asg {vm : Vm} {c : ClassId} : vm.assignable c c = true := by
  unfold Vm.assignable
  show (c == c || _) = true
  rw [beq_self_eq_true, Bool.true_or]
section GYR
variable {p : Program} {l : Launch} {e : Env} {R : Room} {s : State} {m : MethodId} {args : Array Value} {below : List Frame} {meth : Method} {c : Code} {H : Heap} {locs : List Loc} {cells slots : Nat} {Q : State → Prop} {cc : ByteArray}
variable {D : va_G} {tys : List (ClassId × FieldType)} {A : Nat → Prop} {pc : Nat} {ls : Array Slot} {rest st0 : List Value} {H0 : Heap} {n0 : Nat}
variable {t : Nat → ClassId} {b : Nat → Nat} {X0 X : gX} {ρ : Type} {o : ρ}
theorem gy_get (hx : p.tables.exec = Jvm.exec) (hb : c.code = cc) {own C : String} {T : u_T} {N ci index : Nat} (hts : ∀ w ∈ gx_all, w.before args s = true) (hin : ∀ w ∈ u_ws C T N, w ∈ gx_all) (hown : s.vm.findClass own = some m.cls) (hK : va_K D classes tys s) (Y : gy D t b A H0 X0 X H locs) {fs : List Value} (he : gF D t b n0 (X.I n0) (X.G n0) X.L X.N = some (Sum.inr (ci, fs))) (hc : classes[ci]? = some (C, T, N)) (k : Nat) (hk : k < N) (hlink : Cond.fieldLink own index (T k).1 (T k).2.1 (T k).2.2.1 ∈ gx_all) {v : Value} (hv : fs[k]? = some v) (hdg : decode cc pc = .ok (.getfield index, 3))
    (kk : W p l e R s m args below meth c H locs cells slots Q (F0 m (pc + 3) ls (v :: rest))) : W p l e R s m args below meth c H locs cells slots Q (F0 m pc ls (Value.ref (b n0) :: rest)) := by
  obtain ⟨h, Z, hw, -⟩ := Y
  exact gz_get hx hb hts hin hown hK Z (hw.1 _ _ he) hc k hk hlink hv hdg kk
theorem gy_put {f : gX → Option ρ} {k : Nat} {v : Int32} (hf : gB (X.w n0 k v) f = some o) (hx : p.tables.exec = Jvm.exec) (hb : c.code = cc) {own C : String} {T : u_T} {N ci index : Nat} (hts : ∀ w ∈ gx_all, w.before args s = true) (hin : ∀ w ∈ u_ws C T N, w ∈ gx_all) {ty0 : Nat → FieldType} (hty : ∀ k, k < N → parseFieldDescriptor (T k).2.2.1 = some (ty0 k)) (hnm : ∀ a, a < N → ∀ b, b < N → a ≠ b → (T a).2.1 ≠ (T b).2.1) (hown : s.vm.findClass own = some m.cls) (hK : va_K D classes tys s) (Y : gy D t b A H0 X0 X H locs) {fs : List Value} (he : gF D t b n0 (X.I n0) (X.G n0) X.L X.N = some (Sum.inr (ci, fs))) (hc : classes[ci]? = some (C, T, N)) (hk : k < N) (hlink : Cond.fieldLink own index (T k).1 (T k).2.1 (T k).2.2.1 ∈ gx_all) (hfin : (T k).2.2.2 = false) {ty : FieldType} (hd : parseFieldDescriptor (T k).2.2.1 = some ty) (hn : narrow ty (.int v) = .int v) (hfit : fits ty (.int v) = true) (hl : k < fs.length) (he' : gF D t b n0 (upd (X.I n0) k v) (X.G n0) X.L X.N = some (Sum.inr (ci, fs.set k (Value.int v)))) (hdg : decode cc pc = .ok (.putfield index, 3))
    (kk : ∀ (X1 : gX) (H1 : Heap) (locs1 : List Loc), f X1 = some o → gy D t b A H0 X0 X1 H1 locs1 → W p l e R s m args below meth c H1 locs1 cells slots Q (F0 m (pc + 3) ls rest)) : W p l e R s m args below meth c H locs cells slots Q (F0 m pc ls (Value.int v :: Value.ref (b n0) :: rest)) := by
  obtain ⟨h, Z, hw, hE⟩ := Y
  exact gz_put hx hb hts hin hty hnm hown hK Z (hw.1 _ _ he) hc k hk hlink hfin hd hn hfit hl hdg (fun H1 locs1 Z1 => kk _ H1 locs1 hf ⟨_, Z1, hw.put he', hE.w⟩)
theorem gy_iald {K : Option ρ} {i : Int32} {n : Nat} (hf : (if gIn i n then K else none) = some o) (hx : p.tables.exec = Jvm.exec) (hb : c.code = cc) (hK : va_K D classes tys s) (Y : gy D t b A H0 X0 X H locs) (t0 : Nat) {cA : ClassId} (ha : ∀ r : Nat → Int32, gF D t b n0 r (X.G n0) X.L X.N = some (Sum.inl (cA, n, Sum.inl r))) (ht : tys[t0]? = some (cA, FieldType.int)) (hdg : decode cc pc = .ok (.iaload, 1))
    (kk : gIn i n = true → K = some o → W p l e R s m args below meth c H locs cells slots Q (F0 m (pc + 1) ls (Value.int (X.I n0 (gn i)) :: rest))) : W p l e R s m args below meth c H locs cells slots Q (F0 m pc ls (Value.int i :: Value.ref (b n0) :: rest)) := by
  obtain ⟨h, ⟨ws, h1, h2, h3, h4⟩, hw, hE⟩ := Y
  obtain ⟨hi, hf⟩ := gp_g hf
  obtain ⟨q0, hq⟩ := h1.1 _ _ (hw.1 _ _ (ha _))
  exact va_iald hx hb hK h2 q0 t0 hq ht (gIn.vp hi) hdg (kk hi hf)
theorem gy_zald {K : Option ρ} {i : Int32} {n : Nat} (hf : (if gIn i n then K else none) = some o) (hx : p.tables.exec = Jvm.exec) (hb : c.code = cc) (hK : va_K D classes tys s) (Y : gy D t b A H0 X0 X H locs) (t0 : Nat) {cA : ClassId} (ha : ∀ r : Nat → Int32, gF D t b n0 r (X.G n0) X.L X.N = some (Sum.inl (cA, n, Sum.inl r))) (ht : tys[t0]? = some (cA, FieldType.boolean)) (hdg : decode cc pc = .ok (.baload, 1))
    (kk : gIn i n = true → K = some o → W p l e R s m args below meth c H locs cells slots Q (F0 m (pc + 1) ls (Value.int (X.I n0 (gn i)) :: rest))) : W p l e R s m args below meth c H locs cells slots Q (F0 m pc ls (Value.int i :: Value.ref (b n0) :: rest)) := by
  obtain ⟨h, ⟨ws, h1, h2, h3, h4⟩, hw, hE⟩ := Y
  obtain ⟨hi, hf⟩ := gp_g hf
  obtain ⟨q0, hq⟩ := h1.1 _ _ (hw.1 _ _ (ha _))
  exact va_zald hx hb hK h2 q0 t0 hq ht (gIn.vp hi) hdg (kk hi hf)
theorem gy_iast {f : gX → Option ρ} {i x : Int32} {n : Nat} (hf : (if gIn i n then gB (X.w n0 (gn i) x) f else none) = some o) (hx : p.tables.exec = Jvm.exec) (hb : c.code = cc) (hK : va_K D classes tys s) (Y : gy D t b A H0 X0 X H locs) (t0 : Nat) {cA : ClassId} (ha : ∀ r : Nat → Int32, gF D t b n0 r (X.G n0) X.L X.N = some (Sum.inl (cA, n, Sum.inl r))) (ht : tys[t0]? = some (cA, FieldType.int)) (hdg : decode cc pc = .ok (.iastore, 1))
    (kk : ∀ (X1 : gX) (H1 : Heap) (locs1 : List Loc), f X1 = some o → gy D t b A H0 X0 X1 H1 locs1 → W p l e R s m args below meth c H1 locs1 cells slots Q (F0 m (pc + 1) ls rest)) : W p l e R s m args below meth c H locs cells slots Q (F0 m pc ls (Value.int x :: Value.int i :: Value.ref (b n0) :: rest)) := by
  obtain ⟨h, ⟨ws, h1, h2, h3, h4⟩, hw, hE⟩ := Y
  obtain ⟨hi, hf⟩ := gp_g hf
  have ha0 := hw.1 _ _ (ha (X.I n0))
  obtain ⟨q0, hq⟩ := h1.1 _ _ ha0
  exact va_iast hx hb hK h2 h3 h4 q0 t0 hq ht (gIn.vp hi) hdg (fun H1 locs1 a1 a2 a3 => kk _ H1 locs1 hf ⟨_, ⟨_, h1.set ha0 hq, a1, a2, a3⟩, hw.put (ha _), hE.w⟩)
theorem gy_zast {f : gX → Option ρ} {i x : Int32} {n : Nat} (hf : (if gIn i n then gB (X.w n0 (gn i) (vp_nar .boolean x)) f else none) = some o) (hx : p.tables.exec = Jvm.exec) (hb : c.code = cc) (hK : va_K D classes tys s) (Y : gy D t b A H0 X0 X H locs) (t0 : Nat) {cA : ClassId} (ha : ∀ r : Nat → Int32, gF D t b n0 r (X.G n0) X.L X.N = some (Sum.inl (cA, n, Sum.inl r))) (ht : tys[t0]? = some (cA, FieldType.boolean)) (hdg : decode cc pc = .ok (.bastore, 1))
    (kk : ∀ (X1 : gX) (H1 : Heap) (locs1 : List Loc), f X1 = some o → gy D t b A H0 X0 X1 H1 locs1 → W p l e R s m args below meth c H1 locs1 cells slots Q (F0 m (pc + 1) ls rest)) : W p l e R s m args below meth c H locs cells slots Q (F0 m pc ls (Value.int x :: Value.int i :: Value.ref (b n0) :: rest)) := by
  obtain ⟨h, ⟨ws, h1, h2, h3, h4⟩, hw, hE⟩ := Y
  obtain ⟨hi, hf⟩ := gp_g hf
  have ha0 := hw.1 _ _ (ha (X.I n0))
  obtain ⟨q0, hq⟩ := h1.1 _ _ ha0
  exact va_zast hx hb hK h2 h3 h4 q0 t0 hq ht (gIn.vp hi) hdg (fun H1 locs1 a1 a2 a3 => kk _ H1 locs1 hf ⟨_, ⟨_, h1.set ha0 hq, a1, a2, a3⟩, hw.put (ha _), hE.w⟩)
/-- a row of four things that never change -/
theorem gy_aalR {K : Option ρ} {i : Int32} {C : String} {n1 d1 : Nat} (hf : (if gIn i 4 then K else none) = some o) (hx : p.tables.exec = Jvm.exec) (hb : c.code = cc) (hK : va_K D classes tys s) (Y : gy D t b A H0 X0 X H locs) (t0 : Nat) {cA : ClassId} (ha : gF D t b n0 (X.I n0) (X.G n0) X.L X.N = some (Sum.inl (cA, 4, Sum.inr (Sum.inr (Sum.inr (Sum.inr (fun i => (gRd n1 d1 i).map b))))))) (ht : tys[t0]? = some (cA, FieldType.object C)) (hdg : decode cc pc = .ok (.aaload, 1))
    (kk : gn i < 4 → K = some o → W p l e R s m args below meth c H locs cells slots Q (F0 m (pc + 1) ls (Value.ref (b (n1 + d1 * gn i)) :: rest))) : W p l e R s m args below meth c H locs cells slots Q (F0 m pc ls (Value.int i :: Value.ref (b n0) :: rest)) := by
  obtain ⟨h, ⟨ws, h1, h2, h3, h4⟩, hw, hE⟩ := Y
  obtain ⟨hi, hf⟩ := gp_g hf
  have hi4 : gn i < 4 := Nat.lt_of_not_le (fun q => (gIn.vp hi) (Or.inr q))
  obtain ⟨q0, hq⟩ := h1.1 _ _ (hw.1 _ _ ha)
  refine va_aldq hx hb hK h2 q0 t0 hq ht (gIn.vp hi) hdg ?_
  have e9 : va_rf ((gRd n1 d1 (gn i)).map b) = Value.ref (b (n1 + d1 * gn i)) := by
    unfold gRd
    rw [if_pos hi4]
    rfl
  show W p l e R s m args below meth c H locs cells slots Q (F0 m (pc + 1) ls (va_rf ((gRd n1 d1 (gn i)).map b) :: rest))
  rw [e9]
  exact kk hi4 hf
theorem gy_alen (hx : p.tables.exec = Jvm.exec) (hb : c.code = cc) (hK : va_K D classes tys s) (Y : gy D t b A H0 X0 X H locs) (t0 : Nat) {cA : ClassId} {x : vp_A} (ha : gF D t b n0 (X.I n0) (X.G n0) X.L X.N = some (Sum.inl (cA, x))) {ty : FieldType} (ht : tys[t0]? = some (cA, ty)) {v : Int32} (hv : Int32.ofNat x.1 = v) (hdg : decode cc pc = .ok (.arraylength, 1))
    (kk : W p l e R s m args below meth c H locs cells slots Q (F0 m (pc + 1) ls (Value.int v :: rest))) : W p l e R s m args below meth c H locs cells slots Q (F0 m pc ls (Value.ref (b n0) :: rest)) := by
  obtain ⟨h, Z, hw, -⟩ := Y
  exact gz_alen hx hb hK Z t0 (hw.1 _ _ ha) ht hv hdg kk
theorem gy_aald {K : Option ρ} {i : Int32} {n : Nat} {C : String} (hf : (if gIn i n then K else none) = some o) (hx : p.tables.exec = Jvm.exec) (hb : c.code = cc) (hK : va_K D classes tys s) (Y : gy D t b A H0 X0 X H locs) (t0 : Nat) {cA : ClassId} (ha : gF D t b n0 (X.I n0) (X.G n0) X.L X.N = some (Sum.inl (cA, n, Sum.inr (Sum.inr (Sum.inr (Sum.inr (fun i => (X.G n0 i).map b))))))) (ht : tys[t0]? = some (cA, FieldType.object C)) (hdg : decode cc pc = .ok (.aaload, 1))
    (kk : K = some o → W p l e R s m args below meth c H locs cells slots Q (F0 m (pc + 1) ls (va_rf ((X.G n0 (gn i)).map b) :: rest))) : W p l e R s m args below meth c H locs cells slots Q (F0 m pc ls (Value.int i :: Value.ref (b n0) :: rest)) := by
  obtain ⟨h, ⟨ws, h1, h2, h3, h4⟩, hw, hE⟩ := Y
  obtain ⟨hi, hf⟩ := gp_g hf
  obtain ⟨q0, hq⟩ := h1.1 _ _ (hw.1 _ _ ha)
  exact va_aldq hx hb hK h2 q0 t0 hq ht (gIn.vp hi) hdg (kk hf)
theorem gy_aast {f : gX → Option ρ} {i : Int32} {x : Option Nat} {n : Nat} {r : vw_C} {G : Bool} (hf : (if gIn i n then (if G then gB (X.g n0 (gn i) x) f else none) else none) = some o) (hx : p.tables.exec = Jvm.exec) (hb : c.code = cc) (hK : va_K D classes tys s) (Y : gy D t b A H0 X0 X H locs) (t0 ci : Nat) {cA : ClassId} (ha : ∀ g : Nat → Option Nat, gF D t b n0 (X.I n0) g X.L X.N = some (Sum.inl (cA, n, Sum.inr (Sum.inr (Sum.inr (Sum.inr (fun i => (g i).map b))))))) (ht : tys[t0]? = some (cA, FieldType.object r.1)) (hv : G = true → ∀ v, x = some v → (∃ vs, gF D t b v (X.I v) (X.G v) X.L X.N = some (Sum.inr (ci, vs))) ∧ gNm X.N v) (hc : classes[ci]? = some r) (hdg : decode cc pc = .ok (.aastore, 1))
    (kk : ∀ (X1 : gX) (H1 : Heap) (locs1 : List Loc), f X1 = some o → gy D t b A H0 X0 X1 H1 locs1 → W p l e R s m args below meth c H1 locs1 cells slots Q (F0 m (pc + 1) ls rest)) : W p l e R s m args below meth c H locs cells slots Q (F0 m pc ls (va_rf (x.map b) :: Value.int i :: Value.ref (b n0) :: rest)) := by
  obtain ⟨h, ⟨ws, h1, h2, h3, h4⟩, hw, hE⟩ := Y
  obtain ⟨hi, hf⟩ := gp_g hf
  obtain ⟨hG, hf⟩ := gp_g hf
  have ha0 := hw.1 _ _ (ha (X.G n0))
  obtain ⟨q0, hq⟩ := h1.1 _ _ ha0
  have e9 := va_up_map (g := X.G n0) (b := b) (j := gn i) (x := x)
  cases x with
  | some v =>
    obtain ⟨⟨vs, h9⟩, hm9⟩ := hv hG v rfl
    obtain ⟨q1, hq1⟩ := h1.1 _ _ (hw.1 _ _ h9)
    refine va_astq hx hb hK h2 h3 h4 q0 t0 q1 ci hq ht hq1 hc (gIn.vp hi) hdg (fun H1 locs1 a1 a2 a3 => ?_)
    have e8 : va_up (fun i => (X.G n0 i).map b) (gn i) (some (b v)) = fun j => (va_up (X.G n0) (gn i) (some v) j).map b := e9
    rw [e8] at a1 a2
    exact kk _ H1 locs1 hf ⟨_, ⟨_, h1.set ha0 hq, a1, a2, a3⟩, hw.putG (fun m e7 => by cases e7; exact hm9) (ha _), hE.g⟩
  | none =>
    refine va_astqN hx hb hK h2 h3 h4 q0 t0 hq ht (gIn.vp hi) hdg (fun H1 locs1 a1 a2 a3 => ?_)
    have e8 : va_up (fun i => (X.G n0 i).map b) (gn i) none = fun j => (va_up (X.G n0) (gn i) none j).map b := e9
    rw [e8] at a1 a2
    exact kk _ H1 locs1 hf ⟨_, ⟨_, h1.set ha0 hq, a1, a2, a3⟩, hw.putG (fun m e7 => by cases e7) (ha _), hE.g⟩
theorem gy_putR {f : gX → Option ρ} {k : Nat} {x : Option Nat} {C2 : String} (hf : (if gOk X.N x then gB (X.g n0 k x) f else none) = some o) (hx : p.tables.exec = Jvm.exec) (hb : c.code = cc) {own C : String} {T : u_T} {N ci index : Nat} (hts : ∀ w ∈ gx_all, w.before args s = true) (hin : ∀ w ∈ u_ws C T N, w ∈ gx_all) {ty0 : Nat → FieldType} (hty : ∀ k, k < N → parseFieldDescriptor (T k).2.2.1 = some (ty0 k)) (hnm : ∀ a, a < N → ∀ b, b < N → a ≠ b → (T a).2.1 ≠ (T b).2.1) (hown : s.vm.findClass own = some m.cls) (hK : va_K D classes tys s) (Y : gy D t b A H0 X0 X H locs) {fs : List Value} (he : gF D t b n0 (X.I n0) (X.G n0) X.L X.N = some (Sum.inr (ci, fs))) (hc : classes[ci]? = some (C, T, N)) (hk : k < N) (hlink : Cond.fieldLink own index (T k).1 (T k).2.1 (T k).2.2.1 ∈ gx_all) (hfin : (T k).2.2.2 = false) (hd : parseFieldDescriptor (T k).2.2.1 = some (.object C2)) (hl : k < fs.length) (he' : gF D t b n0 (X.I n0) (va_up (X.G n0) k x) X.L X.N = some (Sum.inr (ci, fs.set k (va_rf (x.map b))))) (hdg : decode cc pc = .ok (.putfield index, 3))
    (kk : ∀ (X1 : gX) (H1 : Heap) (locs1 : List Loc), f X1 = some o → gy D t b A H0 X0 X1 H1 locs1 → W p l e R s m args below meth c H1 locs1 cells slots Q (F0 m (pc + 3) ls rest)) : W p l e R s m args below meth c H locs cells slots Q (F0 m pc ls (va_rf (x.map b) :: Value.ref (b n0) :: rest)) := by
  obtain ⟨h, Z, hw, hE⟩ := Y
  obtain ⟨hG, hf⟩ := gp_g hf
  exact gz_put hx hb hts hin hty hnm hown hK Z (hw.1 _ _ he) hc k hk hlink hfin hd va_rf_nar va_rf_fit hl hdg (fun H1 locs1 Z1 => kk _ H1 locs1 hf ⟨_, Z1, hw.putG (gOk.of hG) he', hE.g⟩)
/-- the array of rows -/
theorem gy_aaldA {K : Option ρ} {i : Int32} (hf : (if gIn i 4 then K else none) = some o) (hx : p.tables.exec = Jvm.exec) (hb : c.code = cc) (hK : va_K D classes tys s) (Y : gy D t b A H0 X0 X H locs) (t0 : Nat) {cA : ClassId} (ha : gF D t b n0 (X.I n0) (X.G n0) X.L X.N = some (Sum.inl (cA, 4, Sum.inr (Sum.inr (Sum.inr (Sum.inr (fun i => (X.G n0 i).map b))))))) (ht : tys[t0]? = some (cA, FieldType.array .int)) (hdg : decode cc pc = .ok (.aaload, 1))
    (kk : K = some o → W p l e R s m args below meth c H locs cells slots Q (F0 m (pc + 1) ls (va_rf ((X.G n0 (gn i)).map b) :: rest))) : W p l e R s m args below meth c H locs cells slots Q (F0 m pc ls (Value.int i :: Value.ref (b n0) :: rest)) := by
  obtain ⟨h, ⟨ws, h1, h2, h3, h4⟩, hw, hE⟩ := Y
  obtain ⟨hi, hf⟩ := gp_g hf
  obtain ⟨q0, hq⟩ := h1.1 _ _ (hw.1 _ _ ha)
  have hlt : i.toNatClampNeg < 4 := Nat.not_le.mp fun q => (gIn.vp hi) (Or.inr q)
  exact W.aald (v := va_rf ((X.G n0 (gn i)).map b)) (ty := .array .int) hx hb (h2 q0 _ hq) ((hK.2 t0 _ ht).1 4 (fun j => va_rf ((X.G n0 j).map b))) rfl (fun q => by cases q) (by show ¬ (i < 0 ∨ (arrV _ _ _).slots.size ≤ _); rw [arrV_size]; exact (gIn.vp hi)) (by show (arrV _ _ _).slots[_]? = _; rw [arrV_read _ _ hlt]) rfl rfl hdg (kk hf)
theorem gy_aastA {f : gX → Option ρ} {i : Int32} {x : Option Nat} (hf : (if gIn i 4 then (if gOr x then gB (X.g n0 (gn i) x) f else none) else none) = some o) (hx : p.tables.exec = Jvm.exec) (hb : c.code = cc) (hts : ∀ w ∈ gx_all, w.before args s = true) (hK : va_K D classes tys s) (Y : gy D t b A H0 X0 X H locs) (ha : ∀ g : Nat → Option Nat, gF D t b n0 (X.I n0) g X.L X.N = some (Sum.inl (t 8, 4, Sum.inr (Sum.inr (Sum.inr (Sum.inr (fun i => (g i).map b))))))) (ht0 : tys[0]? = some ((t 0, FieldType.int) : ClassId × FieldType)) (ht8 : tys[8]? = some ((t 8, FieldType.array .int) : ClassId × FieldType)) (hdg : decode cc pc = .ok (.aastore, 1))
    (kk : ∀ (X1 : gX) (H1 : Heap) (locs1 : List Loc), f X1 = some o → gy D t b A H0 X0 X1 H1 locs1 → W p l e R s m args below meth c H1 locs1 cells slots Q (F0 m (pc + 1) ls rest)) : W p l e R s m args below meth c H locs cells slots Q (F0 m pc ls (va_rf (x.map b) :: Value.int i :: Value.ref (b n0) :: rest)) := by
  obtain ⟨h, ⟨ws, h1, h2, h3, h4⟩, hw, hE⟩ := Y
  obtain ⟨hi, hf⟩ := gp_g hf
  obtain ⟨hG, hf⟩ := gp_g hf
  have ha0 := hw.1 _ _ (ha (X.G n0))
  obtain ⟨q0, hq⟩ := h1.1 _ _ ha0
  have e9 := va_up_map (g := X.G n0) (b := b) (j := gn i) (x := x)
  cases x with
  | none => cases hG
  | some v =>
    obtain ⟨q1, hq1⟩ := h1.1 _ _ (hw.1 _ _ (gF_Ro hG))
    have hlt : i.toNatClampNeg < 4 := Nat.not_le.mp fun q => (gIn.vp hi) (Or.inr q)
    have h0 : ¬ i < 0 := fun q => (gIn.vp hi) (Or.inl q)
    obtain ⟨comp, cA, kA, f1, f2, f3, f4⟩ := gx_over (hts _ kO_ints)
    have e8 : s.vm.findClass "[[I" = some (t 8) := by
      have h8 : s.vm.findClass ("[" ++ (FieldType.array .int).toString) = some (t 8) := (hK.2 8 _ ht8).2
      rw [show "[" ++ (FieldType.array .int).toString = "[[I" by decide +kernel] at h8
      exact h8
    have e0 : s.vm.findClass "[I" = some (t 0) := by
      have h8 : s.vm.findClass ("[" ++ FieldType.int.toString) = some (t 0) := (hK.2 0 _ ht0).2
      rw [show "[" ++ FieldType.int.toString = "[I" by decide +kernel] at h8
      exact h8
    have ec : cA = t 8 := Option.some.inj (f4.symm.trans e8)
    have ep : comp = t 0 := Option.some.inj (f1.symm.trans e0)
    subst ec
    subst ep
    obtain ⟨-, kC, hkC, -⟩ := (hK.2 0 _ ht0).1 0 (fun _ => .null)
    refine W.aast hx hb (h2 q0 _ hq) (fun q h => by cases h) (fun h => by cases h) f2 f3 rfl hkC ⟨h0, by show _ < (arrV _ _ _).slots.size; rw [arrV_size]; exact hlt⟩ (h2 q1 _ hq1) (fun q h => by cases h) hkC gx_asg rfl rfl hdg fun H1 e z oq => ?_
    have a1 := h2.set h3 hq (e := Sum.inl (t 8, 4, Sum.inr (Sum.inr (Sum.inr (Sum.inr (va_up (fun i => (X.G n0 i).map b) (gn i) (some (b v)))))))) (by
      show H1[b n0]? = some (vp_cell _ _)
      rw [e]
      rw [vp_cell_q, vp_cell_q, arrV_store]
      congr 2
      funext q
      by_cases hq : q = i.toNatClampNeg
      · subst hq
        simp [updV, va_up, va_rf]
      · simp [updV, va_up, hq]) oq
    have a2 : va_D A (ws.set q0 (b n0, Sum.inl (t 8, 4, Sum.inr (Sum.inr (Sum.inr (Sum.inr (va_up (fun i => (X.G n0 i).map b) (gn i) (some (b v))))))))) := h3.set hq
    have e7 : va_up (fun i => (X.G n0 i).map b) (gn i) (some (b v)) = fun j => (va_up (X.G n0) (gn i) (some v) j).map b := e9
    rw [e7] at a1 a2
    exact kk _ H1 _ hf ⟨_, ⟨_, h1.set ha0 hq, a1, a2, h4.put z oq (h3.2 q0 _ hq)⟩, hw.putG (fun m e7 => by cases e7; exact gRow.nm hG) (ha _), hE.g⟩
/-- the law's array of one long -/
theorem gy_last {f : gX → Option ρ} {v : Int32} (hf : gB (X.w n0 0 v) f = some o) (hx : p.tables.exec = Jvm.exec) (hb : c.code = cc) (hK : va_K D classes tys s) (Y : gy D t b A H0 X0 X H locs) (ha : ∀ {r : Nat → Int32}, gF D t b n0 r (X.G n0) X.L X.N = some (Sum.inl (t 6, 1, Sum.inr (Sum.inl (fun i => if i = 0 then (r 0).toInt64 else 0))))) (ht : tys[6]? = some ((t 6, FieldType.long) : ClassId × FieldType)) (hdg : decode cc pc = .ok (.lastore, 1))
    (kk : ∀ (X1 : gX) (H1 : Heap) (locs1 : List Loc), f X1 = some o → gy D t b A H0 X0 X1 H1 locs1 → W p l e R s m args below meth c H1 locs1 cells slots Q (F0 m (pc + 1) ls rest)) : W p l e R s m args below meth c H locs cells slots Q (F0 m pc ls (Value.long v.toInt64 :: Value.int 0 :: Value.ref (b n0) :: rest)) := by
  obtain ⟨h, ⟨ws, h1, h2, h3, h4⟩, hw, hE⟩ := Y
  have ha0 := hw.1 _ _ (ha (r := X.I n0))
  obtain ⟨q0, hq⟩ := h1.1 _ _ ha0
  refine gx_last (j := 0) hx hb hK h2 h3 h4 q0 6 hq ht (gx_inl (by decide)) (by decide) hdg (fun H1 locs1 a1 a2 a3 => ?_)
  have e8 : vp_updL (fun i => if i = 0 then (X.I n0 0).toInt64 else 0) 0 v.toInt64 = fun i => if i = 0 then (upd (X.I n0) 0 v 0).toInt64 else 0 := by
    funext i
    by_cases q : i = 0
    · subst q
      simp [vp_updL, upd]
    · simp [vp_updL, q]
  rw [e8] at a1 a2
  exact kk _ H1 locs1 hf ⟨_, ⟨_, h1.set ha0 hq, a1, a2, a3⟩, hw.put ha, hE.w⟩
/-- an inherited field -/
theorem gy_getI (hx : p.tables.exec = Jvm.exec) (hb : c.code = cc) {own ref C : String} {T : u_T} {N ci index : Nat} (hts : ∀ w ∈ gx_all, w.before args s = true) (hin : ∀ w ∈ u_ws C T N, w ∈ gx_all) (hown : s.vm.findClass own = some m.cls) (hK : va_K D classes tys s) (Y : gy D t b A H0 X0 X H locs) {fs : List Value} (he : gF D t b n0 (X.I n0) (X.G n0) X.L X.N = some (Sum.inr (ci, fs))) (hc : classes[ci]? = some (C, T, N)) (k : Nat) (hk : k < N) (hlink : Cond.fieldLink own index ref (T k).2.1 (T k).2.2.1 ∈ gx_all) (hsf : Cond.sameField ref (T k).1 (T k).2.1 (T k).2.2.1 ∈ gx_all) {v : Value} (hv : fs[k]? = some v) (hdg : decode cc pc = .ok (.getfield index, 3))
    (kk : W p l e R s m args below meth c H locs cells slots Q (F0 m (pc + 3) ls (v :: rest))) : W p l e R s m args below meth c H locs cells slots Q (F0 m pc ls (Value.ref (b n0) :: rest)) := by
  obtain ⟨h, ⟨ws, h1, h2, h3, h4⟩, hw, -⟩ := Y
  obtain ⟨q0, hq⟩ := h1.1 _ _ (hw.1 _ _ he)
  exact va_get hx hb hts hin hown hK h2 q0 hq hc k hk (hts _ hlink) (fun x h9 => u_same (hts _ hsf) x h9) hv hdg kk
theorem gy_putI {f : gX → Option ρ} {k : Nat} {v : Int32} (hf : gB (X.w n0 k v) f = some o) (hx : p.tables.exec = Jvm.exec) (hb : c.code = cc) {own ref C : String} {T : u_T} {N ci index : Nat} (hts : ∀ w ∈ gx_all, w.before args s = true) (hin : ∀ w ∈ u_ws C T N, w ∈ gx_all) {ty0 : Nat → FieldType} (hty : ∀ k, k < N → parseFieldDescriptor (T k).2.2.1 = some (ty0 k)) (hnm : ∀ a, a < N → ∀ b, b < N → a ≠ b → (T a).2.1 ≠ (T b).2.1) (hown : s.vm.findClass own = some m.cls) (hK : va_K D classes tys s) (Y : gy D t b A H0 X0 X H locs) {fs : List Value} (he : gF D t b n0 (X.I n0) (X.G n0) X.L X.N = some (Sum.inr (ci, fs))) (hc : classes[ci]? = some (C, T, N)) (hk : k < N) (hlink : Cond.fieldLink own index ref (T k).2.1 (T k).2.2.1 ∈ gx_all) (hsf : Cond.sameField ref (T k).1 (T k).2.1 (T k).2.2.1 ∈ gx_all) (hfin : (T k).2.2.2 = false) {ty : FieldType} (hd : parseFieldDescriptor (T k).2.2.1 = some ty) (hn : narrow ty (.int v) = .int v) (hfit : fits ty (.int v) = true) (hl : k < fs.length) (he' : gF D t b n0 (upd (X.I n0) k v) (X.G n0) X.L X.N = some (Sum.inr (ci, fs.set k (Value.int v)))) (hdg : decode cc pc = .ok (.putfield index, 3))
    (kk : ∀ (X1 : gX) (H1 : Heap) (locs1 : List Loc), f X1 = some o → gy D t b A H0 X0 X1 H1 locs1 → W p l e R s m args below meth c H1 locs1 cells slots Q (F0 m (pc + 3) ls rest)) : W p l e R s m args below meth c H locs cells slots Q (F0 m pc ls (Value.int v :: Value.ref (b n0) :: rest)) := by
  obtain ⟨h, ⟨ws, h1, h2, h3, h4⟩, hw, hE⟩ := Y
  have he0 := hw.1 _ _ he
  obtain ⟨q0, hq⟩ := h1.1 _ _ he0
  exact va_put hx hb hts hin ty0 hty hnm hown hK h2 h3 h4 q0 hq hc k hk (hts _ hlink) (fun x h9 => u_same (hts _ hsf) x h9) hfin hd hn hfit hl hdg (fun H1 locs1 a1 a2 a3 => kk _ H1 locs1 hf ⟨_, ⟨_, h1.set he0 hq, a1, a2, a3⟩, hw.put he', hE.w⟩)
/-- a file is stored in an array of objects -/
theorem gy_aastL {f : gX → Option ρ} {i : Int32} {x : Option Nat} {n : Nat} (hf : (if gIn i n then (if gOf X.N x then gB (X.g n0 (gn i) x) f else none) else none) = some o) (hx : p.tables.exec = Jvm.exec) (hb : c.code = cc) (hts : ∀ w ∈ gx_all, w.before args s = true) (hK : va_K D classes tys s) (Y : gy D t b A H0 X0 X H locs) (t0 : Nat) {cA : ClassId} (ha : ∀ g : Nat → Option Nat, gF D t b n0 (X.I n0) g X.L X.N = some (Sum.inl (cA, n, Sum.inr (Sum.inr (Sum.inr (Sum.inr (fun i => (g i).map b))))))) (ht : tys[t0]? = some (cA, FieldType.object "java/lang/Object")) (hdg : decode cc pc = .ok (.aastore, 1))
    (kk : ∀ (X1 : gX) (H1 : Heap) (locs1 : List Loc), f X1 = some o → gy D t b A H0 X0 X1 H1 locs1 → W p l e R s m args below meth c H1 locs1 cells slots Q (F0 m (pc + 1) ls rest)) : W p l e R s m args below meth c H locs cells slots Q (F0 m pc ls (va_rf (x.map b) :: Value.int i :: Value.ref (b n0) :: rest)) := by
  obtain ⟨h, ⟨ws, h1, h2, h3, h4⟩, hw, hE⟩ := Y
  obtain ⟨hi, hf⟩ := gp_g hf
  obtain ⟨hG, hf⟩ := gp_g hf
  have ha0 := hw.1 _ _ (ha (X.G n0))
  obtain ⟨q0, hq⟩ := h1.1 _ _ ha0
  have e9 := va_up_map (g := X.G n0) (b := b) (j := gn i) (x := x)
  cases x with
  | some v =>
    obtain ⟨q1, hq1⟩ := h1.1 _ _ (hw.1 _ _ (gF_Fi hG))
    refine va_astqO (r := ("CommitLedger$LedgerFile", F_Fi, 7)) hx hb hK h2 h3 h4 q0 t0 q1 7 hq ht (va_Nw.of rfl (hts _ kW_FiObject)) hq1 rfl (gIn.vp hi) hdg (fun H1 locs1 a1 a2 a3 => ?_)
    have e8 : va_up (fun i => (X.G n0 i).map b) (gn i) (some (b v)) = fun j => (va_up (X.G n0) (gn i) (some v) j).map b := e9
    rw [e8] at a1 a2
    exact kk _ H1 locs1 hf ⟨_, ⟨_, h1.set ha0 hq, a1, a2, a3⟩, hw.putG (fun m e7 => by cases e7; exact gFile.nm hG) (ha _), hE.g⟩
  | none =>
    refine va_astqN hx hb hK h2 h3 h4 q0 t0 hq ht (gIn.vp hi) hdg (fun H1 locs1 a1 a2 a3 => ?_)
    have e8 : va_up (fun i => (X.G n0 i).map b) (gn i) none = fun j => (va_up (X.G n0) (gn i) none j).map b := e9
    rw [e8] at a1 a2
    exact kk _ H1 locs1 hf ⟨_, ⟨_, h1.set ha0 hq, a1, a2, a3⟩, hw.putG (fun m e7 => by cases e7) (ha _), hE.g⟩
/-- names apart: two references are the same where their names are -/
theorem gy_inj (Y : gy D t b A H0 X0 X H locs) {x y : Option Nat} (hx : gOf X.N x = true) (hy : gOf X.N y = true) (e9 : x.map b = y.map b) : x = y := by
  obtain ⟨h, ⟨ws, h1, -⟩, hw, -⟩ := Y
  cases x with
  | none =>
    cases y with
    | none => rfl
    | some v => cases e9
  | some u =>
    cases y with
    | none => cases e9
    | some v => rw [h1.2 u v _ _ (hw.1 _ _ (gF_Fi hx)) (hw.1 _ _ (gF_Fi hy)) (Option.some.inj e9)]
theorem gy_acmpN {x y : Option Nat} {K1 K2 : Option ρ} (hf : (if (gOf X.N x && gOf X.N y) then (if x = y then K1 else K2) else none) = some o) (hx : p.tables.exec = Jvm.exec) (hb : c.code = cc) (Y : gy D t b A H0 X0 X H locs) {off : Int} {tgt : Nat} (hdg : decode cc pc = .ok (.if_acmp .ne off, 3)) (ht : (pc : Int) + off = (tgt : Int))
    (kt : K2 = some o → W p l e R s m args below meth c H locs cells slots Q (F0 m tgt ls rest)) (kf : K1 = some o → W p l e R s m args below meth c H locs cells slots Q (F0 m (pc + 3) ls rest)) : W p l e R s m args below meth c H locs cells slots Q (F0 m pc ls (va_rf (y.map b) :: va_rf (x.map b) :: rest)) := by
  obtain ⟨g0, hf⟩ := gp_g hf
  obtain ⟨g1, g2⟩ := Bool.and_eq_true_iff.mp g0
  exact lv_acmp_ne (rx := x.map b) (ry := y.map b) hx hb hdg ht (fun q => kt (gp_f (fun e9 => q (by rw [e9])) hf)) (fun q => kf (gp_t (gy_inj Y g1 g2 q) hf))
theorem gy_acmpE {x y : Option Nat} {K1 K2 : Option ρ} (hf : (if (gOf X.N x && gOf X.N y) then (if x = y then K1 else K2) else none) = some o) (hx : p.tables.exec = Jvm.exec) (hb : c.code = cc) (Y : gy D t b A H0 X0 X H locs) {off : Int} {tgt : Nat} (hdg : decode cc pc = .ok (.if_acmp .eq off, 3)) (ht : (pc : Int) + off = (tgt : Int))
    (kt : K1 = some o → W p l e R s m args below meth c H locs cells slots Q (F0 m tgt ls rest)) (kf : K2 = some o → W p l e R s m args below meth c H locs cells slots Q (F0 m (pc + 3) ls rest)) : W p l e R s m args below meth c H locs cells slots Q (F0 m pc ls (va_rf (y.map b) :: va_rf (x.map b) :: rest)) := by
  obtain ⟨g0, hf⟩ := gp_g hf
  obtain ⟨g1, g2⟩ := Bool.and_eq_true_iff.mp g0
  exact lv_acmp_eq (rx := x.map b) (ry := y.map b) hx hb hdg ht (fun q => kt (gp_t (gy_inj Y g1 g2 q) hf)) (fun q => kf (gp_f (fun e9 => q (by rw [e9])) hf))
/-- ends of a method -/
theorem gy_aretO {o : gR × gX} {mc ms : Nat} {x : Option Nat} {C : String} (hf : some ((gR.a x, X) : gR × gX) = some o) (hx : p.tables.exec = Jvm.exec) (hb : c.code = cc) (hr : meth.sig.returnType = some (.object C)) (hlocks : meth.locks = false) (hK : va_K D classes tys s) (Y : gy D t b A s.heap X0 X H locs) (h1 : cells ≤ mc) (h2 : slots ≤ ms) (hdg : decode cc pc = .ok (.areturn, 1)) : W p l e R s m args below meth c H locs cells slots (gx_MQ below (gx_Q D classes tys A (gPo D t b X0 o)) args s mc ms A) (F0 m pc ls [va_rf (x.map b)]) := by
  obtain ⟨h, ⟨ws9, hM9, hP9, hD9, hS9⟩, hw, hE⟩ := Y
  cases hf
  refine W.widen (k := mc) (n := ms) h1 h2 ?_
  exact gx_ret (W.aret (v := va_rf (x.map b)) hx hb hr (Or.inl ⟨_, rfl⟩) (by cases x with | none => exact Or.inl rfl | some v => exact Or.inr ⟨_, rfl⟩) (gx_post hP9 hK hD9 hS9 ⟨h, hM9, rfl, hw, hE⟩) hS9.2.2 hdg)
theorem gy_iret {o : gR × gX} {mc ms : Nat} {v : Int32} (hf : some ((gR.i v, X) : gR × gX) = some o) (hx : p.tables.exec = Jvm.exec) (hb : c.code = cc) (hr : meth.sig.returnType = some .int) (hlocks : meth.locks = false) (hK : va_K D classes tys s) (Y : gy D t b A s.heap X0 X H locs) (h1 : cells ≤ mc) (h2 : slots ≤ ms) (hdg : decode cc pc = .ok (.ireturn, 1)) : W p l e R s m args below meth c H locs cells slots (gx_MQ below (gx_Q D classes tys A (gPo D t b X0 o)) args s mc ms A) (F0 m pc ls [Value.int v]) := by
  obtain ⟨h, Z, hw, hE⟩ := Y
  cases hf
  exact gz_iret hx hb hr hlocks hK Z h1 h2 ⟨rfl, hw, hE⟩ hdg
theorem gy_zret {o : gR × gX} {mc ms : Nat} {v : Int32} (hf : some ((gR.i v, X) : gR × gX) = some o) (hx : p.tables.exec = Jvm.exec) (hb : c.code = cc) (hr : meth.sig.returnType = some .boolean) (hlocks : meth.locks = false) (hK : va_K D classes tys s) (Y : gy D t b A s.heap X0 X H locs) (h1 : cells ≤ mc) (h2 : slots ≤ ms) (hv : narrow .boolean (.int v) = .int v) (hdg : decode cc pc = .ok (.ireturn, 1)) : W p l e R s m args below meth c H locs cells slots (gx_MQ below (gx_Q D classes tys A (gPo D t b X0 o)) args s mc ms A) (F0 m pc ls [Value.int v]) := by
  obtain ⟨h, Z, hw, hE⟩ := Y
  cases hf
  exact gz_zret hx hb hr hlocks hK Z h1 h2 hv ⟨rfl, hw, hE⟩ hdg
theorem gy_vret {o : gR × gX} {mc ms : Nat} (hf : some ((gR.v, X) : gR × gX) = some o) (hx : p.tables.exec = Jvm.exec) (hb : c.code = cc) (hr : meth.sig.returnType = none) (hlocks : meth.locks = false) (hK : va_K D classes tys s) (Y : gy D t b A s.heap X0 X H locs) (h1 : cells ≤ mc) (h2 : slots ≤ ms) (hdg : decode cc pc = .ok (.return_, 1)) : W p l e R s m args below meth c H locs cells slots (gx_MQ below (gx_Q D classes tys A (gPo D t b X0 o)) args s mc ms A) (F0 m pc ls []) := by
  obtain ⟨h, Z, hw, hE⟩ := Y
  cases hf
  exact gz_vret hx hb hr hlocks hK Z h1 h2 ⟨rfl, hw, hE⟩ hdg
theorem gy_aret {o : gR × gX} {mc ms n1 : Nat} {C : String} (hf : some ((gR.a (some n1), X) : gR × gX) = some o) (hx : p.tables.exec = Jvm.exec) (hb : c.code = cc) (hr : meth.sig.returnType = some (.object C)) (hlocks : meth.locks = false) (hK : va_K D classes tys s) (Y : gy D t b A s.heap X0 X H locs) (h1 : cells ≤ mc) (h2 : slots ≤ ms) (hdg : decode cc pc = .ok (.areturn, 1)) : W p l e R s m args below meth c H locs cells slots (gx_MQ below (gx_Q D classes tys A (gPo D t b X0 o)) args s mc ms A) (F0 m pc ls [Value.ref (b n1)]) := by
  obtain ⟨h, ⟨ws9, hM9, hP9, hD9, hS9⟩, hw, hE⟩ := Y
  cases hf
  refine W.widen (k := mc) (n := ms) h1 h2 ?_
  exact gx_ret (W.aret (v := Value.ref (b n1)) hx hb hr (Or.inl ⟨_, rfl⟩) (Or.inr ⟨_, rfl⟩) (gx_post hP9 hK hD9 hS9 ⟨h, hM9, rfl, hw, hE⟩) hS9.2.2 hdg)
/-- calls that come back -/
theorem gy_callI {x : Int32} {y : MethodName} {bytes : ByteArray} {maxL nL z : Nat} {ret : Option FieldType} {rm : Room} {av : List Value} {ig : Instr} {X1 : gX} (Y : gy D t b A s.heap X0 X H locs)
    (hM : ∀ (ws : va_W) (h : gm_M), gm_S h ws → gw D t b X h → gx_Met l y [Cond.code y bytes maxL ret] rm (gx_P z H.size D classes tys ws av) (gx_Q D classes tys (va_A ws H.size) (gPo D t b X (gR.i x, X1))) 0 0 (va_A ws H.size)) (hI : gx_inv p l e R s m args below meth c H locs cells slots y av.toArray (F0 m pc ls st0) rest) (cw : gx_W R s y bytes maxL ret rm 0 0) (hb : c.code = cc) (hml : c.maxLocals = nL)
    (hz : z ≤ s.heap.size) (hK : va_K D classes tys s) (hY : gx_Y z D s) (hAz : ∀ q : Nat, A q → z ≤ q) (hA : ∀ q : Nat, s.heap.size ≤ q → A q) (hsize : ls.size = nL) (hW : 2 * (F0 m pc ls st0).monitorRoom + (rest.map fun v => v.category).sum ≤ 8) (hdg : decode cc pc = .ok (ig, 3)) (hcr : cells + 0 ≤ R.cells ∧ slots + 0 ≤ R.slots)
    (kk : ∀ (H1 : Heap) (L : List Loc), gy D t b A s.heap X0 X1 H1 L → W p l e R s m args below meth c H1 L cells slots Q (F0 m (pc + 3) ls (Value.int x :: rest))) :
    W p l e R s m args below meth c H locs cells slots Q (F0 m pc ls st0) := by
  obtain ⟨h, Z, hw, hE⟩ := Y
  refine gz_call Z (fun ws hS => hM ws h hS hw) hI cw hb hml hz hK hY hAz hA hsize hW hdg hcr (fun v h1 H1 L hp Z1 => ?_) (fun x9 E ce h1 H1 L hp hce Z1 => ?_)
  · obtain ⟨e1, e2, e3⟩ := hp
    have e1 : (Sum.inl v : Option Value ⊕ String) = Sum.inl (some (Value.int x)) := e1
    cases e1
    exact kk H1 L ⟨h1, Z1, e2, hE.tr e3⟩
  · obtain ⟨e1, -, -⟩ := hp
    have e1 : (Sum.inr E : Option Value ⊕ String) = Sum.inl (some (Value.int x)) := e1
    cases e1
theorem gy_callV {y : MethodName} {bytes : ByteArray} {maxL nL z : Nat} {ret : Option FieldType} {rm : Room} {av : List Value} {ig : Instr} {X1 : gX} (Y : gy D t b A s.heap X0 X H locs)
    (hM : ∀ (ws : va_W) (h : gm_M), gm_S h ws → gw D t b X h → gx_Met l y [Cond.code y bytes maxL ret] rm (gx_P z H.size D classes tys ws av) (gx_Q D classes tys (va_A ws H.size) (gPo D t b X (gR.v, X1))) 0 0 (va_A ws H.size)) (hI : gx_inv p l e R s m args below meth c H locs cells slots y av.toArray (F0 m pc ls st0) rest) (cw : gx_W R s y bytes maxL ret rm 0 0) (hb : c.code = cc) (hml : c.maxLocals = nL)
    (hz : z ≤ s.heap.size) (hK : va_K D classes tys s) (hY : gx_Y z D s) (hAz : ∀ q : Nat, A q → z ≤ q) (hA : ∀ q : Nat, s.heap.size ≤ q → A q) (hsize : ls.size = nL) (hW : 2 * (F0 m pc ls st0).monitorRoom + (rest.map fun v => v.category).sum ≤ 8) (hdg : decode cc pc = .ok (ig, 3)) (hcr : cells + 0 ≤ R.cells ∧ slots + 0 ≤ R.slots)
    (kk : ∀ (H1 : Heap) (L : List Loc), gy D t b A s.heap X0 X1 H1 L → W p l e R s m args below meth c H1 L cells slots Q (F0 m (pc + 3) ls (rest))) :
    W p l e R s m args below meth c H locs cells slots Q (F0 m pc ls st0) := by
  obtain ⟨h, Z, hw, hE⟩ := Y
  refine gz_call Z (fun ws hS => hM ws h hS hw) hI cw hb hml hz hK hY hAz hA hsize hW hdg hcr (fun v h1 H1 L hp Z1 => ?_) (fun x9 E ce h1 H1 L hp hce Z1 => ?_)
  · obtain ⟨e1, e2, e3⟩ := hp
    have e1 : (Sum.inl v : Option Value ⊕ String) = Sum.inl none := e1
    cases e1
    exact kk H1 L ⟨h1, Z1, e2, hE.tr e3⟩
  · obtain ⟨e1, -, -⟩ := hp
    have e1 : (Sum.inr E : Option Value ⊕ String) = Sum.inl none := e1
    cases e1
theorem gy_callA {x : Option Nat} {y : MethodName} {bytes : ByteArray} {maxL nL z : Nat} {ret : Option FieldType} {rm : Room} {av : List Value} {ig : Instr} {X1 : gX} (Y : gy D t b A s.heap X0 X H locs)
    (hM : ∀ (ws : va_W) (h : gm_M), gm_S h ws → gw D t b X h → gx_Met l y [Cond.code y bytes maxL ret] rm (gx_P z H.size D classes tys ws av) (gx_Q D classes tys (va_A ws H.size) (gPo D t b X (gR.a x, X1))) 0 0 (va_A ws H.size)) (hI : gx_inv p l e R s m args below meth c H locs cells slots y av.toArray (F0 m pc ls st0) rest) (cw : gx_W R s y bytes maxL ret rm 0 0) (hb : c.code = cc) (hml : c.maxLocals = nL)
    (hz : z ≤ s.heap.size) (hK : va_K D classes tys s) (hY : gx_Y z D s) (hAz : ∀ q : Nat, A q → z ≤ q) (hA : ∀ q : Nat, s.heap.size ≤ q → A q) (hsize : ls.size = nL) (hW : 2 * (F0 m pc ls st0).monitorRoom + (rest.map fun v => v.category).sum ≤ 8) (hdg : decode cc pc = .ok (ig, 3)) (hcr : cells + 0 ≤ R.cells ∧ slots + 0 ≤ R.slots)
    (kk : ∀ (H1 : Heap) (L : List Loc), gy D t b A s.heap X0 X1 H1 L → W p l e R s m args below meth c H1 L cells slots Q (F0 m (pc + 3) ls (va_rf (x.map b) :: rest))) :
    W p l e R s m args below meth c H locs cells slots Q (F0 m pc ls st0) := by
  obtain ⟨h, Z, hw, hE⟩ := Y
  refine gz_call Z (fun ws hS => hM ws h hS hw) hI cw hb hml hz hK hY hAz hA hsize hW hdg hcr (fun v h1 H1 L hp Z1 => ?_) (fun x9 E ce h1 H1 L hp hce Z1 => ?_)
  · obtain ⟨e1, e2, e3⟩ := hp
    have e1 : (Sum.inl v : Option Value ⊕ String) = Sum.inl (some (va_rf (x.map b))) := e1
    cases e1
    exact kk H1 L ⟨h1, Z1, e2, hE.tr e3⟩
  · obtain ⟨e1, -, -⟩ := hp
    have e1 : (Sum.inr E : Option Value ⊕ String) = Sum.inl (some (va_rf (x.map b))) := e1
    cases e1
/-- a call that throws -/
theorem gy_callT {y : MethodName} {bytes : ByteArray} {maxL nL z : Nat} {ret : Option FieldType} {rm : Room} {av : List Value} {ig : Instr} {X1 : gX} {E : String} (Y : gy D t b A s.heap X0 X H locs)
    (hM : ∀ (ws : va_W) (h : gm_M), gm_S h ws → gw D t b X h → gx_Met l y [Cond.code y bytes maxL ret] rm (gx_P z H.size D classes tys ws av) (gx_Q D classes tys (va_A ws H.size) (gPo D t b X (gR.t E, X1))) 1 6 (va_A ws H.size)) (hI : gx_inv p l e R s m args below meth c H locs cells slots y av.toArray (F0 m pc ls st0) rest) (cw : gx_W R s y bytes maxL ret rm 1 6) (hb : c.code = cc) (hml : c.maxLocals = nL)
    (hz : z ≤ s.heap.size) (hK : va_K D classes tys s) (hY : gx_Y z D s) (hAz : ∀ q : Nat, A q → z ≤ q) (hA : ∀ q : Nat, s.heap.size ≤ q → A q) (hsize : ls.size = nL) (hW : 2 * (F0 m pc ls st0).monitorRoom + (rest.map fun v => v.category).sum ≤ 8) (hdg : decode cc pc = .ok (ig, 3)) (hcr : cells + 1 ≤ R.cells ∧ slots + 6 ≤ R.slots)
    (kt : ∀ (x : Nat) (ce : Cell) (H1 : Heap) (L : List Loc), (H1[x]? = some ce ∧ ce.vm = .none ∧ s.vm.findClass E = some ce.cls) → gy D t b A s.heap X0 X1 H1 L → gx_T p l e R s m args below meth c H1 L (cells + 1) (slots + 6) Q (F0 m pc ls rest) x) :
    W p l e R s m args below meth c H locs cells slots Q (F0 m pc ls st0) := by
  obtain ⟨h, Z, hw, hE⟩ := Y
  refine gz_call Z (fun ws hS => hM ws h hS hw) hI cw hb hml hz hK hY hAz hA hsize hW hdg hcr (fun v h1 H1 L hp Z1 => ?_) (fun x9 E9 ce h1 H1 L hp hce Z1 => ?_)
  · obtain ⟨e1, -, -⟩ := hp
    have e1 : (Sum.inl v : Option Value ⊕ String) = Sum.inr E := e1
    cases e1
  · obtain ⟨e1, e2, e3⟩ := hp
    have e1 : (Sum.inr E9 : Option Value ⊕ String) = Sum.inr E := e1
    cases e1
    exact kt x9 ce H1 L hce ⟨h1, Z1, e2, hE.tr e3⟩
theorem gy_pass {x mc ms : Nat} {st : List Value} {E : String} {ce : Cell} (hne : c.exceptionTable.isEmpty = true) (hlocks : meth.locks = false) (hce : H[x]? = some ce ∧ ce.vm = .none ∧ s.vm.findClass E = some ce.cls) (hK : va_K D classes tys s) (Y : gy D t b A s.heap X0 X H locs) (h1 : cells ≤ mc) (h2 : slots ≤ ms) : gx_T p l e R s m args below meth c H locs cells slots (gx_MQ below (gx_Q D classes tys A (gPo D t b X0 (gR.t E, X))) args s mc ms A) (F0 m pc ls st) x := by
  obtain ⟨h, Z, hw, hE⟩ := Y
  exact gz_pass hne hlocks hce hK Z h1 h2 ⟨rfl, hw, hE⟩
theorem gy_thr {own cls text : String} {ik is ic i1 mc ms : Nat} {b1 : ByteArray} (hx : p.tables.exec = Jvm.exec) (hb : c.code = cc) (htr : l.stackTraces = false) (hml : c.maxLocals = ls.size) (hown : s.vm.findClass own = some m.cls) (hts : ∀ w ∈ gx_all, w.before args s = true) (hne : c.exceptionTable.isEmpty = true) (hlocks : meth.locks = false) (hK : va_K D classes tys s) (Y : gy D t b A s.heap X0 X H locs) (hA : ∀ q : Nat, s.heap.size ≤ q → A q) (hN : gx_NS A s)
    (w1 : Cond.classLink own ik cls ∈ gx_all) (w2 : Cond.instantiable cls 6 ∈ gx_all) (w3 : Cond.initialized cls ∈ gx_all) (w4 : Cond.stringRef own is text ∈ gx_all) (w5 : ∀ w ∈ gx_ca own ic cls i1 b1, w ∈ gx_all) (hfit : Bundle.fit cls = true)
    (g0 : decode b1 0 = .ok (.aload_n 0, 1)) (g1 : decode b1 1 = .ok (.aload_n 1, 1)) (g2 : decode b1 2 = .ok (.invokespecial i1, 3)) (g5 : decode b1 5 = .ok (.return_, 1))
    (d0 : decode cc pc = .ok (.new ik, 3)) (d3 : decode cc (pc + 3) = .ok (.dup, 1)) (d4 : decode cc (pc + 4) = .ok (.ldc is, 2)) (d6 : decode cc (pc + 6) = .ok (.invokespecial ic, 3)) (d9 : decode cc (pc + 9) = .ok (.athrow, 1))
    (hf : 6 ≤ R.frames) (hl : 82 ≤ R.locals) (hc : cells + 1 ≤ R.cells) (hs : slots + 6 ≤ R.slots) (hc2 : cells + 1 ≤ mc) (hs2 : slots + 6 ≤ ms) :
    W p l e R s m args below meth c H locs cells slots (gx_MQ below (gx_Q D classes tys A (gPo D t b X0 (gR.t cls, X))) args s mc ms A) (F0 m pc ls []) := by
  obtain ⟨h, ⟨ws9, hM9, hP9, hD9, hS9⟩, hw, hE⟩ := Y
  exact gx_thr hx hb htr hml hown hts hne hlocks hP9 hK hD9 hS9 hA hN w1 w2 w3 w4 w5 hfit g0 g1 g2 g5 d0 d3 d4 d6 d9 hf hl hc hs hc2 hs2 ⟨h, hM9, rfl, hw, hE⟩
theorem gy_thrw {own cls text : String} {ik is ic i1 mc ms : Nat} {b1 : ByteArray} (hx : p.tables.exec = Jvm.exec) (hb : c.code = cc) (htr : l.stackTraces = false) (hml : c.maxLocals = ls.size) (hown : s.vm.findClass own = some m.cls) (hts : ∀ w ∈ gx_all, w.before args s = true) (hne : c.exceptionTable.isEmpty = true) (hlocks : meth.locks = false) (hK : va_K D classes tys s) (Y : gy D t b A s.heap X0 X H locs) (hA : ∀ q : Nat, s.heap.size ≤ q → A q) (hN : gx_NS A s)
    (w1 : Cond.classLink own ik cls ∈ gx_all) (w2 : Cond.instantiable cls 6 ∈ gx_all) (w3 : Cond.initialized cls ∈ gx_all) (w4 : Cond.stringRef own is text ∈ gx_all) (w5 : ∀ w ∈ gx_ca own ic cls i1 b1, w ∈ gx_all) (hfit : Bundle.fit cls = true)
    (g0 : decode b1 0 = .ok (.aload_n 0, 1)) (g1 : decode b1 1 = .ok (.aload_n 1, 1)) (g2 : decode b1 2 = .ok (.invokespecial i1, 3)) (g5 : decode b1 5 = .ok (.return_, 1))
    (d0 : decode cc pc = .ok (.new ik, 3)) (d3 : decode cc (pc + 3) = .ok (.dup, 1)) (d4 : decode cc (pc + 4) = .ok (.ldc_w is, 3)) (d6 : decode cc (pc + 7) = .ok (.invokespecial ic, 3)) (d9 : decode cc (pc + 10) = .ok (.athrow, 1))
    (hf : 6 ≤ R.frames) (hl : 82 ≤ R.locals) (hc : cells + 1 ≤ R.cells) (hs : slots + 6 ≤ R.slots) (hc2 : cells + 1 ≤ mc) (hs2 : slots + 6 ≤ ms) :
    W p l e R s m args below meth c H locs cells slots (gx_MQ below (gx_Q D classes tys A (gPo D t b X0 (gR.t cls, X))) args s mc ms A) (F0 m pc ls []) := by
  obtain ⟨h, ⟨ws9, hM9, hP9, hD9, hS9⟩, hw, hE⟩ := Y
  exact gx_thrw hx hb htr hml hown hts hne hlocks hP9 hK hD9 hS9 hA hN w1 w2 w3 w4 w5 hfit g0 g1 g2 g5 d0 d3 d4 d6 d9 hf hl hc hs hc2 hs2 ⟨h, hM9, rfl, hw, hE⟩
theorem gy_recv {ci : Nat} {q : vw_C} {fs : List Value} (hK : va_K D classes tys s) (Y : gy D t b A H0 X0 X H locs) (hc : classes[ci]? = some q) (he : gF D t b n0 (X.I n0) (X.G n0) X.L X.N = some (Sum.inr (ci, fs))) : ∃ cell : Cell, H[b n0]? = some cell ∧ cell.vm.isStatics = false ∧ s.vm.findClass q.1 = some cell.cls := by
  obtain ⟨h, Z, hw, -⟩ := Y
  exact gz_recv hK Z hc (hw.1 _ _ he)
/-- A LOOP turns as its program of numbers does -/
theorem gy_iter {σ : Type} {body : σ → Option (σ ⊕ ρ)} (f : σ → gX) (J : σ → Array Slot → Prop)
    (step : ∀ (x : σ) (u : σ ⊕ ρ) (H : Heap) (locs : List Loc) (ls : Array Slot), body x = some u → J x ls → gy D t b A s.heap X0 (f x) H locs → (∀ (y : σ) (H1 : Heap) (locs1 : List Loc) (ls1 : Array Slot), some (Sum.inl y : σ ⊕ ρ) = some u → J y ls1 → gy D t b A s.heap X0 (f y) H1 locs1 → W p l e R s m args below meth c H1 locs1 cells slots Q (F0 m pc ls1 [])) → (∀ r, u = Sum.inr r → r = o) → W p l e R s m args below meth c H locs cells slots Q (F0 m pc ls [])) :
    ∀ (k : Nat) (x : σ) (H : Heap) (locs : List Loc) (ls : Array Slot), gI body k x = some o → J x ls → gy D t b A s.heap X0 (f x) H locs → W p l e R s m args below meth c H locs cells slots Q (F0 m pc ls []) := by
  intro k
  induction k with
  | zero =>
    intro x H locs ls hf
    cases hf
  | succ k ih =>
    intro x H locs ls hf hJ Y
    cases hb9 : body x with
    | none => rw [gI_n hb9] at hf; cases hf
    | some u =>
      refine step x u H locs ls hb9 hJ Y (fun y H1 locs1 ls1 hu hJ1 Y1 => ?_) (fun r hu => ?_)
      · cases hu
        rw [gI_l hb9] at hf
        exact ih y H1 locs1 ls1 hf hJ1 Y1
      · subst hu
        rw [gI_r hb9] at hf
        exact Option.some.inj hf
/-- branches that join -/
theorem gy_cut {pcJ : Nat} {σ ρ : Type} (Y : gy D t b A s.heap X0 X H locs) (F : σ → Option ρ) (u : ρ) (f : σ → gX) (J : σ → Array Slot → Prop) (S9 : σ → List Value)
    (K : ∀ (x : σ) (H1 : Heap) (locs1 : List Loc) (ls1 : Array Slot), F x = some u → J x ls1 → gy D t b A s.heap X0 (f x) H1 locs1 → W p l e R s m args below meth c H1 locs1 cells slots Q (F0 m pcJ ls1 (S9 x)))
    (B : (∀ (x : σ) (H1 : Heap) (locs1 : List Loc) (ls1 : Array Slot), F x = some u → J x ls1 → gy D t b A s.heap X0 (f x) H1 locs1 → W p l e R s m args below meth c H1 locs1 cells slots Q (F0 m pcJ ls1 (S9 x))) → W p l e R s m args below meth c H locs cells slots Q (F0 m pc ls st0)) : W p l e R s m args below meth c H locs cells slots Q (F0 m pc ls st0) := B K
end GYR
section GXLF
variable {p : Program} {l : Launch} {e : Env} {R : Room} {s : State} {m : MethodId} {args : Array Value} {below : List Frame} {meth : Method} {c : Code} {H : Heap} {locs : List Loc} {cells slots : Nat} {Q : State → Prop} {cc : ByteArray} {pc : Nat} {ls : Array Slot} {rest : List Value}
theorem gx_lgt (hx : p.tables.exec = Jvm.exec) (hb : c.code = cc) {x y : Int64} {off : Int} {tgt : Nat} (d1 : decode cc pc = .ok (.lcmp, 1)) (d2 : decode cc (pc + 1) = .ok (.ifCond .gt off, 3)) (ht : ((pc + 1 : Nat) : Int) + off = (tgt : Int))
    (kt : x > y → W p l e R s m args below meth c H locs cells slots Q (F0 m tgt ls rest)) (kf : ¬ x > y → W p l e R s m args below meth c H locs cells slots Q (F0 m (pc + 1 + 3) ls rest)) : W p l e R s m args below meth c H locs cells slots Q (F0 m pc ls (.long y :: .long x :: rest)) := by
  by_cases h1 : x > y
  · exact gx_lcmpG hx hb h1 d1 (lv_if_gt (tgt := tgt) hx hb d2 ht (fun _ => kt h1) (fun c9 => absurd (by decide) c9))
  · by_cases h2 : x = y
    · subst h2
      exact gx_lcmpE hx hb d1 (lv_if_gt (tgt := tgt) hx hb d2 ht (fun c9 => absurd c9 (by decide)) (fun _ => kf h1))
    · exact gx_lcmpL hx hb h1 h2 d1 (lv_if_gt (tgt := tgt) hx hb d2 ht (fun c9 => absurd c9 (by decide)) (fun _ => kf h1))
end GXLF

