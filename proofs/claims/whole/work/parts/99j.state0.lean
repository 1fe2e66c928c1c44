/-! THE STATE AT THE LAW'S LOOP as numbers, and the law's end out of what its program of numbers answers; printed by an own text program, but for the first rows -/
def gx_r0 : Nat → Int32 := fun j => if j = 10 then 16 else if j = 11 then 4 else if j = 17 then -1 else 0
def gx_r46 : Nat → Int32 := fun j => if j = 13 then -1 else if j = 24 then 16 else if j = 25 then 4 else 0
def gx_u4 (a0 a1 a2 a3 : Nat) : Nat → Option Nat := va_up (va_up (va_up (va_up (fun _ => none) 0 (some a0)) 1 (some a1)) 2 (some a2)) 3 (some a3)
def X00 : gX := gX.of (fun a => if a = 0 then gx_r0 else if a = 46 then gx_r46 else fun _ => 0) (fun a => if a = 0 then (fun j => if j = 5 then some 12 else if j = 6 then some 16 else none) else if a = 20 then gx_u4 21 22 23 24 else if a = 121 then gx_u4 122 123 124 125 else fun _ => none) (fun _ => 0) 0 122 677754
def XZZ : gX := gX.of (fun _ _ => 0) (fun _ _ => none) (fun _ => 0) 0 0 0
def gx_T9 (cI cZ cF cM cR cV cJ cO cN : ClassId) : Nat → ClassId := fun i => ([cI, cZ, cF, cM, cR, cV, cJ, cO, cN] : List ClassId).getD i cI
def gx_b0 (qc qm : Nat → Nat) (q121 : Nat) : Nat → Nat := fun n => if n < 46 then qc n else if n < 80 then qm n else if n < 116 then qm (n + 5) else if n = 116 then q121 else if n < 126 then qm (n - 41) else 0
def gx_pi (n : Nat) : Nat := if n < 80 then n else if n ≤ 116 then n + 5 else n - 41
def gx_h0 (ws : va_W) : gm_M := fun n => if n ≤ 116 ∨ (121 ≤ n ∧ n ≤ 125) then ws[gx_pi n]? else none
theorem gx_h0S {A : Nat → Prop} {ws : va_W} (hD : va_D A ws) : gm_S (gx_h0 ws) ws := by
  have key : ∀ (n : Nat) (x : Nat × va_E), gx_h0 ws n = some x → (n ≤ 116 ∨ (121 ≤ n ∧ n ≤ 125)) ∧ ws[gx_pi n]? = some x := fun n x h => by
    unfold gx_h0 at h
    by_cases c : n ≤ 116 ∨ (121 ≤ n ∧ n ≤ 125)
    · rw [if_pos c] at h
      exact ⟨c, h⟩
    · rw [if_neg c] at h
      cases h
  refine ⟨fun n x h => ⟨_, (key n x h).2⟩, fun n n' x x' h h' e9 => ?_⟩
  obtain ⟨c1, k1⟩ := key n x h
  obtain ⟨c2, k2⟩ := key n' x' h'
  have h9 := hD.1 _ _ x x' k1 k2 e9
  unfold gx_pi at h9
  split at h9 <;> split at h9 <;> (try split at h9) <;> (try split at h9) <;> omega
theorem gx_u4m {b : Nat → Nat} {a0 a1 a2 a3 : Nat} : (fun i => (gx_u4 a0 a1 a2 a3 i).map b) = va_up (va_up (va_up (va_up (fun _ => none) 0 (some (b a0))) 1 (some (b a1))) 2 (some (b a2))) 3 (some (b a3)) := by
  unfold gx_u4
  rw [← va_up_map, ← va_up_map, ← va_up_map, ← va_up_map]
  rfl
theorem gx_u4e {a0 a1 a2 a3 i m : Nat} (h : gx_u4 a0 a1 a2 a3 i = some m) : m = a0 ∨ m = a1 ∨ m = a2 ∨ m = a3 := by
  unfold gx_u4 at h
  by_cases i3 : i = 3
  · rw [i3, va_up_self] at h
    cases h
    omega
  · rw [va_up_ne _ _ i3] at h
    by_cases i2 : i = 2
    · rw [i2, va_up_self] at h
      cases h
      omega
    · rw [va_up_ne _ _ i2] at h
      by_cases i1 : i = 1
      · rw [i1, va_up_self] at h
        cases h
        omega
      · rw [va_up_ne _ _ i1] at h
        by_cases i0 : i = 0
        · rw [i0, va_up_self] at h
          cases h
          omega
        · rw [va_up_ne _ _ i0] at h
          cases h
theorem gx_rdm {b : Nat → Nat} {n d : Nat} : (fun i => (gRd n d i).map b) = va_up (va_up (va_up (va_up (fun _ => none) 0 (some (b n))) 1 (some (b (n + d)))) 2 (some (b (n + d * 2)))) 3 (some (b (n + d * 3))) := by
  funext i
  unfold gRd
  by_cases i3 : i = 3
  · subst i3
    rfl
  · rw [va_up_ne _ _ i3]
    by_cases i2 : i = 2
    · subst i2
      rfl
    · rw [va_up_ne _ _ i2]
      by_cases i1 : i = 1
      · subst i1
        rw [if_pos (by omega), Nat.mul_one]
        rfl
      · rw [va_up_ne _ _ i1]
        by_cases i0 : i = 0
        · subst i0
          rfl
        · rw [va_up_ne _ _ i0, if_neg (by omega)]
          rfl
theorem gF_none {D : va_G} {t : Nat → ClassId} {b : Nat → Nat} {n : Nat} {r : Nat → Int32} {g : Nat → Option Nat} (h : 116 < n ∧ ¬ (121 ≤ n ∧ n ≤ 125)) : gF D t b n r g (fun _ => 0) 0 = none := by
  by_cases h1 : n ≤ 120
  · have hc : n = 117 ∨ n = 118 ∨ n = 119 ∨ n = 120 := by omega
    rcases hc with rfl | rfl | rfl | rfl <;> rfl
  · by_cases h2 : n = 129 ∨ n = 130 ∨ n = 131
    · rcases h2 with rfl | rfl | rfl <;> rfl
    · unfold gF
      repeat rw [if_neg (by omega)]
      exact if_neg (fun h => by
        have h3 := gFile.lo h
        have h4 := gFile.hi h
        omega)
theorem gx_o0 : (fun i => if i = 0 then ((fun _ => (0 : Int32)) 0).toInt64 else 0 : Nat → Int64) = fun _ => 0 := by
  funext i
  by_cases h : i = 0
  · rw [if_pos h]
    decide
  · rw [if_neg h]
set_option maxHeartbeats 8000000 in
set_option maxRecDepth 100000 in
theorem law_gw {D : va_G} {cI cZ cF cM cR cV cJ cO cN : ClassId} {qc qm : Nat → Nat} {q121 : Nat} {ws : va_W} (g_le0 : le_G0 D cI cZ cF cM cR qc ws) (g_le1 : le_G1 D cI cZ cF cM cR qc ws) (g_le2 : le_G2 D cI cZ cF cM cR qc ws) (g_mp0 : mp_G0 cI cZ cV cN qm ws) (g_mp1 : mp_G1 cI cZ cV cN qm ws) (g_mp2 : mp_G2 cI cZ cV cN qm ws) (g_mp3 : mp_G3 cI cZ cV cN qm ws) (g_mp4 : mp_G4 cI cZ cV cN qm ws) (f_121 : ws[121]? = some ((q121, Sum.inl (cJ, 1, Sum.inr (Sum.inl (fun _ => 0)))) : Nat × va_E)) : gw D (gx_T9 cI cZ cF cM cR cV cJ cO cN) (gx_b0 qc qm q121) X00 (gx_h0 ws) := by
  unfold le_G0 at g_le0
  obtain ⟨f_0, f_1, f_2, f_3, f_4, f_5, f_6, f_7, f_8, f_9, f_10, f_11, f_12, f_13, f_14, f_15⟩ := g_le0
  unfold le_G1 at g_le1
  obtain ⟨f_16, f_17, f_18, f_19, f_20, f_21, f_22, f_23, f_24, f_25, f_26, f_27, f_28, f_29, f_30, f_31⟩ := g_le1
  unfold le_G2 at g_le2
  obtain ⟨f_32, f_33, f_34, f_35, f_36, f_37, f_38, f_39, f_40, f_41, f_42, f_43, f_44, f_45⟩ := g_le2
  unfold mp_G0 at g_mp0
  obtain ⟨f_46, f_47, f_48, f_49, f_50, f_51, f_52, f_53, f_54, f_55, f_56, f_57, f_58, f_59, f_60, f_61⟩ := g_mp0
  unfold mp_G1 at g_mp1
  obtain ⟨f_62, f_63, f_64, f_65, f_66, f_67, f_68, f_69, f_70, f_71, f_72, f_73, f_74, f_75, f_76, f_77⟩ := g_mp1
  unfold mp_G2 at g_mp2
  obtain ⟨f_78, f_79, f_80, f_81, f_82, f_83, f_84, f_85, f_86, f_87, f_88, f_89, f_90, f_91, f_92, f_93⟩ := g_mp2
  unfold mp_G3 at g_mp3
  obtain ⟨f_94, f_95, f_96, f_97, f_98, f_99, f_100, f_101, f_102, f_103, f_104, f_105, f_106, f_107, f_108, f_109⟩ := g_mp3
  unfold mp_G4 at g_mp4
  obtain ⟨f_110, f_111, f_112, f_113, f_114, f_115, f_116, f_117, f_118, f_119, f_120⟩ := g_mp4
  refine ⟨fun n e he => ?_, fun n i m hm => ?_⟩
  · by_cases hg0 : 0 ≤ n ∧ n ≤ 12
    · have hc : n = 0 ∨ n = 1 ∨ n = 2 ∨ n = 3 ∨ n = 4 ∨ n = 5 ∨ n = 6 ∨ n = 7 ∨ n = 8 ∨ n = 9 ∨ n = 10 ∨ n = 11 ∨ n = 12 := by omega
      clear hg0
      rcases hc with rfl | rfl | rfl | rfl | rfl | rfl | rfl | rfl | rfl | rfl | rfl | rfl | rfl
      · rw [gF_0] at he
        cases he
        exact f_0
      · rw [gF_1] at he
        cases he
        exact f_1
      · rw [gF_2] at he
        cases he
        exact f_2
      · rw [gF_3] at he
        cases he
        exact f_3
      · rw [gF_4] at he
        cases he
        exact f_4
      · rw [gF_5] at he
        cases he
        exact f_5
      · rw [gF_6] at he
        cases he
        exact f_6
      · rw [gF_7] at he
        cases he
        exact f_7
      · rw [gF_8] at he
        cases he
        exact f_8
      · rw [gF_9] at he
        cases he
        exact f_9
      · rw [gF_10] at he
        cases he
        exact f_10
      · rw [gF_11] at he
        cases he
        exact f_11
      · rw [gF_12] at he
        cases he
        exact f_12
    by_cases hg1 : 13 ≤ n ∧ n ≤ 25
    · have hc : n = 13 ∨ n = 14 ∨ n = 15 ∨ n = 16 ∨ n = 17 ∨ n = 18 ∨ n = 19 ∨ n = 20 ∨ n = 21 ∨ n = 22 ∨ n = 23 ∨ n = 24 ∨ n = 25 := by omega
      clear hg1
      rcases hc with rfl | rfl | rfl | rfl | rfl | rfl | rfl | rfl | rfl | rfl | rfl | rfl | rfl
      · rw [gF_13] at he
        cases he
        exact f_13
      · rw [gF_14] at he
        cases he
        exact f_14
      · rw [gF_15] at he
        cases he
        exact f_15
      · rw [gF_16] at he
        cases he
        exact f_16
      · rw [gF_17] at he
        cases he
        exact f_17
      · rw [gF_18] at he
        cases he
        exact f_18
      · rw [gF_19] at he
        cases he
        exact f_19
      · rw [gF_20] at he
        cases he
        rw [show (fun i => (X00.G 20 i).map (gx_b0 qc qm q121)) = _ from gx_u4m (b := gx_b0 qc qm q121)]
        exact f_20
      · rw [gF_21] at he
        cases he
        exact f_21
      · rw [gF_22] at he
        cases he
        exact f_22
      · rw [gF_23] at he
        cases he
        exact f_23
      · rw [gF_24] at he
        cases he
        exact f_24
      · rw [gF_25] at he
        cases he
        rw [gx_rdm]
        exact f_25
    by_cases hg2 : 26 ≤ n ∧ n ≤ 38
    · have hc : n = 26 ∨ n = 27 ∨ n = 28 ∨ n = 29 ∨ n = 30 ∨ n = 31 ∨ n = 32 ∨ n = 33 ∨ n = 34 ∨ n = 35 ∨ n = 36 ∨ n = 37 ∨ n = 38 := by omega
      clear hg2
      rcases hc with rfl | rfl | rfl | rfl | rfl | rfl | rfl | rfl | rfl | rfl | rfl | rfl | rfl
      · rw [gF_26] at he
        cases he
        exact f_26
      · rw [gF_27] at he
        cases he
        exact f_27
      · rw [gF_28] at he
        cases he
        exact f_28
      · rw [gF_29] at he
        cases he
        exact f_29
      · rw [gF_30] at he
        cases he
        exact f_30
      · rw [gF_31] at he
        cases he
        exact f_31
      · rw [gF_32] at he
        cases he
        exact f_32
      · rw [gF_33] at he
        cases he
        exact f_33
      · rw [gF_34] at he
        cases he
        exact f_34
      · rw [gF_35] at he
        cases he
        exact f_35
      · rw [gF_36] at he
        cases he
        exact f_36
      · rw [gF_37] at he
        cases he
        exact f_37
      · rw [gF_38] at he
        cases he
        exact f_38
    by_cases hg3 : 39 ≤ n ∧ n ≤ 51
    · have hc : n = 39 ∨ n = 40 ∨ n = 41 ∨ n = 42 ∨ n = 43 ∨ n = 44 ∨ n = 45 ∨ n = 46 ∨ n = 47 ∨ n = 48 ∨ n = 49 ∨ n = 50 ∨ n = 51 := by omega
      clear hg3
      rcases hc with rfl | rfl | rfl | rfl | rfl | rfl | rfl | rfl | rfl | rfl | rfl | rfl | rfl
      · rw [gF_39] at he
        cases he
        exact f_39
      · rw [gF_40] at he
        cases he
        exact f_40
      · rw [gF_41] at he
        cases he
        exact f_41
      · rw [gF_42] at he
        cases he
        exact f_42
      · rw [gF_43] at he
        cases he
        exact f_43
      · rw [gF_44] at he
        cases he
        exact f_44
      · rw [gF_45] at he
        cases he
        exact f_45
      · rw [gF_46] at he
        cases he
        exact f_46
      · rw [gF_47] at he
        cases he
        exact f_47
      · rw [gF_48] at he
        cases he
        exact f_48
      · rw [gF_49] at he
        cases he
        exact f_49
      · rw [gF_50] at he
        cases he
        exact f_50
      · rw [gF_51] at he
        cases he
        exact f_51
    by_cases hg4 : 52 ≤ n ∧ n ≤ 64
    · have hc : n = 52 ∨ n = 53 ∨ n = 54 ∨ n = 55 ∨ n = 56 ∨ n = 57 ∨ n = 58 ∨ n = 59 ∨ n = 60 ∨ n = 61 ∨ n = 62 ∨ n = 63 ∨ n = 64 := by omega
      clear hg4
      rcases hc with rfl | rfl | rfl | rfl | rfl | rfl | rfl | rfl | rfl | rfl | rfl | rfl | rfl
      · rw [gF_52] at he
        cases he
        exact f_52
      · rw [gF_53] at he
        cases he
        exact f_53
      · rw [gF_54] at he
        cases he
        exact f_54
      · rw [gF_55] at he
        cases he
        exact f_55
      · rw [gF_56] at he
        cases he
        exact f_56
      · rw [gF_57] at he
        cases he
        exact f_57
      · rw [gF_58] at he
        cases he
        exact f_58
      · rw [gF_59] at he
        cases he
        exact f_59
      · rw [gF_60] at he
        cases he
        exact f_60
      · rw [gF_61] at he
        cases he
        exact f_61
      · rw [gF_62] at he
        cases he
        exact f_62
      · rw [gF_63] at he
        cases he
        exact f_63
      · rw [gF_64] at he
        cases he
        exact f_64
    by_cases hg5 : 65 ≤ n ∧ n ≤ 77
    · have hc : n = 65 ∨ n = 66 ∨ n = 67 ∨ n = 68 ∨ n = 69 ∨ n = 70 ∨ n = 71 ∨ n = 72 ∨ n = 73 ∨ n = 74 ∨ n = 75 ∨ n = 76 ∨ n = 77 := by omega
      clear hg5
      rcases hc with rfl | rfl | rfl | rfl | rfl | rfl | rfl | rfl | rfl | rfl | rfl | rfl | rfl
      · rw [gF_65] at he
        cases he
        exact f_65
      · rw [gF_66] at he
        cases he
        exact f_66
      · rw [gF_67] at he
        cases he
        exact f_67
      · rw [gF_68] at he
        cases he
        exact f_68
      · rw [gF_69] at he
        cases he
        exact f_69
      · rw [gF_70] at he
        cases he
        exact f_70
      · rw [gF_71] at he
        cases he
        exact f_71
      · rw [gF_72] at he
        cases he
        exact f_72
      · rw [gF_73] at he
        cases he
        exact f_73
      · rw [gF_74] at he
        cases he
        exact f_74
      · rw [gF_75] at he
        cases he
        exact f_75
      · rw [gF_76] at he
        cases he
        exact f_76
      · rw [gF_77] at he
        cases he
        exact f_77
    by_cases hg6 : 78 ≤ n ∧ n ≤ 90
    · have hc : n = 78 ∨ n = 79 ∨ n = 80 ∨ n = 81 ∨ n = 82 ∨ n = 83 ∨ n = 84 ∨ n = 85 ∨ n = 86 ∨ n = 87 ∨ n = 88 ∨ n = 89 ∨ n = 90 := by omega
      clear hg6
      rcases hc with rfl | rfl | rfl | rfl | rfl | rfl | rfl | rfl | rfl | rfl | rfl | rfl | rfl
      · rw [gF_78] at he
        cases he
        exact f_78
      · rw [gF_79] at he
        cases he
        exact f_79
      · rw [gF_80] at he
        cases he
        exact f_85
      · rw [gF_81] at he
        cases he
        exact f_86
      · rw [gF_82] at he
        cases he
        exact f_87
      · rw [gF_83] at he
        cases he
        rw [gx_rdm]
        exact f_88
      · rw [gF_84] at he
        cases he
        exact f_89
      · rw [gF_85] at he
        cases he
        exact f_90
      · rw [gF_86] at he
        cases he
        exact f_91
      · rw [gF_87] at he
        cases he
        exact f_92
      · rw [gF_88] at he
        cases he
        exact f_93
      · rw [gF_89] at he
        cases he
        exact f_94
      · rw [gF_90] at he
        cases he
        exact f_95
    by_cases hg7 : 91 ≤ n ∧ n ≤ 103
    · have hc : n = 91 ∨ n = 92 ∨ n = 93 ∨ n = 94 ∨ n = 95 ∨ n = 96 ∨ n = 97 ∨ n = 98 ∨ n = 99 ∨ n = 100 ∨ n = 101 ∨ n = 102 ∨ n = 103 := by omega
      clear hg7
      rcases hc with rfl | rfl | rfl | rfl | rfl | rfl | rfl | rfl | rfl | rfl | rfl | rfl | rfl
      · rw [gF_91] at he
        cases he
        exact f_96
      · rw [gF_92] at he
        cases he
        exact f_97
      · rw [gF_93] at he
        cases he
        exact f_98
      · rw [gF_94] at he
        cases he
        exact f_99
      · rw [gF_95] at he
        cases he
        exact f_100
      · rw [gF_96] at he
        cases he
        exact f_101
      · rw [gF_97] at he
        cases he
        exact f_102
      · rw [gF_98] at he
        cases he
        exact f_103
      · rw [gF_99] at he
        cases he
        exact f_104
      · rw [gF_100] at he
        cases he
        exact f_105
      · rw [gF_101] at he
        cases he
        exact f_106
      · rw [gF_102] at he
        cases he
        exact f_107
      · rw [gF_103] at he
        cases he
        exact f_108
    by_cases hg8 : 104 ≤ n ∧ n ≤ 116
    · have hc : n = 104 ∨ n = 105 ∨ n = 106 ∨ n = 107 ∨ n = 108 ∨ n = 109 ∨ n = 110 ∨ n = 111 ∨ n = 112 ∨ n = 113 ∨ n = 114 ∨ n = 115 ∨ n = 116 := by omega
      clear hg8
      rcases hc with rfl | rfl | rfl | rfl | rfl | rfl | rfl | rfl | rfl | rfl | rfl | rfl | rfl
      · rw [gF_104] at he
        cases he
        exact f_109
      · rw [gF_105] at he
        cases he
        exact f_110
      · rw [gF_106] at he
        cases he
        exact f_111
      · rw [gF_107] at he
        cases he
        exact f_112
      · rw [gF_108] at he
        cases he
        exact f_113
      · rw [gF_109] at he
        cases he
        exact f_114
      · rw [gF_110] at he
        cases he
        exact f_115
      · rw [gF_111] at he
        cases he
        exact f_116
      · rw [gF_112] at he
        cases he
        exact f_117
      · rw [gF_113] at he
        cases he
        exact f_118
      · rw [gF_114] at he
        cases he
        exact f_119
      · rw [gF_115] at he
        cases he
        exact f_120
      · rw [gF_116] at he
        cases he
        rw [show (fun i => if i = 0 then (X00.I 116 0).toInt64 else 0 : Nat → Int64) = fun _ => 0 from gx_o0]
        exact f_121
    by_cases hg9 : 121 ≤ n ∧ n ≤ 125
    · have hc : n = 121 ∨ n = 122 ∨ n = 123 ∨ n = 124 ∨ n = 125 := by omega
      clear hg9
      rcases hc with rfl | rfl | rfl | rfl | rfl
      · rw [gF_121] at he
        cases he
        rw [show (fun i => (X00.G 121 i).map (gx_b0 qc qm q121)) = _ from gx_u4m (b := gx_b0 qc qm q121)]
        exact f_80
      · rw [gF_122] at he
        cases he
        exact f_81
      · rw [gF_123] at he
        cases he
        exact f_82
      · rw [gF_124] at he
        cases he
        exact f_83
      · rw [gF_125] at he
        cases he
        exact f_84
    exfalso
    have h0 : gF D (gx_T9 cI cZ cF cM cR cV cJ cO cN) (gx_b0 qc qm q121) n (X00.I n) (X00.G n) X00.L X00.N = none := by
      exact gF_none (by omega)
    rw [h0] at he
    cases he
  · have e9 : X00.N = 0 := rfl
    rw [e9]
    have hm : (if n = 0 then (fun j => if j = 5 then some 12 else if j = 6 then some 16 else none) else if n = 20 then gx_u4 21 22 23 24 else if n = 121 then gx_u4 122 123 124 125 else fun _ => none : Nat → Option Nat) i = some m := hm
    unfold gNm
    by_cases n0 : n = 0
    · rw [if_pos n0] at hm
      have hm : (if i = 5 then some 12 else if i = 6 then some 16 else none) = some m := hm
      by_cases i5 : i = 5
      · rw [if_pos i5] at hm
        cases hm
        omega
      · rw [if_neg i5] at hm
        by_cases i6 : i = 6
        · rw [if_pos i6] at hm
          cases hm
          omega
        · rw [if_neg i6] at hm
          cases hm
    · rw [if_neg n0] at hm
      by_cases n2 : n = 20
      · rw [if_pos n2] at hm
        have := gx_u4e hm
        omega
      · rw [if_neg n2] at hm
        by_cases n3 : n = 121
        · rw [if_pos n3] at hm
          have := gx_u4e hm
          omega
        · rw [if_neg n3] at hm
          cases hm
