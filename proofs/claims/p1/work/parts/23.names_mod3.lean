/-! NAMES: methods and their decode rows, printed by an own text program out of the Statement. -/
abbrev b_Mo_flushing : ByteArray := prog_9_method_16_code
def y_Mo_flushing : MethodName := ⟨"CommitLedgerModel", "flushing", "()Z"⟩
theorem d_Mo_flushing_0 : decode b_Mo_flushing 0 = .ok (.iconst 0, 1) := by decide +kernel
theorem d_Mo_flushing_1 : decode b_Mo_flushing 1 = .ok (.istore_n 1, 1) := by decide +kernel
theorem d_Mo_flushing_2 : decode b_Mo_flushing 2 = .ok (.iconst 0, 1) := by decide +kernel
theorem d_Mo_flushing_3 : decode b_Mo_flushing 3 = .ok (.istore_n 2, 1) := by decide +kernel
theorem d_Mo_flushing_4 : decode b_Mo_flushing 4 = .ok (.iload_n 2, 1) := by decide +kernel
theorem d_Mo_flushing_5 : decode b_Mo_flushing 5 = .ok (.aload_n 0, 1) := by decide +kernel
theorem d_Mo_flushing_6 : decode b_Mo_flushing 6 = .ok (.getfield 172, 3) := by decide +kernel
theorem d_Mo_flushing_9 : decode b_Mo_flushing 9 = .ok (.if_icmp .ge 28, 3) := by decide +kernel
theorem d_Mo_flushing_12 : decode b_Mo_flushing 12 = .ok (.iload_n 1, 1) := by decide +kernel
theorem d_Mo_flushing_13 : decode b_Mo_flushing 13 = .ok (.ifCond .ne 12, 3) := by decide +kernel
theorem d_Mo_flushing_16 : decode b_Mo_flushing 16 = .ok (.aload_n 0, 1) := by decide +kernel
theorem d_Mo_flushing_17 : decode b_Mo_flushing 17 = .ok (.getfield 53, 3) := by decide +kernel
theorem d_Mo_flushing_20 : decode b_Mo_flushing 20 = .ok (.iload_n 2, 1) := by decide +kernel
theorem d_Mo_flushing_21 : decode b_Mo_flushing 21 = .ok (.baload, 1) := by decide +kernel
theorem d_Mo_flushing_22 : decode b_Mo_flushing 22 = .ok (.ifCond .eq 7, 3) := by decide +kernel
theorem d_Mo_flushing_25 : decode b_Mo_flushing 25 = .ok (.iconst 1, 1) := by decide +kernel
theorem d_Mo_flushing_26 : decode b_Mo_flushing 26 = .ok (.goto 4, 3) := by decide +kernel
theorem d_Mo_flushing_29 : decode b_Mo_flushing 29 = .ok (.iconst 0, 1) := by decide +kernel
theorem d_Mo_flushing_30 : decode b_Mo_flushing 30 = .ok (.istore_n 1, 1) := by decide +kernel
theorem d_Mo_flushing_31 : decode b_Mo_flushing 31 = .ok (.iinc 2 1, 3) := by decide +kernel
theorem d_Mo_flushing_34 : decode b_Mo_flushing 34 = .ok (.goto (-30), 3) := by decide +kernel
theorem d_Mo_flushing_37 : decode b_Mo_flushing 37 = .ok (.iload_n 1, 1) := by decide +kernel
theorem d_Mo_flushing_38 : decode b_Mo_flushing 38 = .ok (.ifCond .eq 184, 3) := by decide +kernel
theorem d_Mo_flushing_41 : decode b_Mo_flushing 41 = .ok (.aload_n 0, 1) := by decide +kernel
theorem d_Mo_flushing_42 : decode b_Mo_flushing 42 = .ok (.invokevirtual 178, 3) := by decide +kernel
theorem d_Mo_flushing_45 : decode b_Mo_flushing 45 = .ok (.istore_n 2, 1) := by decide +kernel
theorem d_Mo_flushing_46 : decode b_Mo_flushing 46 = .ok (.iload_n 2, 1) := by decide +kernel
theorem d_Mo_flushing_47 : decode b_Mo_flushing 47 = .ok (.ifCond .ge 5, 3) := by decide +kernel
theorem d_Mo_flushing_50 : decode b_Mo_flushing 50 = .ok (.iconst 0, 1) := by decide +kernel
theorem d_Mo_flushing_51 : decode b_Mo_flushing 51 = .ok (.ireturn, 1) := by decide +kernel
theorem d_Mo_flushing_52 : decode b_Mo_flushing 52 = .ok (.aload_n 0, 1) := by decide +kernel
theorem d_Mo_flushing_53 : decode b_Mo_flushing 53 = .ok (.getfield 40, 3) := by decide +kernel
theorem d_Mo_flushing_56 : decode b_Mo_flushing 56 = .ok (.getfield 122, 3) := by decide +kernel
theorem d_Mo_flushing_59 : decode b_Mo_flushing 59 = .ok (.istore_n 3, 1) := by decide +kernel
theorem d_Mo_flushing_60 : decode b_Mo_flushing 60 = .ok (.aload_n 0, 1) := by decide +kernel
theorem d_Mo_flushing_61 : decode b_Mo_flushing 61 = .ok (.getfield 40, 3) := by decide +kernel
theorem d_Mo_flushing_64 : decode b_Mo_flushing 64 = .ok (.getfield 125, 3) := by decide +kernel
theorem d_Mo_flushing_67 : decode b_Mo_flushing 67 = .ok (.iload_n 3, 1) := by decide +kernel
theorem d_Mo_flushing_68 : decode b_Mo_flushing 68 = .ok (.iload_n 2, 1) := by decide +kernel
theorem d_Mo_flushing_69 : decode b_Mo_flushing 69 = .ok (.iastore, 1) := by decide +kernel
theorem d_Mo_flushing_70 : decode b_Mo_flushing 70 = .ok (.aload_n 0, 1) := by decide +kernel
theorem d_Mo_flushing_71 : decode b_Mo_flushing 71 = .ok (.getfield 40, 3) := by decide +kernel
theorem d_Mo_flushing_74 : decode b_Mo_flushing 74 = .ok (.getfield 132, 3) := by decide +kernel
theorem d_Mo_flushing_77 : decode b_Mo_flushing 77 = .ok (.iload_n 3, 1) := by decide +kernel
theorem d_Mo_flushing_78 : decode b_Mo_flushing 78 = .ok (.iconst (-1), 1) := by decide +kernel
theorem d_Mo_flushing_79 : decode b_Mo_flushing 79 = .ok (.iastore, 1) := by decide +kernel
theorem d_Mo_flushing_80 : decode b_Mo_flushing 80 = .ok (.aload_n 0, 1) := by decide +kernel
theorem d_Mo_flushing_81 : decode b_Mo_flushing 81 = .ok (.getfield 40, 3) := by decide +kernel
theorem d_Mo_flushing_84 : decode b_Mo_flushing 84 = .ok (.getfield 166, 3) := by decide +kernel
theorem d_Mo_flushing_87 : decode b_Mo_flushing 87 = .ok (.iload_n 3, 1) := by decide +kernel
theorem d_Mo_flushing_88 : decode b_Mo_flushing 88 = .ok (.iconst 0, 1) := by decide +kernel
theorem d_Mo_flushing_89 : decode b_Mo_flushing 89 = .ok (.iastore, 1) := by decide +kernel
theorem d_Mo_flushing_90 : decode b_Mo_flushing 90 = .ok (.iload_n 3, 1) := by decide +kernel
theorem d_Mo_flushing_91 : decode b_Mo_flushing 91 = .ok (.ifCond .ne 13, 3) := by decide +kernel
theorem d_Mo_flushing_94 : decode b_Mo_flushing 94 = .ok (.aload_n 0, 1) := by decide +kernel
theorem d_Mo_flushing_95 : decode b_Mo_flushing 95 = .ok (.getfield 40, 3) := by decide +kernel
theorem d_Mo_flushing_98 : decode b_Mo_flushing 98 = .ok (.getfield 182, 3) := by decide +kernel
theorem d_Mo_flushing_101 : decode b_Mo_flushing 101 = .ok (.iconst 0, 1) := by decide +kernel
theorem d_Mo_flushing_102 : decode b_Mo_flushing 102 = .ok (.iconst 0, 1) := by decide +kernel
theorem d_Mo_flushing_103 : decode b_Mo_flushing 103 = .ok (.iastore, 1) := by decide +kernel
theorem d_Mo_flushing_104 : decode b_Mo_flushing 104 = .ok (.aload_n 0, 1) := by decide +kernel
theorem d_Mo_flushing_105 : decode b_Mo_flushing 105 = .ok (.getfield 40, 3) := by decide +kernel
theorem d_Mo_flushing_108 : decode b_Mo_flushing 108 = .ok (.getfield 182, 3) := by decide +kernel
theorem d_Mo_flushing_111 : decode b_Mo_flushing 111 = .ok (.iload_n 3, 1) := by decide +kernel
theorem d_Mo_flushing_112 : decode b_Mo_flushing 112 = .ok (.iaload, 1) := by decide +kernel
theorem d_Mo_flushing_113 : decode b_Mo_flushing 113 = .ok (.istore 4, 2) := by decide +kernel
theorem d_Mo_flushing_115 : decode b_Mo_flushing 115 = .ok (.iconst 0, 1) := by decide +kernel
theorem d_Mo_flushing_116 : decode b_Mo_flushing 116 = .ok (.istore 5, 2) := by decide +kernel
theorem d_Mo_flushing_118 : decode b_Mo_flushing 118 = .ok (.iload 5, 2) := by decide +kernel
theorem d_Mo_flushing_120 : decode b_Mo_flushing 120 = .ok (.aload_n 0, 1) := by decide +kernel
theorem d_Mo_flushing_121 : decode b_Mo_flushing 121 = .ok (.getfield 172, 3) := by decide +kernel
theorem d_Mo_flushing_124 : decode b_Mo_flushing 124 = .ok (.if_icmp .ge 63, 3) := by decide +kernel
theorem d_Mo_flushing_127 : decode b_Mo_flushing 127 = .ok (.aload_n 0, 1) := by decide +kernel
theorem d_Mo_flushing_128 : decode b_Mo_flushing 128 = .ok (.getfield 40, 3) := by decide +kernel
theorem d_Mo_flushing_131 : decode b_Mo_flushing 131 = .ok (.getfield 185, 3) := by decide +kernel
theorem d_Mo_flushing_134 : decode b_Mo_flushing 134 = .ok (.iload 4, 2) := by decide +kernel
theorem d_Mo_flushing_136 : decode b_Mo_flushing 136 = .ok (.iload 5, 2) := by decide +kernel
theorem d_Mo_flushing_138 : decode b_Mo_flushing 138 = .ok (.iadd, 1) := by decide +kernel
theorem d_Mo_flushing_139 : decode b_Mo_flushing 139 = .ok (.aload_n 0, 1) := by decide +kernel
theorem d_Mo_flushing_140 : decode b_Mo_flushing 140 = .ok (.getfield 50, 3) := by decide +kernel
theorem d_Mo_flushing_143 : decode b_Mo_flushing 143 = .ok (.iload 5, 2) := by decide +kernel
theorem d_Mo_flushing_145 : decode b_Mo_flushing 145 = .ok (.iaload, 1) := by decide +kernel
theorem d_Mo_flushing_146 : decode b_Mo_flushing 146 = .ok (.iastore, 1) := by decide +kernel
theorem d_Mo_flushing_147 : decode b_Mo_flushing 147 = .ok (.aload_n 0, 1) := by decide +kernel
theorem d_Mo_flushing_148 : decode b_Mo_flushing 148 = .ok (.getfield 40, 3) := by decide +kernel
theorem d_Mo_flushing_151 : decode b_Mo_flushing 151 = .ok (.getfield 188, 3) := by decide +kernel
theorem d_Mo_flushing_154 : decode b_Mo_flushing 154 = .ok (.iload 4, 2) := by decide +kernel
theorem d_Mo_flushing_156 : decode b_Mo_flushing 156 = .ok (.iload 5, 2) := by decide +kernel
theorem d_Mo_flushing_158 : decode b_Mo_flushing 158 = .ok (.iadd, 1) := by decide +kernel
theorem d_Mo_flushing_159 : decode b_Mo_flushing 159 = .ok (.aload_n 0, 1) := by decide +kernel
theorem d_Mo_flushing_160 : decode b_Mo_flushing 160 = .ok (.getfield 53, 3) := by decide +kernel
theorem d_Mo_flushing_163 : decode b_Mo_flushing 163 = .ok (.iload 5, 2) := by decide +kernel
theorem d_Mo_flushing_165 : decode b_Mo_flushing 165 = .ok (.baload, 1) := by decide +kernel
theorem d_Mo_flushing_166 : decode b_Mo_flushing 166 = .ok (.bastore, 1) := by decide +kernel
theorem d_Mo_flushing_167 : decode b_Mo_flushing 167 = .ok (.aload_n 0, 1) := by decide +kernel
theorem d_Mo_flushing_168 : decode b_Mo_flushing 168 = .ok (.getfield 40, 3) := by decide +kernel
theorem d_Mo_flushing_171 : decode b_Mo_flushing 171 = .ok (.getfield 191, 3) := by decide +kernel
theorem d_Mo_flushing_174 : decode b_Mo_flushing 174 = .ok (.iload 4, 2) := by decide +kernel
theorem d_Mo_flushing_176 : decode b_Mo_flushing 176 = .ok (.iload 5, 2) := by decide +kernel
theorem d_Mo_flushing_178 : decode b_Mo_flushing 178 = .ok (.iadd, 1) := by decide +kernel
theorem d_Mo_flushing_179 : decode b_Mo_flushing 179 = .ok (.iconst 1, 1) := by decide +kernel
theorem d_Mo_flushing_180 : decode b_Mo_flushing 180 = .ok (.bastore, 1) := by decide +kernel
theorem d_Mo_flushing_181 : decode b_Mo_flushing 181 = .ok (.iinc 5 1, 3) := by decide +kernel
theorem d_Mo_flushing_184 : decode b_Mo_flushing 184 = .ok (.goto (-66), 3) := by decide +kernel
theorem d_Mo_flushing_187 : decode b_Mo_flushing 187 = .ok (.aload_n 0, 1) := by decide +kernel
theorem d_Mo_flushing_188 : decode b_Mo_flushing 188 = .ok (.getfield 40, 3) := by decide +kernel
theorem d_Mo_flushing_191 : decode b_Mo_flushing 191 = .ok (.dup, 1) := by decide +kernel
theorem d_Mo_flushing_192 : decode b_Mo_flushing 192 = .ok (.getfield 122, 3) := by decide +kernel
theorem d_Mo_flushing_195 : decode b_Mo_flushing 195 = .ok (.iconst 1, 1) := by decide +kernel
theorem d_Mo_flushing_196 : decode b_Mo_flushing 196 = .ok (.iadd, 1) := by decide +kernel
theorem d_Mo_flushing_197 : decode b_Mo_flushing 197 = .ok (.putfield 122, 3) := by decide +kernel
theorem d_Mo_flushing_200 : decode b_Mo_flushing 200 = .ok (.aload_n 0, 1) := by decide +kernel
theorem d_Mo_flushing_201 : decode b_Mo_flushing 201 = .ok (.getfield 40, 3) := by decide +kernel
theorem d_Mo_flushing_204 : decode b_Mo_flushing 204 = .ok (.getfield 182, 3) := by decide +kernel
theorem d_Mo_flushing_207 : decode b_Mo_flushing 207 = .ok (.aload_n 0, 1) := by decide +kernel
theorem d_Mo_flushing_208 : decode b_Mo_flushing 208 = .ok (.getfield 40, 3) := by decide +kernel
theorem d_Mo_flushing_211 : decode b_Mo_flushing 211 = .ok (.getfield 122, 3) := by decide +kernel
theorem d_Mo_flushing_214 : decode b_Mo_flushing 214 = .ok (.iload 4, 2) := by decide +kernel
theorem d_Mo_flushing_216 : decode b_Mo_flushing 216 = .ok (.aload_n 0, 1) := by decide +kernel
theorem d_Mo_flushing_217 : decode b_Mo_flushing 217 = .ok (.getfield 172, 3) := by decide +kernel
theorem d_Mo_flushing_220 : decode b_Mo_flushing 220 = .ok (.iadd, 1) := by decide +kernel
theorem d_Mo_flushing_221 : decode b_Mo_flushing 221 = .ok (.iastore, 1) := by decide +kernel
theorem d_Mo_flushing_222 : decode b_Mo_flushing 222 = .ok (.aload_n 0, 1) := by decide +kernel
theorem d_Mo_flushing_223 : decode b_Mo_flushing 223 = .ok (.iconst 0, 1) := by decide +kernel
theorem d_Mo_flushing_224 : decode b_Mo_flushing 224 = .ok (.putfield 172, 3) := by decide +kernel
theorem d_Mo_flushing_227 : decode b_Mo_flushing 227 = .ok (.iconst 1, 1) := by decide +kernel
theorem d_Mo_flushing_228 : decode b_Mo_flushing 228 = .ok (.ireturn, 1) := by decide +kernel
theorem kc_Mo_flushing : Cond.code y_Mo_flushing b_Mo_flushing 6 (some .boolean) ∈ gx_all := gx_in 1144 (by decide +kernel)
abbrev b_Mo_harm : ByteArray := prog_9_method_40_code
def y_Mo_harm : MethodName := ⟨"CommitLedgerModel", "harm", "(II)V"⟩
theorem d_Mo_harm_0 : decode b_Mo_harm 0 = .ok (.aload_n 0, 1) := by decide +kernel
theorem d_Mo_harm_1 : decode b_Mo_harm 1 = .ok (.iload_n 1, 1) := by decide +kernel
theorem d_Mo_harm_2 : decode b_Mo_harm 2 = .ok (.ifCond .lt 7, 3) := by decide +kernel
theorem d_Mo_harm_5 : decode b_Mo_harm 5 = .ok (.iload_n 2, 1) := by decide +kernel
theorem d_Mo_harm_6 : decode b_Mo_harm 6 = .ok (.ifCond .ge 7, 3) := by decide +kernel
theorem d_Mo_harm_9 : decode b_Mo_harm 9 = .ok (.iconst 1, 1) := by decide +kernel
theorem d_Mo_harm_10 : decode b_Mo_harm 10 = .ok (.goto 4, 3) := by decide +kernel
theorem d_Mo_harm_13 : decode b_Mo_harm 13 = .ok (.iconst 0, 1) := by decide +kernel
theorem d_Mo_harm_14 : decode b_Mo_harm 14 = .ok (.iconst 1, 1) := by decide +kernel
theorem d_Mo_harm_15 : decode b_Mo_harm 15 = .ok (.invokevirtual 152, 3) := by decide +kernel
theorem d_Mo_harm_18 : decode b_Mo_harm 18 = .ok (.ifCond .ne 80, 3) := by decide +kernel
theorem d_Mo_harm_21 : decode b_Mo_harm 21 = .ok (.aload_n 0, 1) := by decide +kernel
theorem d_Mo_harm_22 : decode b_Mo_harm 22 = .ok (.aload_n 0, 1) := by decide +kernel
theorem d_Mo_harm_23 : decode b_Mo_harm 23 = .ok (.getfield 99, 3) := by decide +kernel
theorem d_Mo_harm_26 : decode b_Mo_harm 26 = .ok (.ifCond .ne 10, 3) := by decide +kernel
theorem d_Mo_harm_29 : decode b_Mo_harm 29 = .ok (.aload_n 0, 1) := by decide +kernel
theorem d_Mo_harm_30 : decode b_Mo_harm 30 = .ok (.invokevirtual 250, 3) := by decide +kernel
theorem d_Mo_harm_33 : decode b_Mo_harm 33 = .ok (.ifCond .eq 7, 3) := by decide +kernel
theorem d_Mo_harm_36 : decode b_Mo_harm 36 = .ok (.iconst 1, 1) := by decide +kernel
theorem d_Mo_harm_37 : decode b_Mo_harm 37 = .ok (.goto 4, 3) := by decide +kernel
theorem d_Mo_harm_40 : decode b_Mo_harm 40 = .ok (.iconst 0, 1) := by decide +kernel
theorem d_Mo_harm_41 : decode b_Mo_harm 41 = .ok (.iconst 2, 1) := by decide +kernel
theorem d_Mo_harm_42 : decode b_Mo_harm 42 = .ok (.invokevirtual 152, 3) := by decide +kernel
theorem d_Mo_harm_45 : decode b_Mo_harm 45 = .ok (.ifCond .ne 53, 3) := by decide +kernel
theorem d_Mo_harm_48 : decode b_Mo_harm 48 = .ok (.aload_n 0, 1) := by decide +kernel
theorem d_Mo_harm_49 : decode b_Mo_harm 49 = .ok (.aload_n 0, 1) := by decide +kernel
theorem d_Mo_harm_50 : decode b_Mo_harm 50 = .ok (.iload_n 1, 1) := by decide +kernel
theorem d_Mo_harm_51 : decode b_Mo_harm 51 = .ok (.invokevirtual 128, 3) := by decide +kernel
theorem d_Mo_harm_54 : decode b_Mo_harm 54 = .ok (.ifCond .ge 7, 3) := by decide +kernel
theorem d_Mo_harm_57 : decode b_Mo_harm 57 = .ok (.iconst 1, 1) := by decide +kernel
theorem d_Mo_harm_58 : decode b_Mo_harm 58 = .ok (.goto 4, 3) := by decide +kernel
theorem d_Mo_harm_61 : decode b_Mo_harm 61 = .ok (.iconst 0, 1) := by decide +kernel
theorem d_Mo_harm_62 : decode b_Mo_harm 62 = .ok (.iconst 3, 1) := by decide +kernel
theorem d_Mo_harm_63 : decode b_Mo_harm 63 = .ok (.invokevirtual 152, 3) := by decide +kernel
theorem d_Mo_harm_66 : decode b_Mo_harm 66 = .ok (.ifCond .ne 32, 3) := by decide +kernel
theorem d_Mo_harm_69 : decode b_Mo_harm 69 = .ok (.aload_n 0, 1) := by decide +kernel
theorem d_Mo_harm_70 : decode b_Mo_harm 70 = .ok (.aload_n 0, 1) := by decide +kernel
theorem d_Mo_harm_71 : decode b_Mo_harm 71 = .ok (.getfield 27, 3) := by decide +kernel
theorem d_Mo_harm_74 : decode b_Mo_harm 74 = .ok (.aload_n 0, 1) := by decide +kernel
theorem d_Mo_harm_75 : decode b_Mo_harm 75 = .ok (.iload_n 1, 1) := by decide +kernel
theorem d_Mo_harm_76 : decode b_Mo_harm 76 = .ok (.invokevirtual 128, 3) := by decide +kernel
theorem d_Mo_harm_79 : decode b_Mo_harm 79 = .ok (.baload, 1) := by decide +kernel
theorem d_Mo_harm_80 : decode b_Mo_harm 80 = .ok (.iconst 2, 1) := by decide +kernel
theorem d_Mo_harm_81 : decode b_Mo_harm 81 = .ok (.invokevirtual 152, 3) := by decide +kernel
theorem d_Mo_harm_84 : decode b_Mo_harm 84 = .ok (.ifCond .ne 14, 3) := by decide +kernel
theorem d_Mo_harm_87 : decode b_Mo_harm 87 = .ok (.aload_n 0, 1) := by decide +kernel
theorem d_Mo_harm_88 : decode b_Mo_harm 88 = .ok (.getfield 27, 3) := by decide +kernel
theorem d_Mo_harm_91 : decode b_Mo_harm 91 = .ok (.aload_n 0, 1) := by decide +kernel
theorem d_Mo_harm_92 : decode b_Mo_harm 92 = .ok (.iload_n 1, 1) := by decide +kernel
theorem d_Mo_harm_93 : decode b_Mo_harm 93 = .ok (.invokevirtual 128, 3) := by decide +kernel
theorem d_Mo_harm_96 : decode b_Mo_harm 96 = .ok (.iconst 1, 1) := by decide +kernel
theorem d_Mo_harm_97 : decode b_Mo_harm 97 = .ok (.bastore, 1) := by decide +kernel
theorem d_Mo_harm_98 : decode b_Mo_harm 98 = .ok (.aload_n 0, 1) := by decide +kernel
theorem d_Mo_harm_99 : decode b_Mo_harm 99 = .ok (.iconst 0, 1) := by decide +kernel
theorem d_Mo_harm_100 : decode b_Mo_harm 100 = .ok (.bipush 123, 2) := by decide +kernel
theorem d_Mo_harm_102 : decode b_Mo_harm 102 = .ok (.invokevirtual 148, 3) := by decide +kernel
theorem d_Mo_harm_105 : decode b_Mo_harm 105 = .ok (.istore_n 3, 1) := by decide +kernel
theorem d_Mo_harm_106 : decode b_Mo_harm 106 = .ok (.return_, 1) := by decide +kernel
theorem kc_Mo_harm : Cond.code y_Mo_harm b_Mo_harm 4 none ∈ gx_all := gx_in 1247 (by decide +kernel)
abbrev b_Mo_keepNeeded : ByteArray := prog_9_method_7_code
def y_Mo_keepNeeded : MethodName := ⟨"CommitLedgerModel", "keepNeeded", "()V"⟩
theorem d_Mo_keepNeeded_0 : decode b_Mo_keepNeeded 0 = .ok (.iconst 0, 1) := by decide +kernel
theorem d_Mo_keepNeeded_1 : decode b_Mo_keepNeeded 1 = .ok (.istore_n 1, 1) := by decide +kernel
theorem d_Mo_keepNeeded_2 : decode b_Mo_keepNeeded 2 = .ok (.iconst 0, 1) := by decide +kernel
theorem d_Mo_keepNeeded_3 : decode b_Mo_keepNeeded 3 = .ok (.istore_n 2, 1) := by decide +kernel
theorem d_Mo_keepNeeded_4 : decode b_Mo_keepNeeded 4 = .ok (.iload_n 2, 1) := by decide +kernel
theorem d_Mo_keepNeeded_5 : decode b_Mo_keepNeeded 5 = .ok (.aload_n 0, 1) := by decide +kernel
theorem d_Mo_keepNeeded_6 : decode b_Mo_keepNeeded 6 = .ok (.getfield 93, 3) := by decide +kernel
theorem d_Mo_keepNeeded_9 : decode b_Mo_keepNeeded 9 = .ok (.if_icmp .ge 60, 3) := by decide +kernel
theorem d_Mo_keepNeeded_12 : decode b_Mo_keepNeeded 12 = .ok (.aload_n 0, 1) := by decide +kernel
theorem d_Mo_keepNeeded_13 : decode b_Mo_keepNeeded 13 = .ok (.getfield 30, 3) := by decide +kernel
theorem d_Mo_keepNeeded_16 : decode b_Mo_keepNeeded 16 = .ok (.iload_n 2, 1) := by decide +kernel
theorem d_Mo_keepNeeded_17 : decode b_Mo_keepNeeded 17 = .ok (.baload, 1) := by decide +kernel
theorem d_Mo_keepNeeded_18 : decode b_Mo_keepNeeded 18 = .ok (.ifCond .ne 6, 3) := by decide +kernel
theorem d_Mo_keepNeeded_21 : decode b_Mo_keepNeeded 21 = .ok (.goto 42, 3) := by decide +kernel
theorem d_Mo_keepNeeded_24 : decode b_Mo_keepNeeded 24 = .ok (.aload_n 0, 1) := by decide +kernel
theorem d_Mo_keepNeeded_25 : decode b_Mo_keepNeeded 25 = .ok (.getfield 20, 3) := by decide +kernel
theorem d_Mo_keepNeeded_28 : decode b_Mo_keepNeeded 28 = .ok (.iload_n 1, 1) := by decide +kernel
theorem d_Mo_keepNeeded_29 : decode b_Mo_keepNeeded 29 = .ok (.aload_n 0, 1) := by decide +kernel
theorem d_Mo_keepNeeded_30 : decode b_Mo_keepNeeded 30 = .ok (.getfield 20, 3) := by decide +kernel
theorem d_Mo_keepNeeded_33 : decode b_Mo_keepNeeded 33 = .ok (.iload_n 2, 1) := by decide +kernel
theorem d_Mo_keepNeeded_34 : decode b_Mo_keepNeeded 34 = .ok (.iaload, 1) := by decide +kernel
theorem d_Mo_keepNeeded_35 : decode b_Mo_keepNeeded 35 = .ok (.iastore, 1) := by decide +kernel
theorem d_Mo_keepNeeded_36 : decode b_Mo_keepNeeded 36 = .ok (.aload_n 0, 1) := by decide +kernel
theorem d_Mo_keepNeeded_37 : decode b_Mo_keepNeeded 37 = .ok (.getfield 23, 3) := by decide +kernel
theorem d_Mo_keepNeeded_40 : decode b_Mo_keepNeeded 40 = .ok (.iload_n 1, 1) := by decide +kernel
theorem d_Mo_keepNeeded_41 : decode b_Mo_keepNeeded 41 = .ok (.aload_n 0, 1) := by decide +kernel
theorem d_Mo_keepNeeded_42 : decode b_Mo_keepNeeded 42 = .ok (.getfield 23, 3) := by decide +kernel
theorem d_Mo_keepNeeded_45 : decode b_Mo_keepNeeded 45 = .ok (.iload_n 2, 1) := by decide +kernel
theorem d_Mo_keepNeeded_46 : decode b_Mo_keepNeeded 46 = .ok (.baload, 1) := by decide +kernel
theorem d_Mo_keepNeeded_47 : decode b_Mo_keepNeeded 47 = .ok (.bastore, 1) := by decide +kernel
theorem d_Mo_keepNeeded_48 : decode b_Mo_keepNeeded 48 = .ok (.aload_n 0, 1) := by decide +kernel
theorem d_Mo_keepNeeded_49 : decode b_Mo_keepNeeded 49 = .ok (.getfield 27, 3) := by decide +kernel
theorem d_Mo_keepNeeded_52 : decode b_Mo_keepNeeded 52 = .ok (.iload_n 1, 1) := by decide +kernel
theorem d_Mo_keepNeeded_53 : decode b_Mo_keepNeeded 53 = .ok (.aload_n 0, 1) := by decide +kernel
theorem d_Mo_keepNeeded_54 : decode b_Mo_keepNeeded 54 = .ok (.getfield 27, 3) := by decide +kernel
theorem d_Mo_keepNeeded_57 : decode b_Mo_keepNeeded 57 = .ok (.iload_n 2, 1) := by decide +kernel
theorem d_Mo_keepNeeded_58 : decode b_Mo_keepNeeded 58 = .ok (.baload, 1) := by decide +kernel
theorem d_Mo_keepNeeded_59 : decode b_Mo_keepNeeded 59 = .ok (.bastore, 1) := by decide +kernel
theorem d_Mo_keepNeeded_60 : decode b_Mo_keepNeeded 60 = .ok (.iinc 1 1, 3) := by decide +kernel
theorem d_Mo_keepNeeded_63 : decode b_Mo_keepNeeded 63 = .ok (.iinc 2 1, 3) := by decide +kernel
theorem d_Mo_keepNeeded_66 : decode b_Mo_keepNeeded 66 = .ok (.goto (-62), 3) := by decide +kernel
theorem d_Mo_keepNeeded_69 : decode b_Mo_keepNeeded 69 = .ok (.aload_n 0, 1) := by decide +kernel
theorem d_Mo_keepNeeded_70 : decode b_Mo_keepNeeded 70 = .ok (.iload_n 1, 1) := by decide +kernel
theorem d_Mo_keepNeeded_71 : decode b_Mo_keepNeeded 71 = .ok (.putfield 93, 3) := by decide +kernel
theorem d_Mo_keepNeeded_74 : decode b_Mo_keepNeeded 74 = .ok (.return_, 1) := by decide +kernel
theorem kc_Mo_keepNeeded : Cond.code y_Mo_keepNeeded b_Mo_keepNeeded 3 none ∈ gx_all := gx_in 1132 (by decide +kernel)
abbrev b_Mo_level : ByteArray := prog_9_method_20_code
def y_Mo_level : MethodName := ⟨"CommitLedgerModel", "level", "(I)I"⟩
theorem d_Mo_level_0 : decode b_Mo_level 0 = .ok (.aload_n 0, 1) := by decide +kernel
theorem d_Mo_level_1 : decode b_Mo_level 1 = .ok (.getfield 40, 3) := by decide +kernel
theorem d_Mo_level_4 : decode b_Mo_level 4 = .ok (.iload_n 1, 1) := by decide +kernel
theorem d_Mo_level_5 : decode b_Mo_level 5 = .ok (.invokevirtual 202, 3) := by decide +kernel
theorem d_Mo_level_8 : decode b_Mo_level 8 = .ok (.istore_n 2, 1) := by decide +kernel
theorem d_Mo_level_9 : decode b_Mo_level 9 = .ok (.iconst 0, 1) := by decide +kernel
theorem d_Mo_level_10 : decode b_Mo_level 10 = .ok (.istore_n 3, 1) := by decide +kernel
theorem d_Mo_level_11 : decode b_Mo_level 11 = .ok (.aload_n 0, 1) := by decide +kernel
theorem d_Mo_level_12 : decode b_Mo_level 12 = .ok (.getfield 59, 3) := by decide +kernel
theorem d_Mo_level_15 : decode b_Mo_level 15 = .ok (.i2l, 1) := by decide +kernel
theorem d_Mo_level_16 : decode b_Mo_level 16 = .ok (.lstore 4, 2) := by decide +kernel
theorem d_Mo_level_18 : decode b_Mo_level 18 = .ok (.lload 4, 2) := by decide +kernel
theorem d_Mo_level_20 : decode b_Mo_level 20 = .ok (.iload_n 2, 1) := by decide +kernel
theorem d_Mo_level_21 : decode b_Mo_level 21 = .ok (.i2l, 1) := by decide +kernel
theorem d_Mo_level_22 : decode b_Mo_level 22 = .ok (.lcmp, 1) := by decide +kernel
theorem d_Mo_level_23 : decode b_Mo_level 23 = .ok (.ifCond .gt 19, 3) := by decide +kernel
theorem d_Mo_level_26 : decode b_Mo_level 26 = .ok (.iinc 3 1, 3) := by decide +kernel
theorem d_Mo_level_29 : decode b_Mo_level 29 = .ok (.lload 4, 2) := by decide +kernel
theorem d_Mo_level_31 : decode b_Mo_level 31 = .ok (.aload_n 0, 1) := by decide +kernel
theorem d_Mo_level_32 : decode b_Mo_level 32 = .ok (.getfield 59, 3) := by decide +kernel
theorem d_Mo_level_35 : decode b_Mo_level 35 = .ok (.i2l, 1) := by decide +kernel
theorem d_Mo_level_36 : decode b_Mo_level 36 = .ok (.lmul, 1) := by decide +kernel
theorem d_Mo_level_37 : decode b_Mo_level 37 = .ok (.lstore 4, 2) := by decide +kernel
theorem d_Mo_level_39 : decode b_Mo_level 39 = .ok (.goto (-21), 3) := by decide +kernel
theorem d_Mo_level_42 : decode b_Mo_level 42 = .ok (.iload_n 3, 1) := by decide +kernel
theorem d_Mo_level_43 : decode b_Mo_level 43 = .ok (.ireturn, 1) := by decide +kernel
theorem kc_Mo_level : Cond.code y_Mo_level b_Mo_level 6 (some .int) ∈ gx_all := gx_in 1182 (by decide +kernel)
abbrev b_Mo_limits : ByteArray := prog_9_method_15_code
def y_Mo_limits : MethodName := ⟨"CommitLedgerModel", "limits", "(II)V"⟩
theorem d_Mo_limits_0 : decode b_Mo_limits 0 = .ok (.aload_n 0, 1) := by decide +kernel
theorem d_Mo_limits_1 : decode b_Mo_limits 1 = .ok (.iload_n 1, 1) := by decide +kernel
theorem d_Mo_limits_2 : decode b_Mo_limits 2 = .ok (.iconst 1, 1) := by decide +kernel
theorem d_Mo_limits_3 : decode b_Mo_limits 3 = .ok (.if_icmp .lt 21, 3) := by decide +kernel
theorem d_Mo_limits_6 : decode b_Mo_limits 6 = .ok (.iload_n 1, 1) := by decide +kernel
theorem d_Mo_limits_7 : decode b_Mo_limits 7 = .ok (.sipush 10000, 3) := by decide +kernel
theorem d_Mo_limits_10 : decode b_Mo_limits 10 = .ok (.if_icmp .gt 14, 3) := by decide +kernel
theorem d_Mo_limits_13 : decode b_Mo_limits 13 = .ok (.iload_n 2, 1) := by decide +kernel
theorem d_Mo_limits_14 : decode b_Mo_limits 14 = .ok (.iconst 2, 1) := by decide +kernel
theorem d_Mo_limits_15 : decode b_Mo_limits 15 = .ok (.if_icmp .lt 9, 3) := by decide +kernel
theorem d_Mo_limits_18 : decode b_Mo_limits 18 = .ok (.iload_n 2, 1) := by decide +kernel
theorem d_Mo_limits_19 : decode b_Mo_limits 19 = .ok (.bipush 64, 2) := by decide +kernel
theorem d_Mo_limits_21 : decode b_Mo_limits 21 = .ok (.if_icmp .le 7, 3) := by decide +kernel
theorem d_Mo_limits_24 : decode b_Mo_limits 24 = .ok (.iconst 1, 1) := by decide +kernel
theorem d_Mo_limits_25 : decode b_Mo_limits 25 = .ok (.goto 4, 3) := by decide +kernel
theorem d_Mo_limits_28 : decode b_Mo_limits 28 = .ok (.iconst 0, 1) := by decide +kernel
theorem d_Mo_limits_29 : decode b_Mo_limits 29 = .ok (.iconst 1, 1) := by decide +kernel
theorem d_Mo_limits_30 : decode b_Mo_limits 30 = .ok (.invokevirtual 152, 3) := by decide +kernel
theorem d_Mo_limits_33 : decode b_Mo_limits 33 = .ok (.ifCond .ne 13, 3) := by decide +kernel
theorem d_Mo_limits_36 : decode b_Mo_limits 36 = .ok (.aload_n 0, 1) := by decide +kernel
theorem d_Mo_limits_37 : decode b_Mo_limits 37 = .ok (.iload_n 1, 1) := by decide +kernel
theorem d_Mo_limits_38 : decode b_Mo_limits 38 = .ok (.putfield 56, 3) := by decide +kernel
theorem d_Mo_limits_41 : decode b_Mo_limits 41 = .ok (.aload_n 0, 1) := by decide +kernel
theorem d_Mo_limits_42 : decode b_Mo_limits 42 = .ok (.iload_n 2, 1) := by decide +kernel
theorem d_Mo_limits_43 : decode b_Mo_limits 43 = .ok (.putfield 59, 3) := by decide +kernel
theorem d_Mo_limits_46 : decode b_Mo_limits 46 = .ok (.aload_n 0, 1) := by decide +kernel
theorem d_Mo_limits_47 : decode b_Mo_limits 47 = .ok (.iconst 0, 1) := by decide +kernel
theorem d_Mo_limits_48 : decode b_Mo_limits 48 = .ok (.iconst 1, 1) := by decide +kernel
theorem d_Mo_limits_49 : decode b_Mo_limits 49 = .ok (.invokevirtual 148, 3) := by decide +kernel
theorem d_Mo_limits_52 : decode b_Mo_limits 52 = .ok (.istore_n 3, 1) := by decide +kernel
theorem d_Mo_limits_53 : decode b_Mo_limits 53 = .ok (.return_, 1) := by decide +kernel
theorem kc_Mo_limits : Cond.code y_Mo_limits b_Mo_limits 4 none ∈ gx_all := gx_in 1136 (by decide +kernel)
abbrev b_Mo_lose : ByteArray := prog_9_method_8_code
def y_Mo_lose : MethodName := ⟨"CommitLedgerModel", "lose", "()V"⟩
theorem d_Mo_lose_0 : decode b_Mo_lose 0 = .ok (.iconst 0, 1) := by decide +kernel
theorem d_Mo_lose_1 : decode b_Mo_lose 1 = .ok (.istore_n 1, 1) := by decide +kernel
theorem d_Mo_lose_2 : decode b_Mo_lose 2 = .ok (.iload_n 1, 1) := by decide +kernel
theorem d_Mo_lose_3 : decode b_Mo_lose 3 = .ok (.aload_n 0, 1) := by decide +kernel
theorem d_Mo_lose_4 : decode b_Mo_lose 4 = .ok (.getfield 93, 3) := by decide +kernel
theorem d_Mo_lose_7 : decode b_Mo_lose 7 = .ok (.if_icmp .ge 21, 3) := by decide +kernel
theorem d_Mo_lose_10 : decode b_Mo_lose 10 = .ok (.aload_n 0, 1) := by decide +kernel
theorem d_Mo_lose_11 : decode b_Mo_lose 11 = .ok (.getfield 30, 3) := by decide +kernel
theorem d_Mo_lose_14 : decode b_Mo_lose 14 = .ok (.iload_n 1, 1) := by decide +kernel
theorem d_Mo_lose_15 : decode b_Mo_lose 15 = .ok (.aload_n 0, 1) := by decide +kernel
theorem d_Mo_lose_16 : decode b_Mo_lose 16 = .ok (.getfield 23, 3) := by decide +kernel
theorem d_Mo_lose_19 : decode b_Mo_lose 19 = .ok (.iload_n 1, 1) := by decide +kernel
theorem d_Mo_lose_20 : decode b_Mo_lose 20 = .ok (.baload, 1) := by decide +kernel
theorem d_Mo_lose_21 : decode b_Mo_lose 21 = .ok (.bastore, 1) := by decide +kernel
theorem d_Mo_lose_22 : decode b_Mo_lose 22 = .ok (.iinc 1 1, 3) := by decide +kernel
theorem d_Mo_lose_25 : decode b_Mo_lose 25 = .ok (.goto (-23), 3) := by decide +kernel
theorem d_Mo_lose_28 : decode b_Mo_lose 28 = .ok (.aload_n 0, 1) := by decide +kernel
theorem d_Mo_lose_29 : decode b_Mo_lose 29 = .ok (.invokevirtual 96, 3) := by decide +kernel
theorem d_Mo_lose_32 : decode b_Mo_lose 32 = .ok (.aload_n 0, 1) := by decide +kernel
theorem d_Mo_lose_33 : decode b_Mo_lose 33 = .ok (.iconst 0, 1) := by decide +kernel
theorem d_Mo_lose_34 : decode b_Mo_lose 34 = .ok (.putfield 99, 3) := by decide +kernel
theorem d_Mo_lose_37 : decode b_Mo_lose 37 = .ok (.aload_n 0, 1) := by decide +kernel
theorem d_Mo_lose_38 : decode b_Mo_lose 38 = .ok (.getfield 76, 3) := by decide +kernel
theorem d_Mo_lose_41 : decode b_Mo_lose 41 = .ok (.astore_n 1, 1) := by decide +kernel
theorem d_Mo_lose_42 : decode b_Mo_lose 42 = .ok (.aload_n 1, 1) := by decide +kernel
theorem d_Mo_lose_43 : decode b_Mo_lose 43 = .ok (.arraylength, 1) := by decide +kernel
theorem d_Mo_lose_44 : decode b_Mo_lose 44 = .ok (.istore_n 2, 1) := by decide +kernel
theorem d_Mo_lose_45 : decode b_Mo_lose 45 = .ok (.iconst 0, 1) := by decide +kernel
theorem d_Mo_lose_46 : decode b_Mo_lose 46 = .ok (.istore_n 3, 1) := by decide +kernel
theorem d_Mo_lose_47 : decode b_Mo_lose 47 = .ok (.iload_n 3, 1) := by decide +kernel
theorem d_Mo_lose_48 : decode b_Mo_lose 48 = .ok (.iload_n 2, 1) := by decide +kernel
theorem d_Mo_lose_49 : decode b_Mo_lose 49 = .ok (.if_icmp .ge 20, 3) := by decide +kernel
theorem d_Mo_lose_52 : decode b_Mo_lose 52 = .ok (.aload_n 1, 1) := by decide +kernel
theorem d_Mo_lose_53 : decode b_Mo_lose 53 = .ok (.iload_n 3, 1) := by decide +kernel
theorem d_Mo_lose_54 : decode b_Mo_lose 54 = .ok (.aaload, 1) := by decide +kernel
theorem d_Mo_lose_55 : decode b_Mo_lose 55 = .ok (.astore 4, 2) := by decide +kernel
theorem d_Mo_lose_57 : decode b_Mo_lose 57 = .ok (.aload 4, 2) := by decide +kernel
theorem d_Mo_lose_59 : decode b_Mo_lose 59 = .ok (.iconst 0, 1) := by decide +kernel
theorem d_Mo_lose_60 : decode b_Mo_lose 60 = .ok (.putfield 103, 3) := by decide +kernel
theorem d_Mo_lose_63 : decode b_Mo_lose 63 = .ok (.iinc 3 1, 3) := by decide +kernel
theorem d_Mo_lose_66 : decode b_Mo_lose 66 = .ok (.goto (-19), 3) := by decide +kernel
theorem d_Mo_lose_69 : decode b_Mo_lose 69 = .ok (.aload_n 0, 1) := by decide +kernel
theorem d_Mo_lose_70 : decode b_Mo_lose 70 = .ok (.iconst 0, 1) := by decide +kernel
theorem d_Mo_lose_71 : decode b_Mo_lose 71 = .ok (.putfield 106, 3) := by decide +kernel
theorem d_Mo_lose_74 : decode b_Mo_lose 74 = .ok (.aload_n 0, 1) := by decide +kernel
theorem d_Mo_lose_75 : decode b_Mo_lose 75 = .ok (.iconst 0, 1) := by decide +kernel
theorem d_Mo_lose_76 : decode b_Mo_lose 76 = .ok (.putfield 109, 3) := by decide +kernel
theorem d_Mo_lose_79 : decode b_Mo_lose 79 = .ok (.aload_n 0, 1) := by decide +kernel
theorem d_Mo_lose_80 : decode b_Mo_lose 80 = .ok (.iconst (-1), 1) := by decide +kernel
theorem d_Mo_lose_81 : decode b_Mo_lose 81 = .ok (.putfield 33, 3) := by decide +kernel
theorem d_Mo_lose_84 : decode b_Mo_lose 84 = .ok (.aload_n 0, 1) := by decide +kernel
theorem d_Mo_lose_85 : decode b_Mo_lose 85 = .ok (.iconst 1, 1) := by decide +kernel
theorem d_Mo_lose_86 : decode b_Mo_lose 86 = .ok (.putfield 112, 3) := by decide +kernel
theorem d_Mo_lose_89 : decode b_Mo_lose 89 = .ok (.return_, 1) := by decide +kernel
theorem kc_Mo_lose : Cond.code y_Mo_lose b_Mo_lose 5 none ∈ gx_all := gx_in 1156 (by decide +kernel)
abbrev b_Mo_many : ByteArray := prog_9_method_45_code
def y_Mo_many : MethodName := ⟨"CommitLedgerModel", "many", "(II)I"⟩
theorem d_Mo_many_0 : decode b_Mo_many 0 = .ok (.aload_n 0, 1) := by decide +kernel
theorem d_Mo_many_1 : decode b_Mo_many 1 = .ok (.iload_n 1, 1) := by decide +kernel
theorem d_Mo_many_2 : decode b_Mo_many 2 = .ok (.invokevirtual 257, 3) := by decide +kernel
theorem d_Mo_many_5 : decode b_Mo_many 5 = .ok (.astore_n 3, 1) := by decide +kernel
theorem d_Mo_many_6 : decode b_Mo_many 6 = .ok (.iconst 0, 1) := by decide +kernel
theorem d_Mo_many_7 : decode b_Mo_many 7 = .ok (.istore 4, 2) := by decide +kernel
theorem d_Mo_many_9 : decode b_Mo_many 9 = .ok (.iconst 0, 1) := by decide +kernel
theorem d_Mo_many_10 : decode b_Mo_many 10 = .ok (.istore 5, 2) := by decide +kernel
theorem d_Mo_many_12 : decode b_Mo_many 12 = .ok (.iload 5, 2) := by decide +kernel
theorem d_Mo_many_14 : decode b_Mo_many 14 = .ok (.aload_n 3, 1) := by decide +kernel
theorem d_Mo_many_15 : decode b_Mo_many 15 = .ok (.invokevirtual 200, 3) := by decide +kernel
theorem d_Mo_many_18 : decode b_Mo_many 18 = .ok (.if_icmp .ge 38, 3) := by decide +kernel
theorem d_Mo_many_21 : decode b_Mo_many 21 = .ok (.aload_n 3, 1) := by decide +kernel
theorem d_Mo_many_22 : decode b_Mo_many 22 = .ok (.getfield 188, 3) := by decide +kernel
theorem d_Mo_many_25 : decode b_Mo_many 25 = .ok (.iload 5, 2) := by decide +kernel
theorem d_Mo_many_27 : decode b_Mo_many 27 = .ok (.baload, 1) := by decide +kernel
theorem d_Mo_many_28 : decode b_Mo_many 28 = .ok (.ifCond .eq 22, 3) := by decide +kernel
theorem d_Mo_many_31 : decode b_Mo_many 31 = .ok (.aload_n 0, 1) := by decide +kernel
theorem d_Mo_many_32 : decode b_Mo_many 32 = .ok (.getfield 9, 3) := by decide +kernel
theorem d_Mo_many_35 : decode b_Mo_many 35 = .ok (.aload_n 3, 1) := by decide +kernel
theorem d_Mo_many_36 : decode b_Mo_many 36 = .ok (.getfield 185, 3) := by decide +kernel
theorem d_Mo_many_39 : decode b_Mo_many 39 = .ok (.iload 5, 2) := by decide +kernel
theorem d_Mo_many_41 : decode b_Mo_many 41 = .ok (.iaload, 1) := by decide +kernel
theorem d_Mo_many_42 : decode b_Mo_many 42 = .ok (.iaload, 1) := by decide +kernel
theorem d_Mo_many_43 : decode b_Mo_many 43 = .ok (.iload_n 2, 1) := by decide +kernel
theorem d_Mo_many_44 : decode b_Mo_many 44 = .ok (.if_icmp .ne 6, 3) := by decide +kernel
theorem d_Mo_many_47 : decode b_Mo_many 47 = .ok (.iinc 4 1, 3) := by decide +kernel
theorem d_Mo_many_50 : decode b_Mo_many 50 = .ok (.iinc 5 1, 3) := by decide +kernel
theorem d_Mo_many_53 : decode b_Mo_many 53 = .ok (.goto (-41), 3) := by decide +kernel
theorem d_Mo_many_56 : decode b_Mo_many 56 = .ok (.aload_n 0, 1) := by decide +kernel
theorem d_Mo_many_57 : decode b_Mo_many 57 = .ok (.iload 4, 2) := by decide +kernel
theorem d_Mo_many_59 : decode b_Mo_many 59 = .ok (.iconst 3, 1) := by decide +kernel
theorem d_Mo_many_60 : decode b_Mo_many 60 = .ok (.invokevirtual 148, 3) := by decide +kernel
theorem d_Mo_many_63 : decode b_Mo_many 63 = .ok (.ireturn, 1) := by decide +kernel
theorem kc_Mo_many : Cond.code y_Mo_many b_Mo_many 6 (some .int) ∈ gx_all := gx_in 1272 (by decide +kernel)
