/-! NAMES: methods and their decode rows, printed by an own text program out of the Statement. -/
abbrev b_Mo_ending : ByteArray := prog_9_method_24_code
def y_Mo_ending : MethodName := ⟨"CommitLedgerModel", "ending", "(IZ)V"⟩
theorem d_Mo_ending_0 : decode b_Mo_ending 0 = .ok (.iconst 0, 1) := by decide +kernel
theorem d_Mo_ending_1 : decode b_Mo_ending 1 = .ok (.istore_n 3, 1) := by decide +kernel
theorem d_Mo_ending_2 : decode b_Mo_ending 2 = .ok (.aload_n 0, 1) := by decide +kernel
theorem d_Mo_ending_3 : decode b_Mo_ending 3 = .ok (.getfield 40, 3) := by decide +kernel
theorem d_Mo_ending_6 : decode b_Mo_ending 6 = .ok (.getfield 166, 3) := by decide +kernel
theorem d_Mo_ending_9 : decode b_Mo_ending 9 = .ok (.iload_n 3, 1) := by decide +kernel
theorem d_Mo_ending_10 : decode b_Mo_ending 10 = .ok (.iaload, 1) := by decide +kernel
theorem d_Mo_ending_11 : decode b_Mo_ending 11 = .ok (.aload_n 0, 1) := by decide +kernel
theorem d_Mo_ending_12 : decode b_Mo_ending 12 = .ok (.getfield 70, 3) := by decide +kernel
theorem d_Mo_ending_15 : decode b_Mo_ending 15 = .ok (.iload_n 1, 1) := by decide +kernel
theorem d_Mo_ending_16 : decode b_Mo_ending 16 = .ok (.iaload, 1) := by decide +kernel
theorem d_Mo_ending_17 : decode b_Mo_ending 17 = .ok (.if_icmp .eq 9, 3) := by decide +kernel
theorem d_Mo_ending_20 : decode b_Mo_ending 20 = .ok (.iinc 3 1, 3) := by decide +kernel
theorem d_Mo_ending_23 : decode b_Mo_ending 23 = .ok (.goto (-21), 3) := by decide +kernel
theorem d_Mo_ending_26 : decode b_Mo_ending 26 = .ok (.iload_n 3, 1) := by decide +kernel
theorem d_Mo_ending_27 : decode b_Mo_ending 27 = .ok (.istore 4, 2) := by decide +kernel
theorem d_Mo_ending_29 : decode b_Mo_ending 29 = .ok (.iload 4, 2) := by decide +kernel
theorem d_Mo_ending_31 : decode b_Mo_ending 31 = .ok (.aload_n 0, 1) := by decide +kernel
theorem d_Mo_ending_32 : decode b_Mo_ending 32 = .ok (.getfield 40, 3) := by decide +kernel
theorem d_Mo_ending_35 : decode b_Mo_ending 35 = .ok (.getfield 122, 3) := by decide +kernel
theorem d_Mo_ending_38 : decode b_Mo_ending 38 = .ok (.if_icmp .ge 28, 3) := by decide +kernel
theorem d_Mo_ending_41 : decode b_Mo_ending 41 = .ok (.aload_n 0, 1) := by decide +kernel
theorem d_Mo_ending_42 : decode b_Mo_ending 42 = .ok (.getfield 40, 3) := by decide +kernel
theorem d_Mo_ending_45 : decode b_Mo_ending 45 = .ok (.getfield 166, 3) := by decide +kernel
theorem d_Mo_ending_48 : decode b_Mo_ending 48 = .ok (.iload 4, 2) := by decide +kernel
theorem d_Mo_ending_50 : decode b_Mo_ending 50 = .ok (.iaload, 1) := by decide +kernel
theorem d_Mo_ending_51 : decode b_Mo_ending 51 = .ok (.aload_n 0, 1) := by decide +kernel
theorem d_Mo_ending_52 : decode b_Mo_ending 52 = .ok (.getfield 70, 3) := by decide +kernel
theorem d_Mo_ending_55 : decode b_Mo_ending 55 = .ok (.iload_n 1, 1) := by decide +kernel
theorem d_Mo_ending_56 : decode b_Mo_ending 56 = .ok (.iaload, 1) := by decide +kernel
theorem d_Mo_ending_57 : decode b_Mo_ending 57 = .ok (.if_icmp .ne 9, 3) := by decide +kernel
theorem d_Mo_ending_60 : decode b_Mo_ending 60 = .ok (.iinc 4 1, 3) := by decide +kernel
theorem d_Mo_ending_63 : decode b_Mo_ending 63 = .ok (.goto (-34), 3) := by decide +kernel
theorem d_Mo_ending_66 : decode b_Mo_ending 66 = .ok (.iload_n 2, 1) := by decide +kernel
theorem d_Mo_ending_67 : decode b_Mo_ending 67 = .ok (.ifCond .eq 14, 3) := by decide +kernel
theorem d_Mo_ending_70 : decode b_Mo_ending 70 = .ok (.aload_n 0, 1) := by decide +kernel
theorem d_Mo_ending_71 : decode b_Mo_ending 71 = .ok (.iload_n 3, 1) := by decide +kernel
theorem d_Mo_ending_72 : decode b_Mo_ending 72 = .ok (.iload 4, 2) := by decide +kernel
theorem d_Mo_ending_74 : decode b_Mo_ending 74 = .ok (.iload_n 1, 1) := by decide +kernel
theorem d_Mo_ending_75 : decode b_Mo_ending 75 = .ok (.invokevirtual 221, 3) := by decide +kernel
theorem d_Mo_ending_78 : decode b_Mo_ending 78 = .ok (.goto 30, 3) := by decide +kernel
theorem d_Mo_ending_81 : decode b_Mo_ending 81 = .ok (.iload_n 3, 1) := by decide +kernel
theorem d_Mo_ending_82 : decode b_Mo_ending 82 = .ok (.istore 5, 2) := by decide +kernel
theorem d_Mo_ending_84 : decode b_Mo_ending 84 = .ok (.iload 5, 2) := by decide +kernel
theorem d_Mo_ending_86 : decode b_Mo_ending 86 = .ok (.iload 4, 2) := by decide +kernel
theorem d_Mo_ending_88 : decode b_Mo_ending 88 = .ok (.if_icmp .ge 20, 3) := by decide +kernel
theorem d_Mo_ending_91 : decode b_Mo_ending 91 = .ok (.aload_n 0, 1) := by decide +kernel
theorem d_Mo_ending_92 : decode b_Mo_ending 92 = .ok (.getfield 40, 3) := by decide +kernel
theorem d_Mo_ending_95 : decode b_Mo_ending 95 = .ok (.getfield 166, 3) := by decide +kernel
theorem d_Mo_ending_98 : decode b_Mo_ending 98 = .ok (.iload 5, 2) := by decide +kernel
theorem d_Mo_ending_100 : decode b_Mo_ending 100 = .ok (.iconst 0, 1) := by decide +kernel
theorem d_Mo_ending_101 : decode b_Mo_ending 101 = .ok (.iastore, 1) := by decide +kernel
theorem d_Mo_ending_102 : decode b_Mo_ending 102 = .ok (.iinc 5 1, 3) := by decide +kernel
theorem d_Mo_ending_105 : decode b_Mo_ending 105 = .ok (.goto (-21), 3) := by decide +kernel
theorem d_Mo_ending_108 : decode b_Mo_ending 108 = .ok (.iload_n 1, 1) := by decide +kernel
theorem d_Mo_ending_109 : decode b_Mo_ending 109 = .ok (.istore 5, 2) := by decide +kernel
theorem d_Mo_ending_111 : decode b_Mo_ending 111 = .ok (.iload 5, 2) := by decide +kernel
theorem d_Mo_ending_113 : decode b_Mo_ending 113 = .ok (.iconst 1, 1) := by decide +kernel
theorem d_Mo_ending_114 : decode b_Mo_ending 114 = .ok (.iadd, 1) := by decide +kernel
theorem d_Mo_ending_115 : decode b_Mo_ending 115 = .ok (.aload_n 0, 1) := by decide +kernel
theorem d_Mo_ending_116 : decode b_Mo_ending 116 = .ok (.getfield 106, 3) := by decide +kernel
theorem d_Mo_ending_119 : decode b_Mo_ending 119 = .ok (.if_icmp .ge 93, 3) := by decide +kernel
theorem d_Mo_ending_122 : decode b_Mo_ending 122 = .ok (.aload_n 0, 1) := by decide +kernel
theorem d_Mo_ending_123 : decode b_Mo_ending 123 = .ok (.getfield 64, 3) := by decide +kernel
theorem d_Mo_ending_126 : decode b_Mo_ending 126 = .ok (.iload 5, 2) := by decide +kernel
theorem d_Mo_ending_128 : decode b_Mo_ending 128 = .ok (.aaload, 1) := by decide +kernel
theorem d_Mo_ending_129 : decode b_Mo_ending 129 = .ok (.astore 6, 2) := by decide +kernel
theorem d_Mo_ending_131 : decode b_Mo_ending 131 = .ok (.aload_n 0, 1) := by decide +kernel
theorem d_Mo_ending_132 : decode b_Mo_ending 132 = .ok (.getfield 64, 3) := by decide +kernel
theorem d_Mo_ending_135 : decode b_Mo_ending 135 = .ok (.iload 5, 2) := by decide +kernel
theorem d_Mo_ending_137 : decode b_Mo_ending 137 = .ok (.aload_n 0, 1) := by decide +kernel
theorem d_Mo_ending_138 : decode b_Mo_ending 138 = .ok (.getfield 64, 3) := by decide +kernel
theorem d_Mo_ending_141 : decode b_Mo_ending 141 = .ok (.iload 5, 2) := by decide +kernel
theorem d_Mo_ending_143 : decode b_Mo_ending 143 = .ok (.iconst 1, 1) := by decide +kernel
theorem d_Mo_ending_144 : decode b_Mo_ending 144 = .ok (.iadd, 1) := by decide +kernel
theorem d_Mo_ending_145 : decode b_Mo_ending 145 = .ok (.aaload, 1) := by decide +kernel
theorem d_Mo_ending_146 : decode b_Mo_ending 146 = .ok (.aastore, 1) := by decide +kernel
theorem d_Mo_ending_147 : decode b_Mo_ending 147 = .ok (.aload_n 0, 1) := by decide +kernel
theorem d_Mo_ending_148 : decode b_Mo_ending 148 = .ok (.getfield 64, 3) := by decide +kernel
theorem d_Mo_ending_151 : decode b_Mo_ending 151 = .ok (.iload 5, 2) := by decide +kernel
theorem d_Mo_ending_153 : decode b_Mo_ending 153 = .ok (.iconst 1, 1) := by decide +kernel
theorem d_Mo_ending_154 : decode b_Mo_ending 154 = .ok (.iadd, 1) := by decide +kernel
theorem d_Mo_ending_155 : decode b_Mo_ending 155 = .ok (.aload 6, 2) := by decide +kernel
theorem d_Mo_ending_157 : decode b_Mo_ending 157 = .ok (.aastore, 1) := by decide +kernel
theorem d_Mo_ending_158 : decode b_Mo_ending 158 = .ok (.aload_n 0, 1) := by decide +kernel
theorem d_Mo_ending_159 : decode b_Mo_ending 159 = .ok (.getfield 67, 3) := by decide +kernel
theorem d_Mo_ending_162 : decode b_Mo_ending 162 = .ok (.iload 5, 2) := by decide +kernel
theorem d_Mo_ending_164 : decode b_Mo_ending 164 = .ok (.aload_n 0, 1) := by decide +kernel
theorem d_Mo_ending_165 : decode b_Mo_ending 165 = .ok (.getfield 67, 3) := by decide +kernel
theorem d_Mo_ending_168 : decode b_Mo_ending 168 = .ok (.iload 5, 2) := by decide +kernel
theorem d_Mo_ending_170 : decode b_Mo_ending 170 = .ok (.iconst 1, 1) := by decide +kernel
theorem d_Mo_ending_171 : decode b_Mo_ending 171 = .ok (.iadd, 1) := by decide +kernel
theorem d_Mo_ending_172 : decode b_Mo_ending 172 = .ok (.iaload, 1) := by decide +kernel
theorem d_Mo_ending_173 : decode b_Mo_ending 173 = .ok (.iastore, 1) := by decide +kernel
theorem d_Mo_ending_174 : decode b_Mo_ending 174 = .ok (.aload_n 0, 1) := by decide +kernel
theorem d_Mo_ending_175 : decode b_Mo_ending 175 = .ok (.getfield 70, 3) := by decide +kernel
theorem d_Mo_ending_178 : decode b_Mo_ending 178 = .ok (.iload 5, 2) := by decide +kernel
theorem d_Mo_ending_180 : decode b_Mo_ending 180 = .ok (.aload_n 0, 1) := by decide +kernel
theorem d_Mo_ending_181 : decode b_Mo_ending 181 = .ok (.getfield 70, 3) := by decide +kernel
theorem d_Mo_ending_184 : decode b_Mo_ending 184 = .ok (.iload 5, 2) := by decide +kernel
theorem d_Mo_ending_186 : decode b_Mo_ending 186 = .ok (.iconst 1, 1) := by decide +kernel
theorem d_Mo_ending_187 : decode b_Mo_ending 187 = .ok (.iadd, 1) := by decide +kernel
theorem d_Mo_ending_188 : decode b_Mo_ending 188 = .ok (.iaload, 1) := by decide +kernel
theorem d_Mo_ending_189 : decode b_Mo_ending 189 = .ok (.iastore, 1) := by decide +kernel
theorem d_Mo_ending_190 : decode b_Mo_ending 190 = .ok (.aload_n 0, 1) := by decide +kernel
theorem d_Mo_ending_191 : decode b_Mo_ending 191 = .ok (.getfield 73, 3) := by decide +kernel
theorem d_Mo_ending_194 : decode b_Mo_ending 194 = .ok (.iload 5, 2) := by decide +kernel
theorem d_Mo_ending_196 : decode b_Mo_ending 196 = .ok (.aload_n 0, 1) := by decide +kernel
theorem d_Mo_ending_197 : decode b_Mo_ending 197 = .ok (.getfield 73, 3) := by decide +kernel
theorem d_Mo_ending_200 : decode b_Mo_ending 200 = .ok (.iload 5, 2) := by decide +kernel
theorem d_Mo_ending_202 : decode b_Mo_ending 202 = .ok (.iconst 1, 1) := by decide +kernel
theorem d_Mo_ending_203 : decode b_Mo_ending 203 = .ok (.iadd, 1) := by decide +kernel
theorem d_Mo_ending_204 : decode b_Mo_ending 204 = .ok (.iaload, 1) := by decide +kernel
theorem d_Mo_ending_205 : decode b_Mo_ending 205 = .ok (.iastore, 1) := by decide +kernel
theorem d_Mo_ending_206 : decode b_Mo_ending 206 = .ok (.iinc 5 1, 3) := by decide +kernel
theorem d_Mo_ending_209 : decode b_Mo_ending 209 = .ok (.goto (-98), 3) := by decide +kernel
theorem d_Mo_ending_212 : decode b_Mo_ending 212 = .ok (.aload_n 0, 1) := by decide +kernel
theorem d_Mo_ending_213 : decode b_Mo_ending 213 = .ok (.dup, 1) := by decide +kernel
theorem d_Mo_ending_214 : decode b_Mo_ending 214 = .ok (.getfield 106, 3) := by decide +kernel
theorem d_Mo_ending_217 : decode b_Mo_ending 217 = .ok (.iconst 1, 1) := by decide +kernel
theorem d_Mo_ending_218 : decode b_Mo_ending 218 = .ok (.isub, 1) := by decide +kernel
theorem d_Mo_ending_219 : decode b_Mo_ending 219 = .ok (.putfield 106, 3) := by decide +kernel
theorem d_Mo_ending_222 : decode b_Mo_ending 222 = .ok (.aload_n 0, 1) := by decide +kernel
theorem d_Mo_ending_223 : decode b_Mo_ending 223 = .ok (.getfield 40, 3) := by decide +kernel
theorem d_Mo_ending_226 : decode b_Mo_ending 226 = .ok (.invokevirtual 169, 3) := by decide +kernel
theorem d_Mo_ending_229 : decode b_Mo_ending 229 = .ok (.return_, 1) := by decide +kernel
theorem kc_Mo_ending : Cond.code y_Mo_ending b_Mo_ending 7 none ∈ gx_all := gx_in 1190 (by decide +kernel)
abbrev b_Mo_erase : ByteArray := prog_9_method_18_code
def y_Mo_erase : MethodName := ⟨"CommitLedgerModel", "erase", "(I)I"⟩
theorem d_Mo_erase_0 : decode b_Mo_erase 0 = .ok (.aload_n 0, 1) := by decide +kernel
theorem d_Mo_erase_1 : decode b_Mo_erase 1 = .ok (.aload_n 0, 1) := by decide +kernel
theorem d_Mo_erase_2 : decode b_Mo_erase 2 = .ok (.getfield 99, 3) := by decide +kernel
theorem d_Mo_erase_5 : decode b_Mo_erase 5 = .ok (.ifCond .ne 7, 3) := by decide +kernel
theorem d_Mo_erase_8 : decode b_Mo_erase 8 = .ok (.iconst 1, 1) := by decide +kernel
theorem d_Mo_erase_9 : decode b_Mo_erase 9 = .ok (.goto 4, 3) := by decide +kernel
theorem d_Mo_erase_12 : decode b_Mo_erase 12 = .ok (.iconst 0, 1) := by decide +kernel
theorem d_Mo_erase_13 : decode b_Mo_erase 13 = .ok (.iconst 2, 1) := by decide +kernel
theorem d_Mo_erase_14 : decode b_Mo_erase 14 = .ok (.invokevirtual 152, 3) := by decide +kernel
theorem d_Mo_erase_17 : decode b_Mo_erase 17 = .ok (.ifCond .eq 10, 3) := by decide +kernel
theorem d_Mo_erase_20 : decode b_Mo_erase 20 = .ok (.aload_n 0, 1) := by decide +kernel
theorem d_Mo_erase_21 : decode b_Mo_erase 21 = .ok (.iconst 0, 1) := by decide +kernel
theorem d_Mo_erase_22 : decode b_Mo_erase 22 = .ok (.iconst 2, 1) := by decide +kernel
theorem d_Mo_erase_23 : decode b_Mo_erase 23 = .ok (.invokevirtual 148, 3) := by decide +kernel
theorem d_Mo_erase_26 : decode b_Mo_erase 26 = .ok (.ireturn, 1) := by decide +kernel
theorem d_Mo_erase_27 : decode b_Mo_erase 27 = .ok (.iconst 0, 1) := by decide +kernel
theorem d_Mo_erase_28 : decode b_Mo_erase 28 = .ok (.istore_n 2, 1) := by decide +kernel
theorem d_Mo_erase_29 : decode b_Mo_erase 29 = .ok (.iconst 0, 1) := by decide +kernel
theorem d_Mo_erase_30 : decode b_Mo_erase 30 = .ok (.istore_n 3, 1) := by decide +kernel
theorem d_Mo_erase_31 : decode b_Mo_erase 31 = .ok (.iload_n 3, 1) := by decide +kernel
theorem d_Mo_erase_32 : decode b_Mo_erase 32 = .ok (.aload_n 0, 1) := by decide +kernel
theorem d_Mo_erase_33 : decode b_Mo_erase 33 = .ok (.getfield 40, 3) := by decide +kernel
theorem d_Mo_erase_36 : decode b_Mo_erase 36 = .ok (.invokevirtual 200, 3) := by decide +kernel
theorem d_Mo_erase_39 : decode b_Mo_erase 39 = .ok (.if_icmp .ge 55, 3) := by decide +kernel
theorem d_Mo_erase_42 : decode b_Mo_erase 42 = .ok (.aload_n 0, 1) := by decide +kernel
theorem d_Mo_erase_43 : decode b_Mo_erase 43 = .ok (.getfield 40, 3) := by decide +kernel
theorem d_Mo_erase_46 : decode b_Mo_erase 46 = .ok (.getfield 188, 3) := by decide +kernel
theorem d_Mo_erase_49 : decode b_Mo_erase 49 = .ok (.iload_n 3, 1) := by decide +kernel
theorem d_Mo_erase_50 : decode b_Mo_erase 50 = .ok (.baload, 1) := by decide +kernel
theorem d_Mo_erase_51 : decode b_Mo_erase 51 = .ok (.ifCond .eq 37, 3) := by decide +kernel
theorem d_Mo_erase_54 : decode b_Mo_erase 54 = .ok (.aload_n 0, 1) := by decide +kernel
theorem d_Mo_erase_55 : decode b_Mo_erase 55 = .ok (.getfield 9, 3) := by decide +kernel
theorem d_Mo_erase_58 : decode b_Mo_erase 58 = .ok (.aload_n 0, 1) := by decide +kernel
theorem d_Mo_erase_59 : decode b_Mo_erase 59 = .ok (.getfield 40, 3) := by decide +kernel
theorem d_Mo_erase_62 : decode b_Mo_erase 62 = .ok (.getfield 185, 3) := by decide +kernel
theorem d_Mo_erase_65 : decode b_Mo_erase 65 = .ok (.iload_n 3, 1) := by decide +kernel
theorem d_Mo_erase_66 : decode b_Mo_erase 66 = .ok (.iaload, 1) := by decide +kernel
theorem d_Mo_erase_67 : decode b_Mo_erase 67 = .ok (.iaload, 1) := by decide +kernel
theorem d_Mo_erase_68 : decode b_Mo_erase 68 = .ok (.iload_n 1, 1) := by decide +kernel
theorem d_Mo_erase_69 : decode b_Mo_erase 69 = .ok (.if_icmp .eq 6, 3) := by decide +kernel
theorem d_Mo_erase_72 : decode b_Mo_erase 72 = .ok (.goto 16, 3) := by decide +kernel
theorem d_Mo_erase_75 : decode b_Mo_erase 75 = .ok (.aload_n 0, 1) := by decide +kernel
theorem d_Mo_erase_76 : decode b_Mo_erase 76 = .ok (.getfield 40, 3) := by decide +kernel
theorem d_Mo_erase_79 : decode b_Mo_erase 79 = .ok (.getfield 188, 3) := by decide +kernel
theorem d_Mo_erase_82 : decode b_Mo_erase 82 = .ok (.iload_n 3, 1) := by decide +kernel
theorem d_Mo_erase_83 : decode b_Mo_erase 83 = .ok (.iconst 0, 1) := by decide +kernel
theorem d_Mo_erase_84 : decode b_Mo_erase 84 = .ok (.bastore, 1) := by decide +kernel
theorem d_Mo_erase_85 : decode b_Mo_erase 85 = .ok (.iinc 2 1, 3) := by decide +kernel
theorem d_Mo_erase_88 : decode b_Mo_erase 88 = .ok (.iinc 3 1, 3) := by decide +kernel
theorem d_Mo_erase_91 : decode b_Mo_erase 91 = .ok (.goto (-60), 3) := by decide +kernel
theorem d_Mo_erase_94 : decode b_Mo_erase 94 = .ok (.iconst 0, 1) := by decide +kernel
theorem d_Mo_erase_95 : decode b_Mo_erase 95 = .ok (.istore_n 3, 1) := by decide +kernel
theorem d_Mo_erase_96 : decode b_Mo_erase 96 = .ok (.iload_n 3, 1) := by decide +kernel
theorem d_Mo_erase_97 : decode b_Mo_erase 97 = .ok (.aload_n 0, 1) := by decide +kernel
theorem d_Mo_erase_98 : decode b_Mo_erase 98 = .ok (.getfield 172, 3) := by decide +kernel
theorem d_Mo_erase_101 : decode b_Mo_erase 101 = .ok (.if_icmp .ge 46, 3) := by decide +kernel
theorem d_Mo_erase_104 : decode b_Mo_erase 104 = .ok (.aload_n 0, 1) := by decide +kernel
theorem d_Mo_erase_105 : decode b_Mo_erase 105 = .ok (.getfield 53, 3) := by decide +kernel
theorem d_Mo_erase_108 : decode b_Mo_erase 108 = .ok (.iload_n 3, 1) := by decide +kernel
theorem d_Mo_erase_109 : decode b_Mo_erase 109 = .ok (.baload, 1) := by decide +kernel
theorem d_Mo_erase_110 : decode b_Mo_erase 110 = .ok (.ifCond .eq 31, 3) := by decide +kernel
theorem d_Mo_erase_113 : decode b_Mo_erase 113 = .ok (.aload_n 0, 1) := by decide +kernel
theorem d_Mo_erase_114 : decode b_Mo_erase 114 = .ok (.getfield 9, 3) := by decide +kernel
theorem d_Mo_erase_117 : decode b_Mo_erase 117 = .ok (.aload_n 0, 1) := by decide +kernel
theorem d_Mo_erase_118 : decode b_Mo_erase 118 = .ok (.getfield 50, 3) := by decide +kernel
theorem d_Mo_erase_121 : decode b_Mo_erase 121 = .ok (.iload_n 3, 1) := by decide +kernel
theorem d_Mo_erase_122 : decode b_Mo_erase 122 = .ok (.iaload, 1) := by decide +kernel
theorem d_Mo_erase_123 : decode b_Mo_erase 123 = .ok (.iaload, 1) := by decide +kernel
theorem d_Mo_erase_124 : decode b_Mo_erase 124 = .ok (.iload_n 1, 1) := by decide +kernel
theorem d_Mo_erase_125 : decode b_Mo_erase 125 = .ok (.if_icmp .eq 6, 3) := by decide +kernel
theorem d_Mo_erase_128 : decode b_Mo_erase 128 = .ok (.goto 13, 3) := by decide +kernel
theorem d_Mo_erase_131 : decode b_Mo_erase 131 = .ok (.aload_n 0, 1) := by decide +kernel
theorem d_Mo_erase_132 : decode b_Mo_erase 132 = .ok (.getfield 53, 3) := by decide +kernel
theorem d_Mo_erase_135 : decode b_Mo_erase 135 = .ok (.iload_n 3, 1) := by decide +kernel
theorem d_Mo_erase_136 : decode b_Mo_erase 136 = .ok (.iconst 0, 1) := by decide +kernel
theorem d_Mo_erase_137 : decode b_Mo_erase 137 = .ok (.bastore, 1) := by decide +kernel
theorem d_Mo_erase_138 : decode b_Mo_erase 138 = .ok (.iinc 2 1, 3) := by decide +kernel
theorem d_Mo_erase_141 : decode b_Mo_erase 141 = .ok (.iinc 3 1, 3) := by decide +kernel
theorem d_Mo_erase_144 : decode b_Mo_erase 144 = .ok (.goto (-48), 3) := by decide +kernel
theorem d_Mo_erase_147 : decode b_Mo_erase 147 = .ok (.aload_n 0, 1) := by decide +kernel
theorem d_Mo_erase_148 : decode b_Mo_erase 148 = .ok (.getfield 40, 3) := by decide +kernel
theorem d_Mo_erase_151 : decode b_Mo_erase 151 = .ok (.invokevirtual 169, 3) := by decide +kernel
theorem d_Mo_erase_154 : decode b_Mo_erase 154 = .ok (.aload_n 0, 1) := by decide +kernel
theorem d_Mo_erase_155 : decode b_Mo_erase 155 = .ok (.iload_n 2, 1) := by decide +kernel
theorem d_Mo_erase_156 : decode b_Mo_erase 156 = .ok (.iconst 2, 1) := by decide +kernel
theorem d_Mo_erase_157 : decode b_Mo_erase 157 = .ok (.invokevirtual 175, 3) := by decide +kernel
theorem d_Mo_erase_160 : decode b_Mo_erase 160 = .ok (.ireturn, 1) := by decide +kernel
theorem kc_Mo_erase : Cond.code y_Mo_erase b_Mo_erase 4 (some .int) ∈ gx_all := gx_in 1160 (by decide +kernel)
abbrev b_Mo_finish : ByteArray := prog_9_method_26_code
def y_Mo_finish : MethodName := ⟨"CommitLedgerModel", "finish", "(IZ)I"⟩
theorem d_Mo_finish_0 : decode b_Mo_finish 0 = .ok (.iconst 0, 1) := by decide +kernel
theorem d_Mo_finish_1 : decode b_Mo_finish 1 = .ok (.istore_n 3, 1) := by decide +kernel
theorem d_Mo_finish_2 : decode b_Mo_finish 2 = .ok (.iload_n 3, 1) := by decide +kernel
theorem d_Mo_finish_3 : decode b_Mo_finish 3 = .ok (.aload_n 0, 1) := by decide +kernel
theorem d_Mo_finish_4 : decode b_Mo_finish 4 = .ok (.getfield 106, 3) := by decide +kernel
theorem d_Mo_finish_7 : decode b_Mo_finish 7 = .ok (.if_icmp .ge 19, 3) := by decide +kernel
theorem d_Mo_finish_10 : decode b_Mo_finish 10 = .ok (.aload_n 0, 1) := by decide +kernel
theorem d_Mo_finish_11 : decode b_Mo_finish 11 = .ok (.getfield 70, 3) := by decide +kernel
theorem d_Mo_finish_14 : decode b_Mo_finish 14 = .ok (.iload_n 3, 1) := by decide +kernel
theorem d_Mo_finish_15 : decode b_Mo_finish 15 = .ok (.iaload, 1) := by decide +kernel
theorem d_Mo_finish_16 : decode b_Mo_finish 16 = .ok (.iload_n 1, 1) := by decide +kernel
theorem d_Mo_finish_17 : decode b_Mo_finish 17 = .ok (.if_icmp .eq 9, 3) := by decide +kernel
theorem d_Mo_finish_20 : decode b_Mo_finish 20 = .ok (.iinc 3 1, 3) := by decide +kernel
theorem d_Mo_finish_23 : decode b_Mo_finish 23 = .ok (.goto (-21), 3) := by decide +kernel
theorem d_Mo_finish_26 : decode b_Mo_finish 26 = .ok (.aload_n 0, 1) := by decide +kernel
theorem d_Mo_finish_27 : decode b_Mo_finish 27 = .ok (.aload_n 0, 1) := by decide +kernel
theorem d_Mo_finish_28 : decode b_Mo_finish 28 = .ok (.getfield 99, 3) := by decide +kernel
theorem d_Mo_finish_31 : decode b_Mo_finish 31 = .ok (.ifCond .ne 7, 3) := by decide +kernel
theorem d_Mo_finish_34 : decode b_Mo_finish 34 = .ok (.iconst 1, 1) := by decide +kernel
theorem d_Mo_finish_35 : decode b_Mo_finish 35 = .ok (.goto 4, 3) := by decide +kernel
theorem d_Mo_finish_38 : decode b_Mo_finish 38 = .ok (.iconst 0, 1) := by decide +kernel
theorem d_Mo_finish_39 : decode b_Mo_finish 39 = .ok (.iconst 2, 1) := by decide +kernel
theorem d_Mo_finish_40 : decode b_Mo_finish 40 = .ok (.invokevirtual 152, 3) := by decide +kernel
theorem d_Mo_finish_43 : decode b_Mo_finish 43 = .ok (.ifCond .ne 24, 3) := by decide +kernel
theorem d_Mo_finish_46 : decode b_Mo_finish 46 = .ok (.aload_n 0, 1) := by decide +kernel
theorem d_Mo_finish_47 : decode b_Mo_finish 47 = .ok (.iload_n 3, 1) := by decide +kernel
theorem d_Mo_finish_48 : decode b_Mo_finish 48 = .ok (.aload_n 0, 1) := by decide +kernel
theorem d_Mo_finish_49 : decode b_Mo_finish 49 = .ok (.getfield 106, 3) := by decide +kernel
theorem d_Mo_finish_52 : decode b_Mo_finish 52 = .ok (.if_icmp .ne 7, 3) := by decide +kernel
theorem d_Mo_finish_55 : decode b_Mo_finish 55 = .ok (.iconst 1, 1) := by decide +kernel
theorem d_Mo_finish_56 : decode b_Mo_finish 56 = .ok (.goto 4, 3) := by decide +kernel
theorem d_Mo_finish_59 : decode b_Mo_finish 59 = .ok (.iconst 0, 1) := by decide +kernel
theorem d_Mo_finish_60 : decode b_Mo_finish 60 = .ok (.iconst 3, 1) := by decide +kernel
theorem d_Mo_finish_61 : decode b_Mo_finish 61 = .ok (.invokevirtual 152, 3) := by decide +kernel
theorem d_Mo_finish_64 : decode b_Mo_finish 64 = .ok (.ifCond .eq 11, 3) := by decide +kernel
theorem d_Mo_finish_67 : decode b_Mo_finish 67 = .ok (.aload_n 0, 1) := by decide +kernel
theorem d_Mo_finish_68 : decode b_Mo_finish 68 = .ok (.iconst 0, 1) := by decide +kernel
theorem d_Mo_finish_69 : decode b_Mo_finish 69 = .ok (.bipush 23, 2) := by decide +kernel
theorem d_Mo_finish_71 : decode b_Mo_finish 71 = .ok (.invokevirtual 148, 3) := by decide +kernel
theorem d_Mo_finish_74 : decode b_Mo_finish 74 = .ok (.ireturn, 1) := by decide +kernel
theorem d_Mo_finish_75 : decode b_Mo_finish 75 = .ok (.aload_n 0, 1) := by decide +kernel
theorem d_Mo_finish_76 : decode b_Mo_finish 76 = .ok (.iload_n 3, 1) := by decide +kernel
theorem d_Mo_finish_77 : decode b_Mo_finish 77 = .ok (.iload_n 2, 1) := by decide +kernel
theorem d_Mo_finish_78 : decode b_Mo_finish 78 = .ok (.invokevirtual 225, 3) := by decide +kernel
theorem d_Mo_finish_81 : decode b_Mo_finish 81 = .ok (.aload_n 0, 1) := by decide +kernel
theorem d_Mo_finish_82 : decode b_Mo_finish 82 = .ok (.aload_n 0, 1) := by decide +kernel
theorem d_Mo_finish_83 : decode b_Mo_finish 83 = .ok (.getfield 40, 3) := by decide +kernel
theorem d_Mo_finish_86 : decode b_Mo_finish 86 = .ok (.getfield 122, 3) := by decide +kernel
theorem d_Mo_finish_89 : decode b_Mo_finish 89 = .ok (.bipush 23, 2) := by decide +kernel
theorem d_Mo_finish_91 : decode b_Mo_finish 91 = .ok (.invokevirtual 175, 3) := by decide +kernel
theorem d_Mo_finish_94 : decode b_Mo_finish 94 = .ok (.ireturn, 1) := by decide +kernel
theorem kc_Mo_finish : Cond.code y_Mo_finish b_Mo_finish 4 (some .int) ∈ gx_all := gx_in 1186 (by decide +kernel)
abbrev b_Mo_finished : ByteArray := prog_9_method_12_code
def y_Mo_finished : MethodName := ⟨"CommitLedgerModel", "finished", "(II)I"⟩
theorem d_Mo_finished_0 : decode b_Mo_finished 0 = .ok (.aload_n 0, 1) := by decide +kernel
theorem d_Mo_finished_1 : decode b_Mo_finished 1 = .ok (.invokevirtual 145, 3) := by decide +kernel
theorem d_Mo_finished_4 : decode b_Mo_finished 4 = .ok (.aload_n 0, 1) := by decide +kernel
theorem d_Mo_finished_5 : decode b_Mo_finished 5 = .ok (.iload_n 1, 1) := by decide +kernel
theorem d_Mo_finished_6 : decode b_Mo_finished 6 = .ok (.iload_n 2, 1) := by decide +kernel
theorem d_Mo_finished_7 : decode b_Mo_finished 7 = .ok (.invokevirtual 148, 3) := by decide +kernel
theorem d_Mo_finished_10 : decode b_Mo_finished 10 = .ok (.ireturn, 1) := by decide +kernel
theorem kc_Mo_finished : Cond.code y_Mo_finished b_Mo_finished 3 (some .int) ∈ gx_all := gx_in 1120 (by decide +kernel)
abbrev b_Mo_flush : ByteArray := prog_9_method_19_code
def y_Mo_flush : MethodName := ⟨"CommitLedgerModel", "flush", "()I"⟩
theorem d_Mo_flush_0 : decode b_Mo_flush 0 = .ok (.aload_n 0, 1) := by decide +kernel
theorem d_Mo_flush_1 : decode b_Mo_flush 1 = .ok (.aload_n 0, 1) := by decide +kernel
theorem d_Mo_flush_2 : decode b_Mo_flush 2 = .ok (.getfield 99, 3) := by decide +kernel
theorem d_Mo_flush_5 : decode b_Mo_flush 5 = .ok (.ifCond .ne 7, 3) := by decide +kernel
theorem d_Mo_flush_8 : decode b_Mo_flush 8 = .ok (.iconst 1, 1) := by decide +kernel
theorem d_Mo_flush_9 : decode b_Mo_flush 9 = .ok (.goto 4, 3) := by decide +kernel
theorem d_Mo_flush_12 : decode b_Mo_flush 12 = .ok (.iconst 0, 1) := by decide +kernel
theorem d_Mo_flush_13 : decode b_Mo_flush 13 = .ok (.iconst 2, 1) := by decide +kernel
theorem d_Mo_flush_14 : decode b_Mo_flush 14 = .ok (.invokevirtual 152, 3) := by decide +kernel
theorem d_Mo_flush_17 : decode b_Mo_flush 17 = .ok (.ifCond .ne 18, 3) := by decide +kernel
theorem d_Mo_flush_20 : decode b_Mo_flush 20 = .ok (.aload_n 0, 1) := by decide +kernel
theorem d_Mo_flush_21 : decode b_Mo_flush 21 = .ok (.invokevirtual 197, 3) := by decide +kernel
theorem d_Mo_flush_24 : decode b_Mo_flush 24 = .ok (.ifCond .ne 11, 3) := by decide +kernel
theorem d_Mo_flush_27 : decode b_Mo_flush 27 = .ok (.aload_n 0, 1) := by decide +kernel
theorem d_Mo_flush_28 : decode b_Mo_flush 28 = .ok (.iconst 0, 1) := by decide +kernel
theorem d_Mo_flush_29 : decode b_Mo_flush 29 = .ok (.bipush 26, 2) := by decide +kernel
theorem d_Mo_flush_31 : decode b_Mo_flush 31 = .ok (.invokevirtual 175, 3) := by decide +kernel
theorem d_Mo_flush_34 : decode b_Mo_flush 34 = .ok (.ireturn, 1) := by decide +kernel
theorem d_Mo_flush_35 : decode b_Mo_flush 35 = .ok (.aload_n 0, 1) := by decide +kernel
theorem d_Mo_flush_36 : decode b_Mo_flush 36 = .ok (.aload_n 0, 1) := by decide +kernel
theorem d_Mo_flush_37 : decode b_Mo_flush 37 = .ok (.getfield 40, 3) := by decide +kernel
theorem d_Mo_flush_40 : decode b_Mo_flush 40 = .ok (.getfield 122, 3) := by decide +kernel
theorem d_Mo_flush_43 : decode b_Mo_flush 43 = .ok (.bipush 26, 2) := by decide +kernel
theorem d_Mo_flush_45 : decode b_Mo_flush 45 = .ok (.invokevirtual 175, 3) := by decide +kernel
theorem d_Mo_flush_48 : decode b_Mo_flush 48 = .ok (.ireturn, 1) := by decide +kernel
theorem kc_Mo_flush : Cond.code y_Mo_flush b_Mo_flush 1 (some .int) ∈ gx_all := gx_in 1165 (by decide +kernel)
