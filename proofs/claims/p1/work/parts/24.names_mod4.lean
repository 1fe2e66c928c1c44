/-! NAMES: methods and their decode rows, printed by an own text program out of the Statement. -/
abbrev b_Mo_merge : ByteArray := prog_9_method_23_code
def y_Mo_merge : MethodName := ⟨"CommitLedgerModel", "merge", "(I)I"⟩
theorem d_Mo_merge_0 : decode b_Mo_merge 0 = .ok (.aload_n 0, 1) := by decide +kernel
theorem d_Mo_merge_1 : decode b_Mo_merge 1 = .ok (.iload_n 1, 1) := by decide +kernel
theorem d_Mo_merge_2 : decode b_Mo_merge 2 = .ok (.ifCond .lt 8, 3) := by decide +kernel
theorem d_Mo_merge_5 : decode b_Mo_merge 5 = .ok (.iload_n 1, 1) := by decide +kernel
theorem d_Mo_merge_6 : decode b_Mo_merge 6 = .ok (.iconst 1, 1) := by decide +kernel
theorem d_Mo_merge_7 : decode b_Mo_merge 7 = .ok (.if_icmp .le 7, 3) := by decide +kernel
theorem d_Mo_merge_10 : decode b_Mo_merge 10 = .ok (.iconst 1, 1) := by decide +kernel
theorem d_Mo_merge_11 : decode b_Mo_merge 11 = .ok (.goto 4, 3) := by decide +kernel
theorem d_Mo_merge_14 : decode b_Mo_merge 14 = .ok (.iconst 0, 1) := by decide +kernel
theorem d_Mo_merge_15 : decode b_Mo_merge 15 = .ok (.iconst 1, 1) := by decide +kernel
theorem d_Mo_merge_16 : decode b_Mo_merge 16 = .ok (.invokevirtual 152, 3) := by decide +kernel
theorem d_Mo_merge_19 : decode b_Mo_merge 19 = .ok (.ifCond .ne 44, 3) := by decide +kernel
theorem d_Mo_merge_22 : decode b_Mo_merge 22 = .ok (.aload_n 0, 1) := by decide +kernel
theorem d_Mo_merge_23 : decode b_Mo_merge 23 = .ok (.aload_n 0, 1) := by decide +kernel
theorem d_Mo_merge_24 : decode b_Mo_merge 24 = .ok (.getfield 99, 3) := by decide +kernel
theorem d_Mo_merge_27 : decode b_Mo_merge 27 = .ok (.ifCond .ne 7, 3) := by decide +kernel
theorem d_Mo_merge_30 : decode b_Mo_merge 30 = .ok (.iconst 1, 1) := by decide +kernel
theorem d_Mo_merge_31 : decode b_Mo_merge 31 = .ok (.goto 4, 3) := by decide +kernel
theorem d_Mo_merge_34 : decode b_Mo_merge 34 = .ok (.iconst 0, 1) := by decide +kernel
theorem d_Mo_merge_35 : decode b_Mo_merge 35 = .ok (.iconst 2, 1) := by decide +kernel
theorem d_Mo_merge_36 : decode b_Mo_merge 36 = .ok (.invokevirtual 152, 3) := by decide +kernel
theorem d_Mo_merge_39 : decode b_Mo_merge 39 = .ok (.ifCond .ne 24, 3) := by decide +kernel
theorem d_Mo_merge_42 : decode b_Mo_merge 42 = .ok (.aload_n 0, 1) := by decide +kernel
theorem d_Mo_merge_43 : decode b_Mo_merge 43 = .ok (.aload_n 0, 1) := by decide +kernel
theorem d_Mo_merge_44 : decode b_Mo_merge 44 = .ok (.getfield 106, 3) := by decide +kernel
theorem d_Mo_merge_47 : decode b_Mo_merge 47 = .ok (.iconst 4, 1) := by decide +kernel
theorem d_Mo_merge_48 : decode b_Mo_merge 48 = .ok (.if_icmp .ne 7, 3) := by decide +kernel
theorem d_Mo_merge_51 : decode b_Mo_merge 51 = .ok (.iconst 1, 1) := by decide +kernel
theorem d_Mo_merge_52 : decode b_Mo_merge 52 = .ok (.goto 4, 3) := by decide +kernel
theorem d_Mo_merge_55 : decode b_Mo_merge 55 = .ok (.iconst 0, 1) := by decide +kernel
theorem d_Mo_merge_56 : decode b_Mo_merge 56 = .ok (.iconst 5, 1) := by decide +kernel
theorem d_Mo_merge_57 : decode b_Mo_merge 57 = .ok (.invokevirtual 152, 3) := by decide +kernel
theorem d_Mo_merge_60 : decode b_Mo_merge 60 = .ok (.ifCond .eq 12, 3) := by decide +kernel
theorem d_Mo_merge_63 : decode b_Mo_merge 63 = .ok (.aload_n 0, 1) := by decide +kernel
theorem d_Mo_merge_64 : decode b_Mo_merge 64 = .ok (.iconst 0, 1) := by decide +kernel
theorem d_Mo_merge_65 : decode b_Mo_merge 65 = .ok (.sipush 12356, 3) := by decide +kernel
theorem d_Mo_merge_68 : decode b_Mo_merge 68 = .ok (.invokevirtual 148, 3) := by decide +kernel
theorem d_Mo_merge_71 : decode b_Mo_merge 71 = .ok (.ireturn, 1) := by decide +kernel
theorem d_Mo_merge_72 : decode b_Mo_merge 72 = .ok (.aload_n 0, 1) := by decide +kernel
theorem d_Mo_merge_73 : decode b_Mo_merge 73 = .ok (.iload_n 1, 1) := by decide +kernel
theorem d_Mo_merge_74 : decode b_Mo_merge 74 = .ok (.invokevirtual 215, 3) := by decide +kernel
theorem d_Mo_merge_77 : decode b_Mo_merge 77 = .ok (.istore_n 2, 1) := by decide +kernel
theorem d_Mo_merge_78 : decode b_Mo_merge 78 = .ok (.aload_n 0, 1) := by decide +kernel
theorem d_Mo_merge_79 : decode b_Mo_merge 79 = .ok (.iload_n 2, 1) := by decide +kernel
theorem d_Mo_merge_80 : decode b_Mo_merge 80 = .ok (.ifCond .ge 7, 3) := by decide +kernel
theorem d_Mo_merge_83 : decode b_Mo_merge 83 = .ok (.iconst 1, 1) := by decide +kernel
theorem d_Mo_merge_84 : decode b_Mo_merge 84 = .ok (.goto 4, 3) := by decide +kernel
theorem d_Mo_merge_87 : decode b_Mo_merge 87 = .ok (.iconst 0, 1) := by decide +kernel
theorem d_Mo_merge_88 : decode b_Mo_merge 88 = .ok (.iconst 3, 1) := by decide +kernel
theorem d_Mo_merge_89 : decode b_Mo_merge 89 = .ok (.invokevirtual 152, 3) := by decide +kernel
theorem d_Mo_merge_92 : decode b_Mo_merge 92 = .ok (.ifCond .eq 12, 3) := by decide +kernel
theorem d_Mo_merge_95 : decode b_Mo_merge 95 = .ok (.aload_n 0, 1) := by decide +kernel
theorem d_Mo_merge_96 : decode b_Mo_merge 96 = .ok (.iconst 0, 1) := by decide +kernel
theorem d_Mo_merge_97 : decode b_Mo_merge 97 = .ok (.sipush 12356, 3) := by decide +kernel
theorem d_Mo_merge_100 : decode b_Mo_merge 100 = .ok (.invokevirtual 148, 3) := by decide +kernel
theorem d_Mo_merge_103 : decode b_Mo_merge 103 = .ok (.ireturn, 1) := by decide +kernel
theorem d_Mo_merge_104 : decode b_Mo_merge 104 = .ok (.aload_n 0, 1) := by decide +kernel
theorem d_Mo_merge_105 : decode b_Mo_merge 105 = .ok (.invokevirtual 178, 3) := by decide +kernel
theorem d_Mo_merge_108 : decode b_Mo_merge 108 = .ok (.istore_n 3, 1) := by decide +kernel
theorem d_Mo_merge_109 : decode b_Mo_merge 109 = .ok (.iload_n 3, 1) := by decide +kernel
theorem d_Mo_merge_110 : decode b_Mo_merge 110 = .ok (.ifCond .ge 12, 3) := by decide +kernel
theorem d_Mo_merge_113 : decode b_Mo_merge 113 = .ok (.aload_n 0, 1) := by decide +kernel
theorem d_Mo_merge_114 : decode b_Mo_merge 114 = .ok (.iconst 0, 1) := by decide +kernel
theorem d_Mo_merge_115 : decode b_Mo_merge 115 = .ok (.sipush 12356, 3) := by decide +kernel
theorem d_Mo_merge_118 : decode b_Mo_merge 118 = .ok (.invokevirtual 175, 3) := by decide +kernel
theorem d_Mo_merge_121 : decode b_Mo_merge 121 = .ok (.ireturn, 1) := by decide +kernel
theorem d_Mo_merge_122 : decode b_Mo_merge 122 = .ok (.aload_n 0, 1) := by decide +kernel
theorem d_Mo_merge_123 : decode b_Mo_merge 123 = .ok (.dup, 1) := by decide +kernel
theorem d_Mo_merge_124 : decode b_Mo_merge 124 = .ok (.getfield 218, 3) := by decide +kernel
theorem d_Mo_merge_127 : decode b_Mo_merge 127 = .ok (.iconst 1, 1) := by decide +kernel
theorem d_Mo_merge_128 : decode b_Mo_merge 128 = .ok (.iadd, 1) := by decide +kernel
theorem d_Mo_merge_129 : decode b_Mo_merge 129 = .ok (.putfield 218, 3) := by decide +kernel
theorem d_Mo_merge_132 : decode b_Mo_merge 132 = .ok (.iconst 0, 1) := by decide +kernel
theorem d_Mo_merge_133 : decode b_Mo_merge 133 = .ok (.istore 4, 2) := by decide +kernel
theorem d_Mo_merge_135 : decode b_Mo_merge 135 = .ok (.aload_n 0, 1) := by decide +kernel
theorem d_Mo_merge_136 : decode b_Mo_merge 136 = .ok (.getfield 40, 3) := by decide +kernel
theorem d_Mo_merge_139 : decode b_Mo_merge 139 = .ok (.getfield 182, 3) := by decide +kernel
theorem d_Mo_merge_142 : decode b_Mo_merge 142 = .ok (.iload_n 2, 1) := by decide +kernel
theorem d_Mo_merge_143 : decode b_Mo_merge 143 = .ok (.iaload, 1) := by decide +kernel
theorem d_Mo_merge_144 : decode b_Mo_merge 144 = .ok (.istore 5, 2) := by decide +kernel
theorem d_Mo_merge_146 : decode b_Mo_merge 146 = .ok (.iload 5, 2) := by decide +kernel
theorem d_Mo_merge_148 : decode b_Mo_merge 148 = .ok (.aload_n 0, 1) := by decide +kernel
theorem d_Mo_merge_149 : decode b_Mo_merge 149 = .ok (.getfield 40, 3) := by decide +kernel
theorem d_Mo_merge_152 : decode b_Mo_merge 152 = .ok (.getfield 182, 3) := by decide +kernel
theorem d_Mo_merge_155 : decode b_Mo_merge 155 = .ok (.iload_n 2, 1) := by decide +kernel
theorem d_Mo_merge_156 : decode b_Mo_merge 156 = .ok (.aload_n 0, 1) := by decide +kernel
theorem d_Mo_merge_157 : decode b_Mo_merge 157 = .ok (.getfield 208, 3) := by decide +kernel
theorem d_Mo_merge_160 : decode b_Mo_merge 160 = .ok (.iadd, 1) := by decide +kernel
theorem d_Mo_merge_161 : decode b_Mo_merge 161 = .ok (.iaload, 1) := by decide +kernel
theorem d_Mo_merge_162 : decode b_Mo_merge 162 = .ok (.if_icmp .ge 50, 3) := by decide +kernel
theorem d_Mo_merge_165 : decode b_Mo_merge 165 = .ok (.aload_n 0, 1) := by decide +kernel
theorem d_Mo_merge_166 : decode b_Mo_merge 166 = .ok (.getfield 40, 3) := by decide +kernel
theorem d_Mo_merge_169 : decode b_Mo_merge 169 = .ok (.getfield 188, 3) := by decide +kernel
theorem d_Mo_merge_172 : decode b_Mo_merge 172 = .ok (.iload 5, 2) := by decide +kernel
theorem d_Mo_merge_174 : decode b_Mo_merge 174 = .ok (.baload, 1) := by decide +kernel
theorem d_Mo_merge_175 : decode b_Mo_merge 175 = .ok (.ifCond .ne 6, 3) := by decide +kernel
theorem d_Mo_merge_178 : decode b_Mo_merge 178 = .ok (.goto 28, 3) := by decide +kernel
theorem d_Mo_merge_181 : decode b_Mo_merge 181 = .ok (.aload_n 0, 1) := by decide +kernel
theorem d_Mo_merge_182 : decode b_Mo_merge 182 = .ok (.getfield 64, 3) := by decide +kernel
theorem d_Mo_merge_185 : decode b_Mo_merge 185 = .ok (.aload_n 0, 1) := by decide +kernel
theorem d_Mo_merge_186 : decode b_Mo_merge 186 = .ok (.getfield 106, 3) := by decide +kernel
theorem d_Mo_merge_189 : decode b_Mo_merge 189 = .ok (.aaload, 1) := by decide +kernel
theorem d_Mo_merge_190 : decode b_Mo_merge 190 = .ok (.iload 4, 2) := by decide +kernel
theorem d_Mo_merge_192 : decode b_Mo_merge 192 = .ok (.aload_n 0, 1) := by decide +kernel
theorem d_Mo_merge_193 : decode b_Mo_merge 193 = .ok (.getfield 40, 3) := by decide +kernel
theorem d_Mo_merge_196 : decode b_Mo_merge 196 = .ok (.getfield 185, 3) := by decide +kernel
theorem d_Mo_merge_199 : decode b_Mo_merge 199 = .ok (.iload 5, 2) := by decide +kernel
theorem d_Mo_merge_201 : decode b_Mo_merge 201 = .ok (.iaload, 1) := by decide +kernel
theorem d_Mo_merge_202 : decode b_Mo_merge 202 = .ok (.iastore, 1) := by decide +kernel
theorem d_Mo_merge_203 : decode b_Mo_merge 203 = .ok (.iinc 4 1, 3) := by decide +kernel
theorem d_Mo_merge_206 : decode b_Mo_merge 206 = .ok (.iinc 5 1, 3) := by decide +kernel
theorem d_Mo_merge_209 : decode b_Mo_merge 209 = .ok (.goto (-63), 3) := by decide +kernel
theorem d_Mo_merge_212 : decode b_Mo_merge 212 = .ok (.iload_n 2, 1) := by decide +kernel
theorem d_Mo_merge_213 : decode b_Mo_merge 213 = .ok (.istore 5, 2) := by decide +kernel
theorem d_Mo_merge_215 : decode b_Mo_merge 215 = .ok (.iload 5, 2) := by decide +kernel
theorem d_Mo_merge_217 : decode b_Mo_merge 217 = .ok (.iload_n 2, 1) := by decide +kernel
theorem d_Mo_merge_218 : decode b_Mo_merge 218 = .ok (.aload_n 0, 1) := by decide +kernel
theorem d_Mo_merge_219 : decode b_Mo_merge 219 = .ok (.getfield 208, 3) := by decide +kernel
theorem d_Mo_merge_222 : decode b_Mo_merge 222 = .ok (.iadd, 1) := by decide +kernel
theorem d_Mo_merge_223 : decode b_Mo_merge 223 = .ok (.if_icmp .ge 23, 3) := by decide +kernel
theorem d_Mo_merge_226 : decode b_Mo_merge 226 = .ok (.aload_n 0, 1) := by decide +kernel
theorem d_Mo_merge_227 : decode b_Mo_merge 227 = .ok (.getfield 40, 3) := by decide +kernel
theorem d_Mo_merge_230 : decode b_Mo_merge 230 = .ok (.getfield 166, 3) := by decide +kernel
theorem d_Mo_merge_233 : decode b_Mo_merge 233 = .ok (.iload 5, 2) := by decide +kernel
theorem d_Mo_merge_235 : decode b_Mo_merge 235 = .ok (.aload_n 0, 1) := by decide +kernel
theorem d_Mo_merge_236 : decode b_Mo_merge 236 = .ok (.getfield 218, 3) := by decide +kernel
theorem d_Mo_merge_239 : decode b_Mo_merge 239 = .ok (.iastore, 1) := by decide +kernel
theorem d_Mo_merge_240 : decode b_Mo_merge 240 = .ok (.iinc 5 1, 3) := by decide +kernel
theorem d_Mo_merge_243 : decode b_Mo_merge 243 = .ok (.goto (-28), 3) := by decide +kernel
theorem d_Mo_merge_246 : decode b_Mo_merge 246 = .ok (.aload_n 0, 1) := by decide +kernel
theorem d_Mo_merge_247 : decode b_Mo_merge 247 = .ok (.getfield 67, 3) := by decide +kernel
theorem d_Mo_merge_250 : decode b_Mo_merge 250 = .ok (.aload_n 0, 1) := by decide +kernel
theorem d_Mo_merge_251 : decode b_Mo_merge 251 = .ok (.getfield 106, 3) := by decide +kernel
theorem d_Mo_merge_254 : decode b_Mo_merge 254 = .ok (.iload 4, 2) := by decide +kernel
theorem d_Mo_merge_256 : decode b_Mo_merge 256 = .ok (.iastore, 1) := by decide +kernel
theorem d_Mo_merge_257 : decode b_Mo_merge 257 = .ok (.aload_n 0, 1) := by decide +kernel
theorem d_Mo_merge_258 : decode b_Mo_merge 258 = .ok (.getfield 70, 3) := by decide +kernel
theorem d_Mo_merge_261 : decode b_Mo_merge 261 = .ok (.aload_n 0, 1) := by decide +kernel
theorem d_Mo_merge_262 : decode b_Mo_merge 262 = .ok (.getfield 106, 3) := by decide +kernel
theorem d_Mo_merge_265 : decode b_Mo_merge 265 = .ok (.aload_n 0, 1) := by decide +kernel
theorem d_Mo_merge_266 : decode b_Mo_merge 266 = .ok (.getfield 218, 3) := by decide +kernel
theorem d_Mo_merge_269 : decode b_Mo_merge 269 = .ok (.iastore, 1) := by decide +kernel
theorem d_Mo_merge_270 : decode b_Mo_merge 270 = .ok (.aload_n 0, 1) := by decide +kernel
theorem d_Mo_merge_271 : decode b_Mo_merge 271 = .ok (.getfield 73, 3) := by decide +kernel
theorem d_Mo_merge_274 : decode b_Mo_merge 274 = .ok (.aload_n 0, 1) := by decide +kernel
theorem d_Mo_merge_275 : decode b_Mo_merge 275 = .ok (.getfield 106, 3) := by decide +kernel
theorem d_Mo_merge_278 : decode b_Mo_merge 278 = .ok (.iload_n 3, 1) := by decide +kernel
theorem d_Mo_merge_279 : decode b_Mo_merge 279 = .ok (.iastore, 1) := by decide +kernel
theorem d_Mo_merge_280 : decode b_Mo_merge 280 = .ok (.aload_n 0, 1) := by decide +kernel
theorem d_Mo_merge_281 : decode b_Mo_merge 281 = .ok (.dup, 1) := by decide +kernel
theorem d_Mo_merge_282 : decode b_Mo_merge 282 = .ok (.getfield 106, 3) := by decide +kernel
theorem d_Mo_merge_285 : decode b_Mo_merge 285 = .ok (.iconst 1, 1) := by decide +kernel
theorem d_Mo_merge_286 : decode b_Mo_merge 286 = .ok (.iadd, 1) := by decide +kernel
theorem d_Mo_merge_287 : decode b_Mo_merge 287 = .ok (.putfield 106, 3) := by decide +kernel
theorem d_Mo_merge_290 : decode b_Mo_merge 290 = .ok (.aload_n 0, 1) := by decide +kernel
theorem d_Mo_merge_291 : decode b_Mo_merge 291 = .ok (.aload_n 0, 1) := by decide +kernel
theorem d_Mo_merge_292 : decode b_Mo_merge 292 = .ok (.getfield 218, 3) := by decide +kernel
theorem d_Mo_merge_295 : decode b_Mo_merge 295 = .ok (.sipush 12356, 3) := by decide +kernel
theorem d_Mo_merge_298 : decode b_Mo_merge 298 = .ok (.invokevirtual 175, 3) := by decide +kernel
theorem d_Mo_merge_301 : decode b_Mo_merge 301 = .ok (.ireturn, 1) := by decide +kernel
theorem kc_Mo_merge : Cond.code y_Mo_merge b_Mo_merge 6 (some .int) ∈ gx_all := gx_in 1169 (by decide +kernel)
abbrev b_Mo_need : ByteArray := prog_9_method_10_code
def y_Mo_need : MethodName := ⟨"CommitLedgerModel", "need", "(LCommitLedgerModel$Version;Z)V"⟩
theorem d_Mo_need_0 : decode b_Mo_need 0 = .ok (.iconst 0, 1) := by decide +kernel
theorem d_Mo_need_1 : decode b_Mo_need 1 = .ok (.istore_n 3, 1) := by decide +kernel
theorem d_Mo_need_2 : decode b_Mo_need 2 = .ok (.iload_n 3, 1) := by decide +kernel
theorem d_Mo_need_3 : decode b_Mo_need 3 = .ok (.aload_n 1, 1) := by decide +kernel
theorem d_Mo_need_4 : decode b_Mo_need 4 = .ok (.getfield 122, 3) := by decide +kernel
theorem d_Mo_need_7 : decode b_Mo_need 7 = .ok (.if_icmp .ge 54, 3) := by decide +kernel
theorem d_Mo_need_10 : decode b_Mo_need 10 = .ok (.aload_n 0, 1) := by decide +kernel
theorem d_Mo_need_11 : decode b_Mo_need 11 = .ok (.getfield 30, 3) := by decide +kernel
theorem d_Mo_need_14 : decode b_Mo_need 14 = .ok (.aload_n 0, 1) := by decide +kernel
theorem d_Mo_need_15 : decode b_Mo_need 15 = .ok (.aload_n 1, 1) := by decide +kernel
theorem d_Mo_need_16 : decode b_Mo_need 16 = .ok (.getfield 125, 3) := by decide +kernel
theorem d_Mo_need_19 : decode b_Mo_need 19 = .ok (.iload_n 3, 1) := by decide +kernel
theorem d_Mo_need_20 : decode b_Mo_need 20 = .ok (.iaload, 1) := by decide +kernel
theorem d_Mo_need_21 : decode b_Mo_need 21 = .ok (.invokevirtual 128, 3) := by decide +kernel
theorem d_Mo_need_24 : decode b_Mo_need 24 = .ok (.iconst 1, 1) := by decide +kernel
theorem d_Mo_need_25 : decode b_Mo_need 25 = .ok (.bastore, 1) := by decide +kernel
theorem d_Mo_need_26 : decode b_Mo_need 26 = .ok (.iload_n 2, 1) := by decide +kernel
theorem d_Mo_need_27 : decode b_Mo_need 27 = .ok (.ifCond .eq 28, 3) := by decide +kernel
theorem d_Mo_need_30 : decode b_Mo_need 30 = .ok (.aload_n 1, 1) := by decide +kernel
theorem d_Mo_need_31 : decode b_Mo_need 31 = .ok (.getfield 132, 3) := by decide +kernel
theorem d_Mo_need_34 : decode b_Mo_need 34 = .ok (.iload_n 3, 1) := by decide +kernel
theorem d_Mo_need_35 : decode b_Mo_need 35 = .ok (.iaload, 1) := by decide +kernel
theorem d_Mo_need_36 : decode b_Mo_need 36 = .ok (.ifCond .lt 19, 3) := by decide +kernel
theorem d_Mo_need_39 : decode b_Mo_need 39 = .ok (.aload_n 0, 1) := by decide +kernel
theorem d_Mo_need_40 : decode b_Mo_need 40 = .ok (.getfield 30, 3) := by decide +kernel
theorem d_Mo_need_43 : decode b_Mo_need 43 = .ok (.aload_n 0, 1) := by decide +kernel
theorem d_Mo_need_44 : decode b_Mo_need 44 = .ok (.aload_n 1, 1) := by decide +kernel
theorem d_Mo_need_45 : decode b_Mo_need 45 = .ok (.getfield 132, 3) := by decide +kernel
theorem d_Mo_need_48 : decode b_Mo_need 48 = .ok (.iload_n 3, 1) := by decide +kernel
theorem d_Mo_need_49 : decode b_Mo_need 49 = .ok (.iaload, 1) := by decide +kernel
theorem d_Mo_need_50 : decode b_Mo_need 50 = .ok (.invokevirtual 128, 3) := by decide +kernel
theorem d_Mo_need_53 : decode b_Mo_need 53 = .ok (.iconst 1, 1) := by decide +kernel
theorem d_Mo_need_54 : decode b_Mo_need 54 = .ok (.bastore, 1) := by decide +kernel
theorem d_Mo_need_55 : decode b_Mo_need 55 = .ok (.iinc 3 1, 3) := by decide +kernel
theorem d_Mo_need_58 : decode b_Mo_need 58 = .ok (.goto (-56), 3) := by decide +kernel
theorem d_Mo_need_61 : decode b_Mo_need 61 = .ok (.return_, 1) := by decide +kernel
theorem kc_Mo_need : Cond.code y_Mo_need b_Mo_need 4 none ∈ gx_all := gx_in 1128 (by decide +kernel)
abbrev b_Mo_nothingNew : ByteArray := prog_9_method_27_code
def y_Mo_nothingNew : MethodName := ⟨"CommitLedgerModel", "nothingNew", "()Z"⟩
theorem d_Mo_nothingNew_0 : decode b_Mo_nothingNew 0 = .ok (.aload_n 0, 1) := by decide +kernel
theorem d_Mo_nothingNew_1 : decode b_Mo_nothingNew 1 = .ok (.getfield 135, 3) := by decide +kernel
theorem d_Mo_nothingNew_4 : decode b_Mo_nothingNew 4 = .ok (.ifCond .eq 37, 3) := by decide +kernel
theorem d_Mo_nothingNew_7 : decode b_Mo_nothingNew 7 = .ok (.aload_n 0, 1) := by decide +kernel
theorem d_Mo_nothingNew_8 : decode b_Mo_nothingNew 8 = .ok (.getfield 40, 3) := by decide +kernel
theorem d_Mo_nothingNew_11 : decode b_Mo_nothingNew 11 = .ok (.getfield 122, 3) := by decide +kernel
theorem d_Mo_nothingNew_14 : decode b_Mo_nothingNew 14 = .ok (.aload_n 0, 1) := by decide +kernel
theorem d_Mo_nothingNew_15 : decode b_Mo_nothingNew 15 = .ok (.getfield 44, 3) := by decide +kernel
theorem d_Mo_nothingNew_18 : decode b_Mo_nothingNew 18 = .ok (.getfield 122, 3) := by decide +kernel
theorem d_Mo_nothingNew_21 : decode b_Mo_nothingNew 21 = .ok (.if_icmp .ne 20, 3) := by decide +kernel
theorem d_Mo_nothingNew_24 : decode b_Mo_nothingNew 24 = .ok (.aload_n 0, 1) := by decide +kernel
theorem d_Mo_nothingNew_25 : decode b_Mo_nothingNew 25 = .ok (.getfield 40, 3) := by decide +kernel
theorem d_Mo_nothingNew_28 : decode b_Mo_nothingNew 28 = .ok (.getfield 159, 3) := by decide +kernel
theorem d_Mo_nothingNew_31 : decode b_Mo_nothingNew 31 = .ok (.aload_n 0, 1) := by decide +kernel
theorem d_Mo_nothingNew_32 : decode b_Mo_nothingNew 32 = .ok (.getfield 44, 3) := by decide +kernel
theorem d_Mo_nothingNew_35 : decode b_Mo_nothingNew 35 = .ok (.getfield 159, 3) := by decide +kernel
theorem d_Mo_nothingNew_38 : decode b_Mo_nothingNew 38 = .ok (.if_icmp .eq 5, 3) := by decide +kernel
theorem d_Mo_nothingNew_41 : decode b_Mo_nothingNew 41 = .ok (.iconst 0, 1) := by decide +kernel
theorem d_Mo_nothingNew_42 : decode b_Mo_nothingNew 42 = .ok (.ireturn, 1) := by decide +kernel
theorem d_Mo_nothingNew_43 : decode b_Mo_nothingNew 43 = .ok (.iconst 0, 1) := by decide +kernel
theorem d_Mo_nothingNew_44 : decode b_Mo_nothingNew 44 = .ok (.istore_n 1, 1) := by decide +kernel
theorem d_Mo_nothingNew_45 : decode b_Mo_nothingNew 45 = .ok (.iload_n 1, 1) := by decide +kernel
theorem d_Mo_nothingNew_46 : decode b_Mo_nothingNew 46 = .ok (.aload_n 0, 1) := by decide +kernel
theorem d_Mo_nothingNew_47 : decode b_Mo_nothingNew 47 = .ok (.getfield 40, 3) := by decide +kernel
theorem d_Mo_nothingNew_50 : decode b_Mo_nothingNew 50 = .ok (.getfield 122, 3) := by decide +kernel
theorem d_Mo_nothingNew_53 : decode b_Mo_nothingNew 53 = .ok (.if_icmp .ge 32, 3) := by decide +kernel
theorem d_Mo_nothingNew_56 : decode b_Mo_nothingNew 56 = .ok (.aload_n 0, 1) := by decide +kernel
theorem d_Mo_nothingNew_57 : decode b_Mo_nothingNew 57 = .ok (.getfield 40, 3) := by decide +kernel
theorem d_Mo_nothingNew_60 : decode b_Mo_nothingNew 60 = .ok (.getfield 125, 3) := by decide +kernel
theorem d_Mo_nothingNew_63 : decode b_Mo_nothingNew 63 = .ok (.iload_n 1, 1) := by decide +kernel
theorem d_Mo_nothingNew_64 : decode b_Mo_nothingNew 64 = .ok (.iaload, 1) := by decide +kernel
theorem d_Mo_nothingNew_65 : decode b_Mo_nothingNew 65 = .ok (.aload_n 0, 1) := by decide +kernel
theorem d_Mo_nothingNew_66 : decode b_Mo_nothingNew 66 = .ok (.getfield 44, 3) := by decide +kernel
theorem d_Mo_nothingNew_69 : decode b_Mo_nothingNew 69 = .ok (.getfield 125, 3) := by decide +kernel
theorem d_Mo_nothingNew_72 : decode b_Mo_nothingNew 72 = .ok (.iload_n 1, 1) := by decide +kernel
theorem d_Mo_nothingNew_73 : decode b_Mo_nothingNew 73 = .ok (.iaload, 1) := by decide +kernel
theorem d_Mo_nothingNew_74 : decode b_Mo_nothingNew 74 = .ok (.if_icmp .eq 5, 3) := by decide +kernel
theorem d_Mo_nothingNew_77 : decode b_Mo_nothingNew 77 = .ok (.iconst 0, 1) := by decide +kernel
theorem d_Mo_nothingNew_78 : decode b_Mo_nothingNew 78 = .ok (.ireturn, 1) := by decide +kernel
theorem d_Mo_nothingNew_79 : decode b_Mo_nothingNew 79 = .ok (.iinc 1 1, 3) := by decide +kernel
theorem d_Mo_nothingNew_82 : decode b_Mo_nothingNew 82 = .ok (.goto (-37), 3) := by decide +kernel
theorem d_Mo_nothingNew_85 : decode b_Mo_nothingNew 85 = .ok (.iconst 0, 1) := by decide +kernel
theorem d_Mo_nothingNew_86 : decode b_Mo_nothingNew 86 = .ok (.istore_n 1, 1) := by decide +kernel
theorem d_Mo_nothingNew_87 : decode b_Mo_nothingNew 87 = .ok (.iload_n 1, 1) := by decide +kernel
theorem d_Mo_nothingNew_88 : decode b_Mo_nothingNew 88 = .ok (.aload_n 0, 1) := by decide +kernel
theorem d_Mo_nothingNew_89 : decode b_Mo_nothingNew 89 = .ok (.getfield 40, 3) := by decide +kernel
theorem d_Mo_nothingNew_92 : decode b_Mo_nothingNew 92 = .ok (.invokevirtual 200, 3) := by decide +kernel
theorem d_Mo_nothingNew_95 : decode b_Mo_nothingNew 95 = .ok (.if_icmp .ge 32, 3) := by decide +kernel
theorem d_Mo_nothingNew_98 : decode b_Mo_nothingNew 98 = .ok (.aload_n 0, 1) := by decide +kernel
theorem d_Mo_nothingNew_99 : decode b_Mo_nothingNew 99 = .ok (.getfield 40, 3) := by decide +kernel
theorem d_Mo_nothingNew_102 : decode b_Mo_nothingNew 102 = .ok (.getfield 188, 3) := by decide +kernel
theorem d_Mo_nothingNew_105 : decode b_Mo_nothingNew 105 = .ok (.iload_n 1, 1) := by decide +kernel
theorem d_Mo_nothingNew_106 : decode b_Mo_nothingNew 106 = .ok (.baload, 1) := by decide +kernel
theorem d_Mo_nothingNew_107 : decode b_Mo_nothingNew 107 = .ok (.aload_n 0, 1) := by decide +kernel
theorem d_Mo_nothingNew_108 : decode b_Mo_nothingNew 108 = .ok (.getfield 44, 3) := by decide +kernel
theorem d_Mo_nothingNew_111 : decode b_Mo_nothingNew 111 = .ok (.getfield 188, 3) := by decide +kernel
theorem d_Mo_nothingNew_114 : decode b_Mo_nothingNew 114 = .ok (.iload_n 1, 1) := by decide +kernel
theorem d_Mo_nothingNew_115 : decode b_Mo_nothingNew 115 = .ok (.baload, 1) := by decide +kernel
theorem d_Mo_nothingNew_116 : decode b_Mo_nothingNew 116 = .ok (.if_icmp .eq 5, 3) := by decide +kernel
theorem d_Mo_nothingNew_119 : decode b_Mo_nothingNew 119 = .ok (.iconst 0, 1) := by decide +kernel
theorem d_Mo_nothingNew_120 : decode b_Mo_nothingNew 120 = .ok (.ireturn, 1) := by decide +kernel
theorem d_Mo_nothingNew_121 : decode b_Mo_nothingNew 121 = .ok (.iinc 1 1, 3) := by decide +kernel
theorem d_Mo_nothingNew_124 : decode b_Mo_nothingNew 124 = .ok (.goto (-37), 3) := by decide +kernel
theorem d_Mo_nothingNew_127 : decode b_Mo_nothingNew 127 = .ok (.iconst 1, 1) := by decide +kernel
theorem d_Mo_nothingNew_128 : decode b_Mo_nothingNew 128 = .ok (.ireturn, 1) := by decide +kernel
theorem kc_Mo_nothingNew : Cond.code y_Mo_nothingNew b_Mo_nothingNew 2 (some .boolean) ∈ gx_all := gx_in 1206 (by decide +kernel)
abbrev b_Mo_open : ByteArray := prog_9_method_14_code
def y_Mo_open : MethodName := ⟨"CommitLedgerModel", "open", "(I)I"⟩
theorem d_Mo_open_0 : decode b_Mo_open 0 = .ok (.aload_n 0, 1) := by decide +kernel
theorem d_Mo_open_1 : decode b_Mo_open 1 = .ok (.iload_n 1, 1) := by decide +kernel
theorem d_Mo_open_2 : decode b_Mo_open 2 = .ok (.ifCond .lt 8, 3) := by decide +kernel
theorem d_Mo_open_5 : decode b_Mo_open 5 = .ok (.iload_n 1, 1) := by decide +kernel
theorem d_Mo_open_6 : decode b_Mo_open 6 = .ok (.iconst 1, 1) := by decide +kernel
theorem d_Mo_open_7 : decode b_Mo_open 7 = .ok (.if_icmp .le 7, 3) := by decide +kernel
theorem d_Mo_open_10 : decode b_Mo_open 10 = .ok (.iconst 1, 1) := by decide +kernel
theorem d_Mo_open_11 : decode b_Mo_open 11 = .ok (.goto 4, 3) := by decide +kernel
theorem d_Mo_open_14 : decode b_Mo_open 14 = .ok (.iconst 0, 1) := by decide +kernel
theorem d_Mo_open_15 : decode b_Mo_open 15 = .ok (.iconst 1, 1) := by decide +kernel
theorem d_Mo_open_16 : decode b_Mo_open 16 = .ok (.invokevirtual 152, 3) := by decide +kernel
theorem d_Mo_open_19 : decode b_Mo_open 19 = .ok (.ifCond .ne 46, 3) := by decide +kernel
theorem d_Mo_open_22 : decode b_Mo_open 22 = .ok (.aload_n 0, 1) := by decide +kernel
theorem d_Mo_open_23 : decode b_Mo_open 23 = .ok (.aload_n 0, 1) := by decide +kernel
theorem d_Mo_open_24 : decode b_Mo_open 24 = .ok (.getfield 99, 3) := by decide +kernel
theorem d_Mo_open_27 : decode b_Mo_open 27 = .ok (.iconst 2, 1) := by decide +kernel
theorem d_Mo_open_28 : decode b_Mo_open 28 = .ok (.invokevirtual 152, 3) := by decide +kernel
theorem d_Mo_open_31 : decode b_Mo_open 31 = .ok (.ifCond .ne 34, 3) := by decide +kernel
theorem d_Mo_open_34 : decode b_Mo_open 34 = .ok (.aload_n 0, 1) := by decide +kernel
theorem d_Mo_open_35 : decode b_Mo_open 35 = .ok (.iload_n 1, 1) := by decide +kernel
theorem d_Mo_open_36 : decode b_Mo_open 36 = .ok (.ifCond .ne 21, 3) := by decide +kernel
theorem d_Mo_open_39 : decode b_Mo_open 39 = .ok (.aload_n 0, 1) := by decide +kernel
theorem d_Mo_open_40 : decode b_Mo_open 40 = .ok (.getfield 135, 3) := by decide +kernel
theorem d_Mo_open_43 : decode b_Mo_open 43 = .ok (.ifCond .le 14, 3) := by decide +kernel
theorem d_Mo_open_46 : decode b_Mo_open 46 = .ok (.aload_n 0, 1) := by decide +kernel
theorem d_Mo_open_47 : decode b_Mo_open 47 = .ok (.invokevirtual 156, 3) := by decide +kernel
theorem d_Mo_open_50 : decode b_Mo_open 50 = .ok (.ifCond .eq 7, 3) := by decide +kernel
theorem d_Mo_open_53 : decode b_Mo_open 53 = .ok (.iconst 1, 1) := by decide +kernel
theorem d_Mo_open_54 : decode b_Mo_open 54 = .ok (.goto 4, 3) := by decide +kernel
theorem d_Mo_open_57 : decode b_Mo_open 57 = .ok (.iconst 0, 1) := by decide +kernel
theorem d_Mo_open_58 : decode b_Mo_open 58 = .ok (.iconst 4, 1) := by decide +kernel
theorem d_Mo_open_59 : decode b_Mo_open 59 = .ok (.invokevirtual 152, 3) := by decide +kernel
theorem d_Mo_open_62 : decode b_Mo_open 62 = .ok (.ifCond .eq 11, 3) := by decide +kernel
theorem d_Mo_open_65 : decode b_Mo_open 65 = .ok (.aload_n 0, 1) := by decide +kernel
theorem d_Mo_open_66 : decode b_Mo_open 66 = .ok (.iconst 0, 1) := by decide +kernel
theorem d_Mo_open_67 : decode b_Mo_open 67 = .ok (.bipush 124, 2) := by decide +kernel
theorem d_Mo_open_69 : decode b_Mo_open 69 = .ok (.invokevirtual 148, 3) := by decide +kernel
theorem d_Mo_open_72 : decode b_Mo_open 72 = .ok (.ireturn, 1) := by decide +kernel
theorem d_Mo_open_73 : decode b_Mo_open 73 = .ok (.aload_n 0, 1) := by decide +kernel
theorem d_Mo_open_74 : decode b_Mo_open 74 = .ok (.getfield 40, 3) := by decide +kernel
theorem d_Mo_open_77 : decode b_Mo_open 77 = .ok (.iconst 0, 1) := by decide +kernel
theorem d_Mo_open_78 : decode b_Mo_open 78 = .ok (.putfield 122, 3) := by decide +kernel
theorem d_Mo_open_81 : decode b_Mo_open 81 = .ok (.aload_n 0, 1) := by decide +kernel
theorem d_Mo_open_82 : decode b_Mo_open 82 = .ok (.getfield 40, 3) := by decide +kernel
theorem d_Mo_open_85 : decode b_Mo_open 85 = .ok (.iconst 0, 1) := by decide +kernel
theorem d_Mo_open_86 : decode b_Mo_open 86 = .ok (.putfield 159, 3) := by decide +kernel
theorem d_Mo_open_89 : decode b_Mo_open 89 = .ok (.iload_n 1, 1) := by decide +kernel
theorem d_Mo_open_90 : decode b_Mo_open 90 = .ok (.ifCond .ne 21, 3) := by decide +kernel
theorem d_Mo_open_93 : decode b_Mo_open 93 = .ok (.aload_n 0, 1) := by decide +kernel
theorem d_Mo_open_94 : decode b_Mo_open 94 = .ok (.getfield 135, 3) := by decide +kernel
theorem d_Mo_open_97 : decode b_Mo_open 97 = .ok (.ifCond .le 14, 3) := by decide +kernel
theorem d_Mo_open_100 : decode b_Mo_open 100 = .ok (.aload_n 0, 1) := by decide +kernel
theorem d_Mo_open_101 : decode b_Mo_open 101 = .ok (.getfield 40, 3) := by decide +kernel
theorem d_Mo_open_104 : decode b_Mo_open 104 = .ok (.aload_n 0, 1) := by decide +kernel
theorem d_Mo_open_105 : decode b_Mo_open 105 = .ok (.getfield 44, 3) := by decide +kernel
theorem d_Mo_open_108 : decode b_Mo_open 108 = .ok (.invokevirtual 162, 3) := by decide +kernel
theorem d_Mo_open_111 : decode b_Mo_open 111 = .ok (.iconst 0, 1) := by decide +kernel
theorem d_Mo_open_112 : decode b_Mo_open 112 = .ok (.istore_n 2, 1) := by decide +kernel
theorem d_Mo_open_113 : decode b_Mo_open 113 = .ok (.iload_n 2, 1) := by decide +kernel
theorem d_Mo_open_114 : decode b_Mo_open 114 = .ok (.aload_n 0, 1) := by decide +kernel
theorem d_Mo_open_115 : decode b_Mo_open 115 = .ok (.getfield 40, 3) := by decide +kernel
theorem d_Mo_open_118 : decode b_Mo_open 118 = .ok (.getfield 122, 3) := by decide +kernel
theorem d_Mo_open_121 : decode b_Mo_open 121 = .ok (.if_icmp .ge 19, 3) := by decide +kernel
theorem d_Mo_open_124 : decode b_Mo_open 124 = .ok (.aload_n 0, 1) := by decide +kernel
theorem d_Mo_open_125 : decode b_Mo_open 125 = .ok (.getfield 40, 3) := by decide +kernel
theorem d_Mo_open_128 : decode b_Mo_open 128 = .ok (.getfield 166, 3) := by decide +kernel
theorem d_Mo_open_131 : decode b_Mo_open 131 = .ok (.iload_n 2, 1) := by decide +kernel
theorem d_Mo_open_132 : decode b_Mo_open 132 = .ok (.iconst 0, 1) := by decide +kernel
theorem d_Mo_open_133 : decode b_Mo_open 133 = .ok (.iastore, 1) := by decide +kernel
theorem d_Mo_open_134 : decode b_Mo_open 134 = .ok (.iinc 2 1, 3) := by decide +kernel
theorem d_Mo_open_137 : decode b_Mo_open 137 = .ok (.goto (-24), 3) := by decide +kernel
theorem d_Mo_open_140 : decode b_Mo_open 140 = .ok (.aload_n 0, 1) := by decide +kernel
theorem d_Mo_open_141 : decode b_Mo_open 141 = .ok (.getfield 40, 3) := by decide +kernel
theorem d_Mo_open_144 : decode b_Mo_open 144 = .ok (.invokevirtual 169, 3) := by decide +kernel
theorem d_Mo_open_147 : decode b_Mo_open 147 = .ok (.aload_n 0, 1) := by decide +kernel
theorem d_Mo_open_148 : decode b_Mo_open 148 = .ok (.iconst 1, 1) := by decide +kernel
theorem d_Mo_open_149 : decode b_Mo_open 149 = .ok (.putfield 99, 3) := by decide +kernel
theorem d_Mo_open_152 : decode b_Mo_open 152 = .ok (.aload_n 0, 1) := by decide +kernel
theorem d_Mo_open_153 : decode b_Mo_open 153 = .ok (.iconst 0, 1) := by decide +kernel
theorem d_Mo_open_154 : decode b_Mo_open 154 = .ok (.putfield 112, 3) := by decide +kernel
theorem d_Mo_open_157 : decode b_Mo_open 157 = .ok (.aload_n 0, 1) := by decide +kernel
theorem d_Mo_open_158 : decode b_Mo_open 158 = .ok (.iconst 0, 1) := by decide +kernel
theorem d_Mo_open_159 : decode b_Mo_open 159 = .ok (.putfield 172, 3) := by decide +kernel
theorem d_Mo_open_162 : decode b_Mo_open 162 = .ok (.aload_n 0, 1) := by decide +kernel
theorem d_Mo_open_163 : decode b_Mo_open 163 = .ok (.iconst 0, 1) := by decide +kernel
theorem d_Mo_open_164 : decode b_Mo_open 164 = .ok (.putfield 106, 3) := by decide +kernel
theorem d_Mo_open_167 : decode b_Mo_open 167 = .ok (.aload_n 0, 1) := by decide +kernel
theorem d_Mo_open_168 : decode b_Mo_open 168 = .ok (.iconst 0, 1) := by decide +kernel
theorem d_Mo_open_169 : decode b_Mo_open 169 = .ok (.putfield 109, 3) := by decide +kernel
theorem d_Mo_open_172 : decode b_Mo_open 172 = .ok (.aload_n 0, 1) := by decide +kernel
theorem d_Mo_open_173 : decode b_Mo_open 173 = .ok (.aload_n 0, 1) := by decide +kernel
theorem d_Mo_open_174 : decode b_Mo_open 174 = .ok (.getfield 40, 3) := by decide +kernel
theorem d_Mo_open_177 : decode b_Mo_open 177 = .ok (.getfield 122, 3) := by decide +kernel
theorem d_Mo_open_180 : decode b_Mo_open 180 = .ok (.bipush 124, 2) := by decide +kernel
theorem d_Mo_open_182 : decode b_Mo_open 182 = .ok (.invokevirtual 175, 3) := by decide +kernel
theorem d_Mo_open_185 : decode b_Mo_open 185 = .ok (.ireturn, 1) := by decide +kernel
theorem kc_Mo_open : Cond.code y_Mo_open b_Mo_open 3 (some .int) ∈ gx_all := gx_in 1079 (by decide +kernel)
abbrev b_Mo_place : ByteArray := prog_9_method_6_code
def y_Mo_place : MethodName := ⟨"CommitLedgerModel", "place", "(I)I"⟩
theorem d_Mo_place_0 : decode b_Mo_place 0 = .ok (.iconst 0, 1) := by decide +kernel
theorem d_Mo_place_1 : decode b_Mo_place 1 = .ok (.istore_n 2, 1) := by decide +kernel
theorem d_Mo_place_2 : decode b_Mo_place 2 = .ok (.aload_n 0, 1) := by decide +kernel
theorem d_Mo_place_3 : decode b_Mo_place 3 = .ok (.getfield 93, 3) := by decide +kernel
theorem d_Mo_place_6 : decode b_Mo_place 6 = .ok (.istore_n 3, 1) := by decide +kernel
theorem d_Mo_place_7 : decode b_Mo_place 7 = .ok (.iload_n 2, 1) := by decide +kernel
theorem d_Mo_place_8 : decode b_Mo_place 8 = .ok (.iload_n 3, 1) := by decide +kernel
theorem d_Mo_place_9 : decode b_Mo_place 9 = .ok (.if_icmp .ge 35, 3) := by decide +kernel
theorem d_Mo_place_12 : decode b_Mo_place 12 = .ok (.iload_n 2, 1) := by decide +kernel
theorem d_Mo_place_13 : decode b_Mo_place 13 = .ok (.iload_n 3, 1) := by decide +kernel
theorem d_Mo_place_14 : decode b_Mo_place 14 = .ok (.iadd, 1) := by decide +kernel
theorem d_Mo_place_15 : decode b_Mo_place 15 = .ok (.iconst 2, 1) := by decide +kernel
theorem d_Mo_place_16 : decode b_Mo_place 16 = .ok (.idiv, 1) := by decide +kernel
theorem d_Mo_place_17 : decode b_Mo_place 17 = .ok (.istore 4, 2) := by decide +kernel
theorem d_Mo_place_19 : decode b_Mo_place 19 = .ok (.aload_n 0, 1) := by decide +kernel
theorem d_Mo_place_20 : decode b_Mo_place 20 = .ok (.getfield 20, 3) := by decide +kernel
theorem d_Mo_place_23 : decode b_Mo_place 23 = .ok (.iload 4, 2) := by decide +kernel
theorem d_Mo_place_25 : decode b_Mo_place 25 = .ok (.iaload, 1) := by decide +kernel
theorem d_Mo_place_26 : decode b_Mo_place 26 = .ok (.iload_n 1, 1) := by decide +kernel
theorem d_Mo_place_27 : decode b_Mo_place 27 = .ok (.if_icmp .ge 11, 3) := by decide +kernel
theorem d_Mo_place_30 : decode b_Mo_place 30 = .ok (.iload 4, 2) := by decide +kernel
theorem d_Mo_place_32 : decode b_Mo_place 32 = .ok (.iconst 1, 1) := by decide +kernel
theorem d_Mo_place_33 : decode b_Mo_place 33 = .ok (.iadd, 1) := by decide +kernel
theorem d_Mo_place_34 : decode b_Mo_place 34 = .ok (.istore_n 2, 1) := by decide +kernel
theorem d_Mo_place_35 : decode b_Mo_place 35 = .ok (.goto 6, 3) := by decide +kernel
theorem d_Mo_place_38 : decode b_Mo_place 38 = .ok (.iload 4, 2) := by decide +kernel
theorem d_Mo_place_40 : decode b_Mo_place 40 = .ok (.istore_n 3, 1) := by decide +kernel
theorem d_Mo_place_41 : decode b_Mo_place 41 = .ok (.goto (-34), 3) := by decide +kernel
theorem d_Mo_place_44 : decode b_Mo_place 44 = .ok (.iload_n 2, 1) := by decide +kernel
theorem d_Mo_place_45 : decode b_Mo_place 45 = .ok (.aload_n 0, 1) := by decide +kernel
theorem d_Mo_place_46 : decode b_Mo_place 46 = .ok (.getfield 93, 3) := by decide +kernel
theorem d_Mo_place_49 : decode b_Mo_place 49 = .ok (.if_icmp .ge 17, 3) := by decide +kernel
theorem d_Mo_place_52 : decode b_Mo_place 52 = .ok (.aload_n 0, 1) := by decide +kernel
theorem d_Mo_place_53 : decode b_Mo_place 53 = .ok (.getfield 20, 3) := by decide +kernel
theorem d_Mo_place_56 : decode b_Mo_place 56 = .ok (.iload_n 2, 1) := by decide +kernel
theorem d_Mo_place_57 : decode b_Mo_place 57 = .ok (.iaload, 1) := by decide +kernel
theorem d_Mo_place_58 : decode b_Mo_place 58 = .ok (.iload_n 1, 1) := by decide +kernel
theorem d_Mo_place_59 : decode b_Mo_place 59 = .ok (.if_icmp .ne 7, 3) := by decide +kernel
theorem d_Mo_place_62 : decode b_Mo_place 62 = .ok (.iload_n 2, 1) := by decide +kernel
theorem d_Mo_place_63 : decode b_Mo_place 63 = .ok (.goto 4, 3) := by decide +kernel
theorem d_Mo_place_66 : decode b_Mo_place 66 = .ok (.iconst (-1), 1) := by decide +kernel
theorem d_Mo_place_67 : decode b_Mo_place 67 = .ok (.ireturn, 1) := by decide +kernel
theorem kc_Mo_place : Cond.code y_Mo_place b_Mo_place 5 (some .int) ∈ gx_all := gx_in 1091 (by decide +kernel)
