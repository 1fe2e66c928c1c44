/-! NAMES: methods and their decode rows, printed by an own text program out of the Statement. -/
abbrev b_Mo_replace : ByteArray := prog_9_method_25_code
def y_Mo_replace : MethodName := ⟨"CommitLedgerModel", "replace", "(III)V"⟩
theorem d_Mo_replace_0 : decode b_Mo_replace 0 = .ok (.aload_n 0, 1) := by decide +kernel
theorem d_Mo_replace_1 : decode b_Mo_replace 1 = .ok (.getfield 40, 3) := by decide +kernel
theorem d_Mo_replace_4 : decode b_Mo_replace 4 = .ok (.astore 4, 2) := by decide +kernel
theorem d_Mo_replace_6 : decode b_Mo_replace 6 = .ok (.aload 4, 2) := by decide +kernel
theorem d_Mo_replace_8 : decode b_Mo_replace 8 = .ok (.getfield 182, 3) := by decide +kernel
theorem d_Mo_replace_11 : decode b_Mo_replace 11 = .ok (.iload_n 1, 1) := by decide +kernel
theorem d_Mo_replace_12 : decode b_Mo_replace 12 = .ok (.iaload, 1) := by decide +kernel
theorem d_Mo_replace_13 : decode b_Mo_replace 13 = .ok (.istore 5, 2) := by decide +kernel
theorem d_Mo_replace_15 : decode b_Mo_replace 15 = .ok (.iconst 0, 1) := by decide +kernel
theorem d_Mo_replace_16 : decode b_Mo_replace 16 = .ok (.istore 6, 2) := by decide +kernel
theorem d_Mo_replace_18 : decode b_Mo_replace 18 = .ok (.aload 4, 2) := by decide +kernel
theorem d_Mo_replace_20 : decode b_Mo_replace 20 = .ok (.getfield 182, 3) := by decide +kernel
theorem d_Mo_replace_23 : decode b_Mo_replace 23 = .ok (.iload_n 2, 1) := by decide +kernel
theorem d_Mo_replace_24 : decode b_Mo_replace 24 = .ok (.iaload, 1) := by decide +kernel
theorem d_Mo_replace_25 : decode b_Mo_replace 25 = .ok (.istore 7, 2) := by decide +kernel
theorem d_Mo_replace_27 : decode b_Mo_replace 27 = .ok (.aload 4, 2) := by decide +kernel
theorem d_Mo_replace_29 : decode b_Mo_replace 29 = .ok (.invokevirtual 200, 3) := by decide +kernel
theorem d_Mo_replace_32 : decode b_Mo_replace 32 = .ok (.istore 8, 2) := by decide +kernel
theorem d_Mo_replace_34 : decode b_Mo_replace 34 = .ok (.iload 5, 2) := by decide +kernel
theorem d_Mo_replace_36 : decode b_Mo_replace 36 = .ok (.istore 9, 2) := by decide +kernel
theorem d_Mo_replace_38 : decode b_Mo_replace 38 = .ok (.iload 9, 2) := by decide +kernel
theorem d_Mo_replace_40 : decode b_Mo_replace 40 = .ok (.iload 7, 2) := by decide +kernel
theorem d_Mo_replace_42 : decode b_Mo_replace 42 = .ok (.if_icmp .ge 96, 3) := by decide +kernel
theorem d_Mo_replace_45 : decode b_Mo_replace 45 = .ok (.iload 6, 2) := by decide +kernel
theorem d_Mo_replace_47 : decode b_Mo_replace 47 = .ok (.aload_n 0, 1) := by decide +kernel
theorem d_Mo_replace_48 : decode b_Mo_replace 48 = .ok (.getfield 67, 3) := by decide +kernel
theorem d_Mo_replace_51 : decode b_Mo_replace 51 = .ok (.iload_n 3, 1) := by decide +kernel
theorem d_Mo_replace_52 : decode b_Mo_replace 52 = .ok (.iaload, 1) := by decide +kernel
theorem d_Mo_replace_53 : decode b_Mo_replace 53 = .ok (.if_icmp .ge 85, 3) := by decide +kernel
theorem d_Mo_replace_56 : decode b_Mo_replace 56 = .ok (.aload 4, 2) := by decide +kernel
theorem d_Mo_replace_58 : decode b_Mo_replace 58 = .ok (.getfield 185, 3) := by decide +kernel
theorem d_Mo_replace_61 : decode b_Mo_replace 61 = .ok (.iload 9, 2) := by decide +kernel
theorem d_Mo_replace_63 : decode b_Mo_replace 63 = .ok (.iaload, 1) := by decide +kernel
theorem d_Mo_replace_64 : decode b_Mo_replace 64 = .ok (.aload_n 0, 1) := by decide +kernel
theorem d_Mo_replace_65 : decode b_Mo_replace 65 = .ok (.getfield 64, 3) := by decide +kernel
theorem d_Mo_replace_68 : decode b_Mo_replace 68 = .ok (.iload_n 3, 1) := by decide +kernel
theorem d_Mo_replace_69 : decode b_Mo_replace 69 = .ok (.aaload, 1) := by decide +kernel
theorem d_Mo_replace_70 : decode b_Mo_replace 70 = .ok (.iload 6, 2) := by decide +kernel
theorem d_Mo_replace_72 : decode b_Mo_replace 72 = .ok (.iaload, 1) := by decide +kernel
theorem d_Mo_replace_73 : decode b_Mo_replace 73 = .ok (.if_icmp .eq 6, 3) := by decide +kernel
theorem d_Mo_replace_76 : decode b_Mo_replace 76 = .ok (.goto 56, 3) := by decide +kernel
theorem d_Mo_replace_79 : decode b_Mo_replace 79 = .ok (.aload 4, 2) := by decide +kernel
theorem d_Mo_replace_81 : decode b_Mo_replace 81 = .ok (.getfield 185, 3) := by decide +kernel
theorem d_Mo_replace_84 : decode b_Mo_replace 84 = .ok (.iload 5, 2) := by decide +kernel
theorem d_Mo_replace_86 : decode b_Mo_replace 86 = .ok (.iload 6, 2) := by decide +kernel
theorem d_Mo_replace_88 : decode b_Mo_replace 88 = .ok (.iadd, 1) := by decide +kernel
theorem d_Mo_replace_89 : decode b_Mo_replace 89 = .ok (.aload 4, 2) := by decide +kernel
theorem d_Mo_replace_91 : decode b_Mo_replace 91 = .ok (.getfield 185, 3) := by decide +kernel
theorem d_Mo_replace_94 : decode b_Mo_replace 94 = .ok (.iload 9, 2) := by decide +kernel
theorem d_Mo_replace_96 : decode b_Mo_replace 96 = .ok (.iaload, 1) := by decide +kernel
theorem d_Mo_replace_97 : decode b_Mo_replace 97 = .ok (.iastore, 1) := by decide +kernel
theorem d_Mo_replace_98 : decode b_Mo_replace 98 = .ok (.aload 4, 2) := by decide +kernel
theorem d_Mo_replace_100 : decode b_Mo_replace 100 = .ok (.getfield 188, 3) := by decide +kernel
theorem d_Mo_replace_103 : decode b_Mo_replace 103 = .ok (.iload 5, 2) := by decide +kernel
theorem d_Mo_replace_105 : decode b_Mo_replace 105 = .ok (.iload 6, 2) := by decide +kernel
theorem d_Mo_replace_107 : decode b_Mo_replace 107 = .ok (.iadd, 1) := by decide +kernel
theorem d_Mo_replace_108 : decode b_Mo_replace 108 = .ok (.aload 4, 2) := by decide +kernel
theorem d_Mo_replace_110 : decode b_Mo_replace 110 = .ok (.getfield 188, 3) := by decide +kernel
theorem d_Mo_replace_113 : decode b_Mo_replace 113 = .ok (.iload 9, 2) := by decide +kernel
theorem d_Mo_replace_115 : decode b_Mo_replace 115 = .ok (.baload, 1) := by decide +kernel
theorem d_Mo_replace_116 : decode b_Mo_replace 116 = .ok (.bastore, 1) := by decide +kernel
theorem d_Mo_replace_117 : decode b_Mo_replace 117 = .ok (.aload 4, 2) := by decide +kernel
theorem d_Mo_replace_119 : decode b_Mo_replace 119 = .ok (.getfield 191, 3) := by decide +kernel
theorem d_Mo_replace_122 : decode b_Mo_replace 122 = .ok (.iload 5, 2) := by decide +kernel
theorem d_Mo_replace_124 : decode b_Mo_replace 124 = .ok (.iload 6, 2) := by decide +kernel
theorem d_Mo_replace_126 : decode b_Mo_replace 126 = .ok (.iadd, 1) := by decide +kernel
theorem d_Mo_replace_127 : decode b_Mo_replace 127 = .ok (.iconst 1, 1) := by decide +kernel
theorem d_Mo_replace_128 : decode b_Mo_replace 128 = .ok (.bastore, 1) := by decide +kernel
theorem d_Mo_replace_129 : decode b_Mo_replace 129 = .ok (.iinc 6 1, 3) := by decide +kernel
theorem d_Mo_replace_132 : decode b_Mo_replace 132 = .ok (.iinc 9 1, 3) := by decide +kernel
theorem d_Mo_replace_135 : decode b_Mo_replace 135 = .ok (.goto (-97), 3) := by decide +kernel
theorem d_Mo_replace_138 : decode b_Mo_replace 138 = .ok (.iload 7, 2) := by decide +kernel
theorem d_Mo_replace_140 : decode b_Mo_replace 140 = .ok (.iload 5, 2) := by decide +kernel
theorem d_Mo_replace_142 : decode b_Mo_replace 142 = .ok (.isub, 1) := by decide +kernel
theorem d_Mo_replace_143 : decode b_Mo_replace 143 = .ok (.iload 6, 2) := by decide +kernel
theorem d_Mo_replace_145 : decode b_Mo_replace 145 = .ok (.isub, 1) := by decide +kernel
theorem d_Mo_replace_146 : decode b_Mo_replace 146 = .ok (.istore 9, 2) := by decide +kernel
theorem d_Mo_replace_148 : decode b_Mo_replace 148 = .ok (.iload 7, 2) := by decide +kernel
theorem d_Mo_replace_150 : decode b_Mo_replace 150 = .ok (.istore 10, 2) := by decide +kernel
theorem d_Mo_replace_152 : decode b_Mo_replace 152 = .ok (.iload 10, 2) := by decide +kernel
theorem d_Mo_replace_154 : decode b_Mo_replace 154 = .ok (.iload 8, 2) := by decide +kernel
theorem d_Mo_replace_156 : decode b_Mo_replace 156 = .ok (.if_icmp .ge 66, 3) := by decide +kernel
theorem d_Mo_replace_159 : decode b_Mo_replace 159 = .ok (.aload 4, 2) := by decide +kernel
theorem d_Mo_replace_161 : decode b_Mo_replace 161 = .ok (.getfield 185, 3) := by decide +kernel
theorem d_Mo_replace_164 : decode b_Mo_replace 164 = .ok (.iload 10, 2) := by decide +kernel
theorem d_Mo_replace_166 : decode b_Mo_replace 166 = .ok (.iload 9, 2) := by decide +kernel
theorem d_Mo_replace_168 : decode b_Mo_replace 168 = .ok (.isub, 1) := by decide +kernel
theorem d_Mo_replace_169 : decode b_Mo_replace 169 = .ok (.aload 4, 2) := by decide +kernel
theorem d_Mo_replace_171 : decode b_Mo_replace 171 = .ok (.getfield 185, 3) := by decide +kernel
theorem d_Mo_replace_174 : decode b_Mo_replace 174 = .ok (.iload 10, 2) := by decide +kernel
theorem d_Mo_replace_176 : decode b_Mo_replace 176 = .ok (.iaload, 1) := by decide +kernel
theorem d_Mo_replace_177 : decode b_Mo_replace 177 = .ok (.iastore, 1) := by decide +kernel
theorem d_Mo_replace_178 : decode b_Mo_replace 178 = .ok (.aload 4, 2) := by decide +kernel
theorem d_Mo_replace_180 : decode b_Mo_replace 180 = .ok (.getfield 188, 3) := by decide +kernel
theorem d_Mo_replace_183 : decode b_Mo_replace 183 = .ok (.iload 10, 2) := by decide +kernel
theorem d_Mo_replace_185 : decode b_Mo_replace 185 = .ok (.iload 9, 2) := by decide +kernel
theorem d_Mo_replace_187 : decode b_Mo_replace 187 = .ok (.isub, 1) := by decide +kernel
theorem d_Mo_replace_188 : decode b_Mo_replace 188 = .ok (.aload 4, 2) := by decide +kernel
theorem d_Mo_replace_190 : decode b_Mo_replace 190 = .ok (.getfield 188, 3) := by decide +kernel
theorem d_Mo_replace_193 : decode b_Mo_replace 193 = .ok (.iload 10, 2) := by decide +kernel
theorem d_Mo_replace_195 : decode b_Mo_replace 195 = .ok (.baload, 1) := by decide +kernel
theorem d_Mo_replace_196 : decode b_Mo_replace 196 = .ok (.bastore, 1) := by decide +kernel
theorem d_Mo_replace_197 : decode b_Mo_replace 197 = .ok (.aload 4, 2) := by decide +kernel
theorem d_Mo_replace_199 : decode b_Mo_replace 199 = .ok (.getfield 191, 3) := by decide +kernel
theorem d_Mo_replace_202 : decode b_Mo_replace 202 = .ok (.iload 10, 2) := by decide +kernel
theorem d_Mo_replace_204 : decode b_Mo_replace 204 = .ok (.iload 9, 2) := by decide +kernel
theorem d_Mo_replace_206 : decode b_Mo_replace 206 = .ok (.isub, 1) := by decide +kernel
theorem d_Mo_replace_207 : decode b_Mo_replace 207 = .ok (.aload 4, 2) := by decide +kernel
theorem d_Mo_replace_209 : decode b_Mo_replace 209 = .ok (.getfield 191, 3) := by decide +kernel
theorem d_Mo_replace_212 : decode b_Mo_replace 212 = .ok (.iload 10, 2) := by decide +kernel
theorem d_Mo_replace_214 : decode b_Mo_replace 214 = .ok (.baload, 1) := by decide +kernel
theorem d_Mo_replace_215 : decode b_Mo_replace 215 = .ok (.bastore, 1) := by decide +kernel
theorem d_Mo_replace_216 : decode b_Mo_replace 216 = .ok (.iinc 10 1, 3) := by decide +kernel
theorem d_Mo_replace_219 : decode b_Mo_replace 219 = .ok (.goto (-67), 3) := by decide +kernel
theorem d_Mo_replace_222 : decode b_Mo_replace 222 = .ok (.aload 4, 2) := by decide +kernel
theorem d_Mo_replace_224 : decode b_Mo_replace 224 = .ok (.getfield 125, 3) := by decide +kernel
theorem d_Mo_replace_227 : decode b_Mo_replace 227 = .ok (.iload_n 1, 1) := by decide +kernel
theorem d_Mo_replace_228 : decode b_Mo_replace 228 = .ok (.aload_n 0, 1) := by decide +kernel
theorem d_Mo_replace_229 : decode b_Mo_replace 229 = .ok (.getfield 73, 3) := by decide +kernel
theorem d_Mo_replace_232 : decode b_Mo_replace 232 = .ok (.iload_n 3, 1) := by decide +kernel
theorem d_Mo_replace_233 : decode b_Mo_replace 233 = .ok (.iaload, 1) := by decide +kernel
theorem d_Mo_replace_234 : decode b_Mo_replace 234 = .ok (.iastore, 1) := by decide +kernel
theorem d_Mo_replace_235 : decode b_Mo_replace 235 = .ok (.aload 4, 2) := by decide +kernel
theorem d_Mo_replace_237 : decode b_Mo_replace 237 = .ok (.getfield 132, 3) := by decide +kernel
theorem d_Mo_replace_240 : decode b_Mo_replace 240 = .ok (.iload_n 1, 1) := by decide +kernel
theorem d_Mo_replace_241 : decode b_Mo_replace 241 = .ok (.iconst (-1), 1) := by decide +kernel
theorem d_Mo_replace_242 : decode b_Mo_replace 242 = .ok (.iastore, 1) := by decide +kernel
theorem d_Mo_replace_243 : decode b_Mo_replace 243 = .ok (.aload 4, 2) := by decide +kernel
theorem d_Mo_replace_245 : decode b_Mo_replace 245 = .ok (.getfield 166, 3) := by decide +kernel
theorem d_Mo_replace_248 : decode b_Mo_replace 248 = .ok (.iload_n 1, 1) := by decide +kernel
theorem d_Mo_replace_249 : decode b_Mo_replace 249 = .ok (.iconst 0, 1) := by decide +kernel
theorem d_Mo_replace_250 : decode b_Mo_replace 250 = .ok (.iastore, 1) := by decide +kernel
theorem d_Mo_replace_251 : decode b_Mo_replace 251 = .ok (.iload_n 2, 1) := by decide +kernel
theorem d_Mo_replace_252 : decode b_Mo_replace 252 = .ok (.iload_n 1, 1) := by decide +kernel
theorem d_Mo_replace_253 : decode b_Mo_replace 253 = .ok (.isub, 1) := by decide +kernel
theorem d_Mo_replace_254 : decode b_Mo_replace 254 = .ok (.iconst 1, 1) := by decide +kernel
theorem d_Mo_replace_255 : decode b_Mo_replace 255 = .ok (.isub, 1) := by decide +kernel
theorem d_Mo_replace_256 : decode b_Mo_replace 256 = .ok (.istore 10, 2) := by decide +kernel
theorem d_Mo_replace_258 : decode b_Mo_replace 258 = .ok (.iload_n 2, 1) := by decide +kernel
theorem d_Mo_replace_259 : decode b_Mo_replace 259 = .ok (.istore 11, 2) := by decide +kernel
theorem d_Mo_replace_261 : decode b_Mo_replace 261 = .ok (.iload 11, 2) := by decide +kernel
theorem d_Mo_replace_263 : decode b_Mo_replace 263 = .ok (.aload 4, 2) := by decide +kernel
theorem d_Mo_replace_265 : decode b_Mo_replace 265 = .ok (.getfield 122, 3) := by decide +kernel
theorem d_Mo_replace_268 : decode b_Mo_replace 268 = .ok (.if_icmp .ge 66, 3) := by decide +kernel
theorem d_Mo_replace_271 : decode b_Mo_replace 271 = .ok (.aload 4, 2) := by decide +kernel
theorem d_Mo_replace_273 : decode b_Mo_replace 273 = .ok (.getfield 125, 3) := by decide +kernel
theorem d_Mo_replace_276 : decode b_Mo_replace 276 = .ok (.iload 11, 2) := by decide +kernel
theorem d_Mo_replace_278 : decode b_Mo_replace 278 = .ok (.iload 10, 2) := by decide +kernel
theorem d_Mo_replace_280 : decode b_Mo_replace 280 = .ok (.isub, 1) := by decide +kernel
theorem d_Mo_replace_281 : decode b_Mo_replace 281 = .ok (.aload 4, 2) := by decide +kernel
theorem d_Mo_replace_283 : decode b_Mo_replace 283 = .ok (.getfield 125, 3) := by decide +kernel
theorem d_Mo_replace_286 : decode b_Mo_replace 286 = .ok (.iload 11, 2) := by decide +kernel
theorem d_Mo_replace_288 : decode b_Mo_replace 288 = .ok (.iaload, 1) := by decide +kernel
theorem d_Mo_replace_289 : decode b_Mo_replace 289 = .ok (.iastore, 1) := by decide +kernel
theorem d_Mo_replace_290 : decode b_Mo_replace 290 = .ok (.aload 4, 2) := by decide +kernel
theorem d_Mo_replace_292 : decode b_Mo_replace 292 = .ok (.getfield 132, 3) := by decide +kernel
theorem d_Mo_replace_295 : decode b_Mo_replace 295 = .ok (.iload 11, 2) := by decide +kernel
theorem d_Mo_replace_297 : decode b_Mo_replace 297 = .ok (.iload 10, 2) := by decide +kernel
theorem d_Mo_replace_299 : decode b_Mo_replace 299 = .ok (.isub, 1) := by decide +kernel
theorem d_Mo_replace_300 : decode b_Mo_replace 300 = .ok (.aload 4, 2) := by decide +kernel
theorem d_Mo_replace_302 : decode b_Mo_replace 302 = .ok (.getfield 132, 3) := by decide +kernel
theorem d_Mo_replace_305 : decode b_Mo_replace 305 = .ok (.iload 11, 2) := by decide +kernel
theorem d_Mo_replace_307 : decode b_Mo_replace 307 = .ok (.iaload, 1) := by decide +kernel
theorem d_Mo_replace_308 : decode b_Mo_replace 308 = .ok (.iastore, 1) := by decide +kernel
theorem d_Mo_replace_309 : decode b_Mo_replace 309 = .ok (.aload 4, 2) := by decide +kernel
theorem d_Mo_replace_311 : decode b_Mo_replace 311 = .ok (.getfield 166, 3) := by decide +kernel
theorem d_Mo_replace_314 : decode b_Mo_replace 314 = .ok (.iload 11, 2) := by decide +kernel
theorem d_Mo_replace_316 : decode b_Mo_replace 316 = .ok (.iload 10, 2) := by decide +kernel
theorem d_Mo_replace_318 : decode b_Mo_replace 318 = .ok (.isub, 1) := by decide +kernel
theorem d_Mo_replace_319 : decode b_Mo_replace 319 = .ok (.aload 4, 2) := by decide +kernel
theorem d_Mo_replace_321 : decode b_Mo_replace 321 = .ok (.getfield 166, 3) := by decide +kernel
theorem d_Mo_replace_324 : decode b_Mo_replace 324 = .ok (.iload 11, 2) := by decide +kernel
theorem d_Mo_replace_326 : decode b_Mo_replace 326 = .ok (.iaload, 1) := by decide +kernel
theorem d_Mo_replace_327 : decode b_Mo_replace 327 = .ok (.iastore, 1) := by decide +kernel
theorem d_Mo_replace_328 : decode b_Mo_replace 328 = .ok (.iinc 11 1, 3) := by decide +kernel
theorem d_Mo_replace_331 : decode b_Mo_replace 331 = .ok (.goto (-70), 3) := by decide +kernel
theorem d_Mo_replace_334 : decode b_Mo_replace 334 = .ok (.aload 4, 2) := by decide +kernel
theorem d_Mo_replace_336 : decode b_Mo_replace 336 = .ok (.getfield 182, 3) := by decide +kernel
theorem d_Mo_replace_339 : decode b_Mo_replace 339 = .ok (.iload_n 1, 1) := by decide +kernel
theorem d_Mo_replace_340 : decode b_Mo_replace 340 = .ok (.iconst 1, 1) := by decide +kernel
theorem d_Mo_replace_341 : decode b_Mo_replace 341 = .ok (.iadd, 1) := by decide +kernel
theorem d_Mo_replace_342 : decode b_Mo_replace 342 = .ok (.iload 5, 2) := by decide +kernel
theorem d_Mo_replace_344 : decode b_Mo_replace 344 = .ok (.iload 6, 2) := by decide +kernel
theorem d_Mo_replace_346 : decode b_Mo_replace 346 = .ok (.iadd, 1) := by decide +kernel
theorem d_Mo_replace_347 : decode b_Mo_replace 347 = .ok (.iastore, 1) := by decide +kernel
theorem d_Mo_replace_348 : decode b_Mo_replace 348 = .ok (.iload_n 2, 1) := by decide +kernel
theorem d_Mo_replace_349 : decode b_Mo_replace 349 = .ok (.iconst 1, 1) := by decide +kernel
theorem d_Mo_replace_350 : decode b_Mo_replace 350 = .ok (.iadd, 1) := by decide +kernel
theorem d_Mo_replace_351 : decode b_Mo_replace 351 = .ok (.istore 11, 2) := by decide +kernel
theorem d_Mo_replace_353 : decode b_Mo_replace 353 = .ok (.iload 11, 2) := by decide +kernel
theorem d_Mo_replace_355 : decode b_Mo_replace 355 = .ok (.aload 4, 2) := by decide +kernel
theorem d_Mo_replace_357 : decode b_Mo_replace 357 = .ok (.getfield 122, 3) := by decide +kernel
theorem d_Mo_replace_360 : decode b_Mo_replace 360 = .ok (.if_icmp .gt 31, 3) := by decide +kernel
theorem d_Mo_replace_363 : decode b_Mo_replace 363 = .ok (.aload 4, 2) := by decide +kernel
theorem d_Mo_replace_365 : decode b_Mo_replace 365 = .ok (.getfield 182, 3) := by decide +kernel
theorem d_Mo_replace_368 : decode b_Mo_replace 368 = .ok (.iload 11, 2) := by decide +kernel
theorem d_Mo_replace_370 : decode b_Mo_replace 370 = .ok (.iload 10, 2) := by decide +kernel
theorem d_Mo_replace_372 : decode b_Mo_replace 372 = .ok (.isub, 1) := by decide +kernel
theorem d_Mo_replace_373 : decode b_Mo_replace 373 = .ok (.aload 4, 2) := by decide +kernel
theorem d_Mo_replace_375 : decode b_Mo_replace 375 = .ok (.getfield 182, 3) := by decide +kernel
theorem d_Mo_replace_378 : decode b_Mo_replace 378 = .ok (.iload 11, 2) := by decide +kernel
theorem d_Mo_replace_380 : decode b_Mo_replace 380 = .ok (.iaload, 1) := by decide +kernel
theorem d_Mo_replace_381 : decode b_Mo_replace 381 = .ok (.iload 9, 2) := by decide +kernel
theorem d_Mo_replace_383 : decode b_Mo_replace 383 = .ok (.isub, 1) := by decide +kernel
theorem d_Mo_replace_384 : decode b_Mo_replace 384 = .ok (.iastore, 1) := by decide +kernel
theorem d_Mo_replace_385 : decode b_Mo_replace 385 = .ok (.iinc 11 1, 3) := by decide +kernel
theorem d_Mo_replace_388 : decode b_Mo_replace 388 = .ok (.goto (-35), 3) := by decide +kernel
theorem d_Mo_replace_391 : decode b_Mo_replace 391 = .ok (.aload 4, 2) := by decide +kernel
theorem d_Mo_replace_393 : decode b_Mo_replace 393 = .ok (.dup, 1) := by decide +kernel
theorem d_Mo_replace_394 : decode b_Mo_replace 394 = .ok (.getfield 122, 3) := by decide +kernel
theorem d_Mo_replace_397 : decode b_Mo_replace 397 = .ok (.iload 10, 2) := by decide +kernel
theorem d_Mo_replace_399 : decode b_Mo_replace 399 = .ok (.isub, 1) := by decide +kernel
theorem d_Mo_replace_400 : decode b_Mo_replace 400 = .ok (.putfield 122, 3) := by decide +kernel
theorem d_Mo_replace_403 : decode b_Mo_replace 403 = .ok (.return_, 1) := by decide +kernel
theorem kc_Mo_replace : Cond.code y_Mo_replace b_Mo_replace 12 none ∈ gx_all := gx_in 1194 (by decide +kernel)
abbrev b_Mo_rollback : ByteArray := prog_9_method_34_code
def y_Mo_rollback : MethodName := ⟨"CommitLedgerModel", "rollback", "()V"⟩
theorem d_Mo_rollback_0 : decode b_Mo_rollback 0 = .ok (.aload_n 0, 1) := by decide +kernel
theorem d_Mo_rollback_1 : decode b_Mo_rollback 1 = .ok (.aload_n 0, 1) := by decide +kernel
theorem d_Mo_rollback_2 : decode b_Mo_rollback 2 = .ok (.getfield 99, 3) := by decide +kernel
theorem d_Mo_rollback_5 : decode b_Mo_rollback 5 = .ok (.ifCond .ne 7, 3) := by decide +kernel
theorem d_Mo_rollback_8 : decode b_Mo_rollback 8 = .ok (.iconst 1, 1) := by decide +kernel
theorem d_Mo_rollback_9 : decode b_Mo_rollback 9 = .ok (.goto 4, 3) := by decide +kernel
theorem d_Mo_rollback_12 : decode b_Mo_rollback 12 = .ok (.iconst 0, 1) := by decide +kernel
theorem d_Mo_rollback_13 : decode b_Mo_rollback 13 = .ok (.iconst 2, 1) := by decide +kernel
theorem d_Mo_rollback_14 : decode b_Mo_rollback 14 = .ok (.invokevirtual 152, 3) := by decide +kernel
theorem d_Mo_rollback_17 : decode b_Mo_rollback 17 = .ok (.ifCond .ne 8, 3) := by decide +kernel
theorem d_Mo_rollback_20 : decode b_Mo_rollback 20 = .ok (.aload_n 0, 1) := by decide +kernel
theorem d_Mo_rollback_21 : decode b_Mo_rollback 21 = .ok (.iconst 0, 1) := by decide +kernel
theorem d_Mo_rollback_22 : decode b_Mo_rollback 22 = .ok (.invokevirtual 245, 3) := by decide +kernel
theorem d_Mo_rollback_25 : decode b_Mo_rollback 25 = .ok (.aload_n 0, 1) := by decide +kernel
theorem d_Mo_rollback_26 : decode b_Mo_rollback 26 = .ok (.iconst 0, 1) := by decide +kernel
theorem d_Mo_rollback_27 : decode b_Mo_rollback 27 = .ok (.iconst 2, 1) := by decide +kernel
theorem d_Mo_rollback_28 : decode b_Mo_rollback 28 = .ok (.invokevirtual 175, 3) := by decide +kernel
theorem d_Mo_rollback_31 : decode b_Mo_rollback 31 = .ok (.istore_n 1, 1) := by decide +kernel
theorem d_Mo_rollback_32 : decode b_Mo_rollback 32 = .ok (.return_, 1) := by decide +kernel
theorem kc_Mo_rollback : Cond.code y_Mo_rollback b_Mo_rollback 2 none ∈ gx_all := gx_in 1226 (by decide +kernel)
abbrev b_Mo_row : ByteArray := prog_9_method_21_code
def y_Mo_row : MethodName := ⟨"CommitLedgerModel", "row", "(III)Z"⟩
theorem d_Mo_row_0 : decode b_Mo_row 0 = .ok (.iload_n 1, 1) := by decide +kernel
theorem d_Mo_row_1 : decode b_Mo_row 1 = .ok (.iload_n 2, 1) := by decide +kernel
theorem d_Mo_row_2 : decode b_Mo_row 2 = .ok (.iadd, 1) := by decide +kernel
theorem d_Mo_row_3 : decode b_Mo_row 3 = .ok (.aload_n 0, 1) := by decide +kernel
theorem d_Mo_row_4 : decode b_Mo_row 4 = .ok (.getfield 40, 3) := by decide +kernel
theorem d_Mo_row_7 : decode b_Mo_row 7 = .ok (.getfield 122, 3) := by decide +kernel
theorem d_Mo_row_10 : decode b_Mo_row 10 = .ok (.if_icmp .le 5, 3) := by decide +kernel
theorem d_Mo_row_13 : decode b_Mo_row 13 = .ok (.iconst 0, 1) := by decide +kernel
theorem d_Mo_row_14 : decode b_Mo_row 14 = .ok (.ireturn, 1) := by decide +kernel
theorem d_Mo_row_15 : decode b_Mo_row 15 = .ok (.iload_n 1, 1) := by decide +kernel
theorem d_Mo_row_16 : decode b_Mo_row 16 = .ok (.istore 4, 2) := by decide +kernel
theorem d_Mo_row_18 : decode b_Mo_row 18 = .ok (.iload 4, 2) := by decide +kernel
theorem d_Mo_row_20 : decode b_Mo_row 20 = .ok (.iload_n 1, 1) := by decide +kernel
theorem d_Mo_row_21 : decode b_Mo_row 21 = .ok (.iload_n 2, 1) := by decide +kernel
theorem d_Mo_row_22 : decode b_Mo_row 22 = .ok (.iadd, 1) := by decide +kernel
theorem d_Mo_row_23 : decode b_Mo_row 23 = .ok (.if_icmp .ge 34, 3) := by decide +kernel
theorem d_Mo_row_26 : decode b_Mo_row 26 = .ok (.aload_n 0, 1) := by decide +kernel
theorem d_Mo_row_27 : decode b_Mo_row 27 = .ok (.getfield 40, 3) := by decide +kernel
theorem d_Mo_row_30 : decode b_Mo_row 30 = .ok (.getfield 166, 3) := by decide +kernel
theorem d_Mo_row_33 : decode b_Mo_row 33 = .ok (.iload 4, 2) := by decide +kernel
theorem d_Mo_row_35 : decode b_Mo_row 35 = .ok (.iaload, 1) := by decide +kernel
theorem d_Mo_row_36 : decode b_Mo_row 36 = .ok (.ifCond .ne 13, 3) := by decide +kernel
theorem d_Mo_row_39 : decode b_Mo_row 39 = .ok (.aload_n 0, 1) := by decide +kernel
theorem d_Mo_row_40 : decode b_Mo_row 40 = .ok (.iload 4, 2) := by decide +kernel
theorem d_Mo_row_42 : decode b_Mo_row 42 = .ok (.invokevirtual 205, 3) := by decide +kernel
theorem d_Mo_row_45 : decode b_Mo_row 45 = .ok (.iload_n 3, 1) := by decide +kernel
theorem d_Mo_row_46 : decode b_Mo_row 46 = .ok (.if_icmp .le 5, 3) := by decide +kernel
theorem d_Mo_row_49 : decode b_Mo_row 49 = .ok (.iconst 0, 1) := by decide +kernel
theorem d_Mo_row_50 : decode b_Mo_row 50 = .ok (.ireturn, 1) := by decide +kernel
theorem d_Mo_row_51 : decode b_Mo_row 51 = .ok (.iinc 4 1, 3) := by decide +kernel
theorem d_Mo_row_54 : decode b_Mo_row 54 = .ok (.goto (-36), 3) := by decide +kernel
theorem d_Mo_row_57 : decode b_Mo_row 57 = .ok (.iconst 1, 1) := by decide +kernel
theorem d_Mo_row_58 : decode b_Mo_row 58 = .ok (.ireturn, 1) := by decide +kernel
theorem kc_Mo_row : Cond.code y_Mo_row b_Mo_row 5 (some .boolean) ∈ gx_all := gx_in 1178 (by decide +kernel)
abbrev b_Mo_seen : ByteArray := prog_9_method_47_code
def y_Mo_seen : MethodName := ⟨"CommitLedgerModel", "seen", "(II)I"⟩
theorem d_Mo_seen_0 : decode b_Mo_seen 0 = .ok (.aload_n 0, 1) := by decide +kernel
theorem d_Mo_seen_1 : decode b_Mo_seen 1 = .ok (.iload_n 2, 1) := by decide +kernel
theorem d_Mo_seen_2 : decode b_Mo_seen 2 = .ok (.ifCond .lt 8, 3) := by decide +kernel
theorem d_Mo_seen_5 : decode b_Mo_seen 5 = .ok (.iload_n 2, 1) := by decide +kernel
theorem d_Mo_seen_6 : decode b_Mo_seen 6 = .ok (.iconst 2, 1) := by decide +kernel
theorem d_Mo_seen_7 : decode b_Mo_seen 7 = .ok (.if_icmp .le 7, 3) := by decide +kernel
theorem d_Mo_seen_10 : decode b_Mo_seen 10 = .ok (.iconst 1, 1) := by decide +kernel
theorem d_Mo_seen_11 : decode b_Mo_seen 11 = .ok (.goto 4, 3) := by decide +kernel
theorem d_Mo_seen_14 : decode b_Mo_seen 14 = .ok (.iconst 0, 1) := by decide +kernel
theorem d_Mo_seen_15 : decode b_Mo_seen 15 = .ok (.iconst 1, 1) := by decide +kernel
theorem d_Mo_seen_16 : decode b_Mo_seen 16 = .ok (.invokevirtual 152, 3) := by decide +kernel
theorem d_Mo_seen_19 : decode b_Mo_seen 19 = .ok (.ifCond .eq 11, 3) := by decide +kernel
theorem d_Mo_seen_22 : decode b_Mo_seen 22 = .ok (.aload_n 0, 1) := by decide +kernel
theorem d_Mo_seen_23 : decode b_Mo_seen 23 = .ok (.iconst 0, 1) := by decide +kernel
theorem d_Mo_seen_24 : decode b_Mo_seen 24 = .ok (.bipush 13, 2) := by decide +kernel
theorem d_Mo_seen_26 : decode b_Mo_seen 26 = .ok (.invokevirtual 148, 3) := by decide +kernel
theorem d_Mo_seen_29 : decode b_Mo_seen 29 = .ok (.ireturn, 1) := by decide +kernel
theorem d_Mo_seen_30 : decode b_Mo_seen 30 = .ok (.aload_n 0, 1) := by decide +kernel
theorem d_Mo_seen_31 : decode b_Mo_seen 31 = .ok (.iload_n 1, 1) := by decide +kernel
theorem d_Mo_seen_32 : decode b_Mo_seen 32 = .ok (.invokevirtual 257, 3) := by decide +kernel
theorem d_Mo_seen_35 : decode b_Mo_seen 35 = .ok (.astore_n 3, 1) := by decide +kernel
theorem d_Mo_seen_36 : decode b_Mo_seen 36 = .ok (.aload_n 0, 1) := by decide +kernel
theorem d_Mo_seen_37 : decode b_Mo_seen 37 = .ok (.getfield 84, 3) := by decide +kernel
theorem d_Mo_seen_40 : decode b_Mo_seen 40 = .ok (.ifCond .eq 11, 3) := by decide +kernel
theorem d_Mo_seen_43 : decode b_Mo_seen 43 = .ok (.aload_n 0, 1) := by decide +kernel
theorem d_Mo_seen_44 : decode b_Mo_seen 44 = .ok (.iconst 0, 1) := by decide +kernel
theorem d_Mo_seen_45 : decode b_Mo_seen 45 = .ok (.bipush 13, 2) := by decide +kernel
theorem d_Mo_seen_47 : decode b_Mo_seen 47 = .ok (.invokevirtual 148, 3) := by decide +kernel
theorem d_Mo_seen_50 : decode b_Mo_seen 50 = .ok (.ireturn, 1) := by decide +kernel
theorem d_Mo_seen_51 : decode b_Mo_seen 51 = .ok (.aload_n 0, 1) := by decide +kernel
theorem d_Mo_seen_52 : decode b_Mo_seen 52 = .ok (.iload_n 2, 1) := by decide +kernel
theorem d_Mo_seen_53 : decode b_Mo_seen 53 = .ok (.ifCond .ne 10, 3) := by decide +kernel
theorem d_Mo_seen_56 : decode b_Mo_seen 56 = .ok (.aload_n 3, 1) := by decide +kernel
theorem d_Mo_seen_57 : decode b_Mo_seen 57 = .ok (.invokevirtual 261, 3) := by decide +kernel
theorem d_Mo_seen_60 : decode b_Mo_seen 60 = .ok (.goto 19, 3) := by decide +kernel
theorem d_Mo_seen_63 : decode b_Mo_seen 63 = .ok (.iload_n 2, 1) := by decide +kernel
theorem d_Mo_seen_64 : decode b_Mo_seen 64 = .ok (.iconst 1, 1) := by decide +kernel
theorem d_Mo_seen_65 : decode b_Mo_seen 65 = .ok (.if_icmp .ne 10, 3) := by decide +kernel
theorem d_Mo_seen_68 : decode b_Mo_seen 68 = .ok (.aload_n 3, 1) := by decide +kernel
theorem d_Mo_seen_69 : decode b_Mo_seen 69 = .ok (.invokevirtual 200, 3) := by decide +kernel
theorem d_Mo_seen_72 : decode b_Mo_seen 72 = .ok (.goto 7, 3) := by decide +kernel
theorem d_Mo_seen_75 : decode b_Mo_seen 75 = .ok (.aload_n 3, 1) := by decide +kernel
theorem d_Mo_seen_76 : decode b_Mo_seen 76 = .ok (.getfield 122, 3) := by decide +kernel
theorem d_Mo_seen_79 : decode b_Mo_seen 79 = .ok (.bipush 13, 2) := by decide +kernel
theorem d_Mo_seen_81 : decode b_Mo_seen 81 = .ok (.invokevirtual 148, 3) := by decide +kernel
theorem d_Mo_seen_84 : decode b_Mo_seen 84 = .ok (.ireturn, 1) := by decide +kernel
theorem kc_Mo_seen : Cond.code y_Mo_seen b_Mo_seen 4 (some .int) ∈ gx_all := gx_in 1280 (by decide +kernel)
