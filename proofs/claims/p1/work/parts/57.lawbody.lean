/-! NAMES: decode rows of the law's body -/
abbrev b_Lw_law : ByteArray := code
def y_Lw_law : MethodName := ⟨"CommitLedgerLaw", "law", "([I)Z"⟩
theorem d_Lw_law_0 : decode b_Lw_law 0 = .ok (.new 8, 3) := by decide +kernel
theorem d_Lw_law_3 : decode b_Lw_law 3 = .ok (.dup, 1) := by decide +kernel
theorem d_Lw_law_4 : decode b_Lw_law 4 = .ok (.invokespecial 88, 3) := by decide +kernel
theorem d_Lw_law_7 : decode b_Lw_law 7 = .ok (.astore_n 1, 1) := by decide +kernel
theorem d_Lw_law_8 : decode b_Lw_law 8 = .ok (.new 89, 3) := by decide +kernel
theorem d_Lw_law_11 : decode b_Lw_law 11 = .ok (.dup, 1) := by decide +kernel
theorem d_Lw_law_12 : decode b_Lw_law 12 = .ok (.invokespecial 91, 3) := by decide +kernel
theorem d_Lw_law_15 : decode b_Lw_law 15 = .ok (.astore_n 2, 1) := by decide +kernel
theorem d_Lw_law_16 : decode b_Lw_law 16 = .ok (.iconst 1, 1) := by decide +kernel
theorem d_Lw_law_17 : decode b_Lw_law 17 = .ok (.newarray .long, 2) := by decide +kernel
theorem d_Lw_law_19 : decode b_Lw_law 19 = .ok (.astore_n 3, 1) := by decide +kernel
theorem d_Lw_law_20 : decode b_Lw_law 20 = .ok (.iconst 0, 1) := by decide +kernel
theorem d_Lw_law_21 : decode b_Lw_law 21 = .ok (.istore 4, 2) := by decide +kernel
theorem d_Lw_law_23 : decode b_Lw_law 23 = .ok (.iload 4, 2) := by decide +kernel
theorem d_Lw_law_25 : decode b_Lw_law 25 = .ok (.aload_n 0, 1) := by decide +kernel
theorem d_Lw_law_26 : decode b_Lw_law 26 = .ok (.arraylength, 1) := by decide +kernel
theorem d_Lw_law_27 : decode b_Lw_law 27 = .ok (.iconst 4, 1) := by decide +kernel
theorem d_Lw_law_28 : decode b_Lw_law 28 = .ok (.isub, 1) := by decide +kernel
theorem d_Lw_law_29 : decode b_Lw_law 29 = .ok (.if_icmp .gt 1249, 3) := by decide +kernel
theorem d_Lw_law_32 : decode b_Lw_law 32 = .ok (.aload_n 0, 1) := by decide +kernel
theorem d_Lw_law_33 : decode b_Lw_law 33 = .ok (.iload 4, 2) := by decide +kernel
theorem d_Lw_law_35 : decode b_Lw_law 35 = .ok (.iaload, 1) := by decide +kernel
theorem d_Lw_law_36 : decode b_Lw_law 36 = .ok (.bipush 31, 2) := by decide +kernel
theorem d_Lw_law_38 : decode b_Lw_law 38 = .ok (.iand, 1) := by decide +kernel
theorem d_Lw_law_39 : decode b_Lw_law 39 = .ok (.tableswitch 1233 0 21 #[101, 157, 205, 285, 341, 385, 441, 525, 569, 613, 637, 681, 717, 728, 776, 832, 868, 936, 1004, 1072, 1140, 1208], 101) := by decide +kernel
theorem d_Lw_law_140 : decode b_Lw_law 140 = .ok (.aload_n 1, 1) := by decide +kernel
theorem d_Lw_law_141 : decode b_Lw_law 141 = .ok (.aload_n 0, 1) := by decide +kernel
theorem d_Lw_law_142 : decode b_Lw_law 142 = .ok (.iload 4, 2) := by decide +kernel
theorem d_Lw_law_144 : decode b_Lw_law 144 = .ok (.iconst 1, 1) := by decide +kernel
theorem d_Lw_law_145 : decode b_Lw_law 145 = .ok (.iadd, 1) := by decide +kernel
theorem d_Lw_law_146 : decode b_Lw_law 146 = .ok (.iaload, 1) := by decide +kernel
theorem d_Lw_law_147 : decode b_Lw_law 147 = .ok (.aload_n 3, 1) := by decide +kernel
theorem d_Lw_law_148 : decode b_Lw_law 148 = .ok (.invokestatic 92, 3) := by decide +kernel
theorem d_Lw_law_151 : decode b_Lw_law 151 = .ok (.istore 5, 2) := by decide +kernel
theorem d_Lw_law_153 : decode b_Lw_law 153 = .ok (.aload_n 2, 1) := by decide +kernel
theorem d_Lw_law_154 : decode b_Lw_law 154 = .ok (.aload_n 0, 1) := by decide +kernel
theorem d_Lw_law_155 : decode b_Lw_law 155 = .ok (.iload 4, 2) := by decide +kernel
theorem d_Lw_law_157 : decode b_Lw_law 157 = .ok (.iconst 1, 1) := by decide +kernel
theorem d_Lw_law_158 : decode b_Lw_law 158 = .ok (.iadd, 1) := by decide +kernel
theorem d_Lw_law_159 : decode b_Lw_law 159 = .ok (.iaload, 1) := by decide +kernel
theorem d_Lw_law_160 : decode b_Lw_law 160 = .ok (.invokevirtual 97, 3) := by decide +kernel
theorem d_Lw_law_163 : decode b_Lw_law 163 = .ok (.istore 6, 2) := by decide +kernel
theorem d_Lw_law_165 : decode b_Lw_law 165 = .ok (.aload_n 2, 1) := by decide +kernel
theorem d_Lw_law_166 : decode b_Lw_law 166 = .ok (.invokevirtual 98, 3) := by decide +kernel
theorem d_Lw_law_169 : decode b_Lw_law 169 = .ok (.iload 5, 2) := by decide +kernel
theorem d_Lw_law_171 : decode b_Lw_law 171 = .ok (.if_icmp .eq 5, 3) := by decide +kernel
theorem d_Lw_law_174 : decode b_Lw_law 174 = .ok (.iconst 0, 1) := by decide +kernel
theorem d_Lw_law_175 : decode b_Lw_law 175 = .ok (.ireturn, 1) := by decide +kernel
theorem d_Lw_law_176 : decode b_Lw_law 176 = .ok (.iload 5, 2) := by decide +kernel
theorem d_Lw_law_178 : decode b_Lw_law 178 = .ok (.ifCond .ne 15, 3) := by decide +kernel
theorem d_Lw_law_181 : decode b_Lw_law 181 = .ok (.aload_n 3, 1) := by decide +kernel
theorem d_Lw_law_182 : decode b_Lw_law 182 = .ok (.iconst 0, 1) := by decide +kernel
theorem d_Lw_law_183 : decode b_Lw_law 183 = .ok (.laload, 1) := by decide +kernel
theorem d_Lw_law_184 : decode b_Lw_law 184 = .ok (.iload 6, 2) := by decide +kernel
theorem d_Lw_law_186 : decode b_Lw_law 186 = .ok (.i2l, 1) := by decide +kernel
theorem d_Lw_law_187 : decode b_Lw_law 187 = .ok (.lcmp, 1) := by decide +kernel
theorem d_Lw_law_188 : decode b_Lw_law 188 = .ok (.ifCond .eq 5, 3) := by decide +kernel
theorem d_Lw_law_191 : decode b_Lw_law 191 = .ok (.iconst 0, 1) := by decide +kernel
theorem d_Lw_law_192 : decode b_Lw_law 192 = .ok (.ireturn, 1) := by decide +kernel
theorem d_Lw_law_193 : decode b_Lw_law 193 = .ok (.goto 1079, 3) := by decide +kernel
theorem d_Lw_law_196 : decode b_Lw_law 196 = .ok (.aload_n 1, 1) := by decide +kernel
theorem d_Lw_law_197 : decode b_Lw_law 197 = .ok (.aload_n 0, 1) := by decide +kernel
theorem d_Lw_law_198 : decode b_Lw_law 198 = .ok (.iload 4, 2) := by decide +kernel
theorem d_Lw_law_200 : decode b_Lw_law 200 = .ok (.iconst 1, 1) := by decide +kernel
theorem d_Lw_law_201 : decode b_Lw_law 201 = .ok (.iadd, 1) := by decide +kernel
theorem d_Lw_law_202 : decode b_Lw_law 202 = .ok (.iaload, 1) := by decide +kernel
theorem d_Lw_law_203 : decode b_Lw_law 203 = .ok (.aload_n 0, 1) := by decide +kernel
theorem d_Lw_law_204 : decode b_Lw_law 204 = .ok (.iload 4, 2) := by decide +kernel
theorem d_Lw_law_206 : decode b_Lw_law 206 = .ok (.iconst 2, 1) := by decide +kernel
theorem d_Lw_law_207 : decode b_Lw_law 207 = .ok (.iadd, 1) := by decide +kernel
theorem d_Lw_law_208 : decode b_Lw_law 208 = .ok (.iaload, 1) := by decide +kernel
theorem d_Lw_law_209 : decode b_Lw_law 209 = .ok (.invokestatic 101, 3) := by decide +kernel
theorem d_Lw_law_212 : decode b_Lw_law 212 = .ok (.istore 5, 2) := by decide +kernel
theorem d_Lw_law_214 : decode b_Lw_law 214 = .ok (.aload_n 2, 1) := by decide +kernel
theorem d_Lw_law_215 : decode b_Lw_law 215 = .ok (.aload_n 0, 1) := by decide +kernel
theorem d_Lw_law_216 : decode b_Lw_law 216 = .ok (.iload 4, 2) := by decide +kernel
theorem d_Lw_law_218 : decode b_Lw_law 218 = .ok (.iconst 1, 1) := by decide +kernel
theorem d_Lw_law_219 : decode b_Lw_law 219 = .ok (.iadd, 1) := by decide +kernel
theorem d_Lw_law_220 : decode b_Lw_law 220 = .ok (.iaload, 1) := by decide +kernel
theorem d_Lw_law_221 : decode b_Lw_law 221 = .ok (.aload_n 0, 1) := by decide +kernel
theorem d_Lw_law_222 : decode b_Lw_law 222 = .ok (.iload 4, 2) := by decide +kernel
theorem d_Lw_law_224 : decode b_Lw_law 224 = .ok (.iconst 2, 1) := by decide +kernel
theorem d_Lw_law_225 : decode b_Lw_law 225 = .ok (.iadd, 1) := by decide +kernel
theorem d_Lw_law_226 : decode b_Lw_law 226 = .ok (.iaload, 1) := by decide +kernel
theorem d_Lw_law_227 : decode b_Lw_law 227 = .ok (.invokevirtual 104, 3) := by decide +kernel
theorem d_Lw_law_230 : decode b_Lw_law 230 = .ok (.aload_n 2, 1) := by decide +kernel
theorem d_Lw_law_231 : decode b_Lw_law 231 = .ok (.invokevirtual 98, 3) := by decide +kernel
theorem d_Lw_law_234 : decode b_Lw_law 234 = .ok (.iload 5, 2) := by decide +kernel
theorem d_Lw_law_236 : decode b_Lw_law 236 = .ok (.if_icmp .eq 5, 3) := by decide +kernel
theorem d_Lw_law_239 : decode b_Lw_law 239 = .ok (.iconst 0, 1) := by decide +kernel
theorem d_Lw_law_240 : decode b_Lw_law 240 = .ok (.ireturn, 1) := by decide +kernel
theorem d_Lw_law_241 : decode b_Lw_law 241 = .ok (.goto 1031, 3) := by decide +kernel
theorem d_Lw_law_244 : decode b_Lw_law 244 = .ok (.aload_n 1, 1) := by decide +kernel
theorem d_Lw_law_245 : decode b_Lw_law 245 = .ok (.aload_n 0, 1) := by decide +kernel
theorem d_Lw_law_246 : decode b_Lw_law 246 = .ok (.iload 4, 2) := by decide +kernel
theorem d_Lw_law_248 : decode b_Lw_law 248 = .ok (.iconst 1, 1) := by decide +kernel
theorem d_Lw_law_249 : decode b_Lw_law 249 = .ok (.iadd, 1) := by decide +kernel
theorem d_Lw_law_250 : decode b_Lw_law 250 = .ok (.iaload, 1) := by decide +kernel
theorem d_Lw_law_251 : decode b_Lw_law 251 = .ok (.aload_n 0, 1) := by decide +kernel
theorem d_Lw_law_252 : decode b_Lw_law 252 = .ok (.iload 4, 2) := by decide +kernel
theorem d_Lw_law_254 : decode b_Lw_law 254 = .ok (.iconst 2, 1) := by decide +kernel
theorem d_Lw_law_255 : decode b_Lw_law 255 = .ok (.iadd, 1) := by decide +kernel
theorem d_Lw_law_256 : decode b_Lw_law 256 = .ok (.iaload, 1) := by decide +kernel
theorem d_Lw_law_257 : decode b_Lw_law 257 = .ok (.aload_n 0, 1) := by decide +kernel
theorem d_Lw_law_258 : decode b_Lw_law 258 = .ok (.iload 4, 2) := by decide +kernel
theorem d_Lw_law_260 : decode b_Lw_law 260 = .ok (.iconst 3, 1) := by decide +kernel
theorem d_Lw_law_261 : decode b_Lw_law 261 = .ok (.iadd, 1) := by decide +kernel
theorem d_Lw_law_262 : decode b_Lw_law 262 = .ok (.iaload, 1) := by decide +kernel
theorem d_Lw_law_263 : decode b_Lw_law 263 = .ok (.aload_n 3, 1) := by decide +kernel
theorem d_Lw_law_264 : decode b_Lw_law 264 = .ok (.invokestatic 105, 3) := by decide +kernel
theorem d_Lw_law_267 : decode b_Lw_law 267 = .ok (.istore 5, 2) := by decide +kernel
theorem d_Lw_law_269 : decode b_Lw_law 269 = .ok (.aload_n 2, 1) := by decide +kernel
theorem d_Lw_law_270 : decode b_Lw_law 270 = .ok (.aload_n 0, 1) := by decide +kernel
theorem d_Lw_law_271 : decode b_Lw_law 271 = .ok (.iload 4, 2) := by decide +kernel
theorem d_Lw_law_273 : decode b_Lw_law 273 = .ok (.iconst 1, 1) := by decide +kernel
theorem d_Lw_law_274 : decode b_Lw_law 274 = .ok (.iadd, 1) := by decide +kernel
theorem d_Lw_law_275 : decode b_Lw_law 275 = .ok (.iaload, 1) := by decide +kernel
theorem d_Lw_law_276 : decode b_Lw_law 276 = .ok (.aload_n 0, 1) := by decide +kernel
theorem d_Lw_law_277 : decode b_Lw_law 277 = .ok (.iload 4, 2) := by decide +kernel
theorem d_Lw_law_279 : decode b_Lw_law 279 = .ok (.iconst 2, 1) := by decide +kernel
theorem d_Lw_law_280 : decode b_Lw_law 280 = .ok (.iadd, 1) := by decide +kernel
theorem d_Lw_law_281 : decode b_Lw_law 281 = .ok (.iaload, 1) := by decide +kernel
theorem d_Lw_law_282 : decode b_Lw_law 282 = .ok (.aload_n 0, 1) := by decide +kernel
theorem d_Lw_law_283 : decode b_Lw_law 283 = .ok (.iload 4, 2) := by decide +kernel
theorem d_Lw_law_285 : decode b_Lw_law 285 = .ok (.iconst 3, 1) := by decide +kernel
theorem d_Lw_law_286 : decode b_Lw_law 286 = .ok (.iadd, 1) := by decide +kernel
theorem d_Lw_law_287 : decode b_Lw_law 287 = .ok (.iaload, 1) := by decide +kernel
theorem d_Lw_law_288 : decode b_Lw_law 288 = .ok (.invokevirtual 108, 3) := by decide +kernel
theorem d_Lw_law_291 : decode b_Lw_law 291 = .ok (.istore 6, 2) := by decide +kernel
theorem d_Lw_law_293 : decode b_Lw_law 293 = .ok (.aload_n 2, 1) := by decide +kernel
theorem d_Lw_law_294 : decode b_Lw_law 294 = .ok (.invokevirtual 98, 3) := by decide +kernel
theorem d_Lw_law_297 : decode b_Lw_law 297 = .ok (.iload 5, 2) := by decide +kernel
theorem d_Lw_law_299 : decode b_Lw_law 299 = .ok (.if_icmp .eq 5, 3) := by decide +kernel
theorem d_Lw_law_302 : decode b_Lw_law 302 = .ok (.iconst 0, 1) := by decide +kernel
theorem d_Lw_law_303 : decode b_Lw_law 303 = .ok (.ireturn, 1) := by decide +kernel
theorem d_Lw_law_304 : decode b_Lw_law 304 = .ok (.iload 5, 2) := by decide +kernel
theorem d_Lw_law_306 : decode b_Lw_law 306 = .ok (.ifCond .ne 15, 3) := by decide +kernel
theorem d_Lw_law_309 : decode b_Lw_law 309 = .ok (.aload_n 3, 1) := by decide +kernel
theorem d_Lw_law_310 : decode b_Lw_law 310 = .ok (.iconst 0, 1) := by decide +kernel
theorem d_Lw_law_311 : decode b_Lw_law 311 = .ok (.laload, 1) := by decide +kernel
theorem d_Lw_law_312 : decode b_Lw_law 312 = .ok (.iload 6, 2) := by decide +kernel
theorem d_Lw_law_314 : decode b_Lw_law 314 = .ok (.i2l, 1) := by decide +kernel
theorem d_Lw_law_315 : decode b_Lw_law 315 = .ok (.lcmp, 1) := by decide +kernel
theorem d_Lw_law_316 : decode b_Lw_law 316 = .ok (.ifCond .eq 5, 3) := by decide +kernel
theorem d_Lw_law_319 : decode b_Lw_law 319 = .ok (.iconst 0, 1) := by decide +kernel
theorem d_Lw_law_320 : decode b_Lw_law 320 = .ok (.ireturn, 1) := by decide +kernel
theorem d_Lw_law_321 : decode b_Lw_law 321 = .ok (.goto 951, 3) := by decide +kernel
theorem d_Lw_law_324 : decode b_Lw_law 324 = .ok (.aload_n 1, 1) := by decide +kernel
theorem d_Lw_law_325 : decode b_Lw_law 325 = .ok (.aload_n 0, 1) := by decide +kernel
theorem d_Lw_law_326 : decode b_Lw_law 326 = .ok (.iload 4, 2) := by decide +kernel
theorem d_Lw_law_328 : decode b_Lw_law 328 = .ok (.iconst 1, 1) := by decide +kernel
theorem d_Lw_law_329 : decode b_Lw_law 329 = .ok (.iadd, 1) := by decide +kernel
theorem d_Lw_law_330 : decode b_Lw_law 330 = .ok (.iaload, 1) := by decide +kernel
theorem d_Lw_law_331 : decode b_Lw_law 331 = .ok (.aload_n 3, 1) := by decide +kernel
theorem d_Lw_law_332 : decode b_Lw_law 332 = .ok (.invokestatic 109, 3) := by decide +kernel
theorem d_Lw_law_335 : decode b_Lw_law 335 = .ok (.istore 5, 2) := by decide +kernel
theorem d_Lw_law_337 : decode b_Lw_law 337 = .ok (.aload_n 2, 1) := by decide +kernel
theorem d_Lw_law_338 : decode b_Lw_law 338 = .ok (.aload_n 0, 1) := by decide +kernel
theorem d_Lw_law_339 : decode b_Lw_law 339 = .ok (.iload 4, 2) := by decide +kernel
theorem d_Lw_law_341 : decode b_Lw_law 341 = .ok (.iconst 1, 1) := by decide +kernel
theorem d_Lw_law_342 : decode b_Lw_law 342 = .ok (.iadd, 1) := by decide +kernel
theorem d_Lw_law_343 : decode b_Lw_law 343 = .ok (.iaload, 1) := by decide +kernel
theorem d_Lw_law_344 : decode b_Lw_law 344 = .ok (.invokevirtual 111, 3) := by decide +kernel
theorem d_Lw_law_347 : decode b_Lw_law 347 = .ok (.istore 6, 2) := by decide +kernel
theorem d_Lw_law_349 : decode b_Lw_law 349 = .ok (.aload_n 2, 1) := by decide +kernel
theorem d_Lw_law_350 : decode b_Lw_law 350 = .ok (.invokevirtual 98, 3) := by decide +kernel
theorem d_Lw_law_353 : decode b_Lw_law 353 = .ok (.iload 5, 2) := by decide +kernel
theorem d_Lw_law_355 : decode b_Lw_law 355 = .ok (.if_icmp .eq 5, 3) := by decide +kernel
theorem d_Lw_law_358 : decode b_Lw_law 358 = .ok (.iconst 0, 1) := by decide +kernel
theorem d_Lw_law_359 : decode b_Lw_law 359 = .ok (.ireturn, 1) := by decide +kernel
theorem d_Lw_law_360 : decode b_Lw_law 360 = .ok (.iload 5, 2) := by decide +kernel
theorem d_Lw_law_362 : decode b_Lw_law 362 = .ok (.ifCond .ne 15, 3) := by decide +kernel
theorem d_Lw_law_365 : decode b_Lw_law 365 = .ok (.aload_n 3, 1) := by decide +kernel
theorem d_Lw_law_366 : decode b_Lw_law 366 = .ok (.iconst 0, 1) := by decide +kernel
theorem d_Lw_law_367 : decode b_Lw_law 367 = .ok (.laload, 1) := by decide +kernel
theorem d_Lw_law_368 : decode b_Lw_law 368 = .ok (.iload 6, 2) := by decide +kernel
theorem d_Lw_law_370 : decode b_Lw_law 370 = .ok (.i2l, 1) := by decide +kernel
theorem d_Lw_law_371 : decode b_Lw_law 371 = .ok (.lcmp, 1) := by decide +kernel
theorem d_Lw_law_372 : decode b_Lw_law 372 = .ok (.ifCond .eq 5, 3) := by decide +kernel
theorem d_Lw_law_375 : decode b_Lw_law 375 = .ok (.iconst 0, 1) := by decide +kernel
theorem d_Lw_law_376 : decode b_Lw_law 376 = .ok (.ireturn, 1) := by decide +kernel
theorem d_Lw_law_377 : decode b_Lw_law 377 = .ok (.goto 895, 3) := by decide +kernel
theorem d_Lw_law_380 : decode b_Lw_law 380 = .ok (.aload_n 1, 1) := by decide +kernel
theorem d_Lw_law_381 : decode b_Lw_law 381 = .ok (.aload_n 3, 1) := by decide +kernel
theorem d_Lw_law_382 : decode b_Lw_law 382 = .ok (.invokestatic 112, 3) := by decide +kernel
theorem d_Lw_law_385 : decode b_Lw_law 385 = .ok (.istore 5, 2) := by decide +kernel
theorem d_Lw_law_387 : decode b_Lw_law 387 = .ok (.aload_n 2, 1) := by decide +kernel
theorem d_Lw_law_388 : decode b_Lw_law 388 = .ok (.invokevirtual 115, 3) := by decide +kernel
theorem d_Lw_law_391 : decode b_Lw_law 391 = .ok (.istore 6, 2) := by decide +kernel
theorem d_Lw_law_393 : decode b_Lw_law 393 = .ok (.aload_n 2, 1) := by decide +kernel
theorem d_Lw_law_394 : decode b_Lw_law 394 = .ok (.invokevirtual 98, 3) := by decide +kernel
theorem d_Lw_law_397 : decode b_Lw_law 397 = .ok (.iload 5, 2) := by decide +kernel
theorem d_Lw_law_399 : decode b_Lw_law 399 = .ok (.if_icmp .eq 5, 3) := by decide +kernel
theorem d_Lw_law_402 : decode b_Lw_law 402 = .ok (.iconst 0, 1) := by decide +kernel
theorem d_Lw_law_403 : decode b_Lw_law 403 = .ok (.ireturn, 1) := by decide +kernel
theorem d_Lw_law_404 : decode b_Lw_law 404 = .ok (.iload 5, 2) := by decide +kernel
theorem d_Lw_law_406 : decode b_Lw_law 406 = .ok (.ifCond .ne 15, 3) := by decide +kernel
theorem d_Lw_law_409 : decode b_Lw_law 409 = .ok (.aload_n 3, 1) := by decide +kernel
theorem d_Lw_law_410 : decode b_Lw_law 410 = .ok (.iconst 0, 1) := by decide +kernel
theorem d_Lw_law_411 : decode b_Lw_law 411 = .ok (.laload, 1) := by decide +kernel
theorem d_Lw_law_412 : decode b_Lw_law 412 = .ok (.iload 6, 2) := by decide +kernel
theorem d_Lw_law_414 : decode b_Lw_law 414 = .ok (.i2l, 1) := by decide +kernel
theorem d_Lw_law_415 : decode b_Lw_law 415 = .ok (.lcmp, 1) := by decide +kernel
theorem d_Lw_law_416 : decode b_Lw_law 416 = .ok (.ifCond .eq 5, 3) := by decide +kernel
theorem d_Lw_law_419 : decode b_Lw_law 419 = .ok (.iconst 0, 1) := by decide +kernel
theorem d_Lw_law_420 : decode b_Lw_law 420 = .ok (.ireturn, 1) := by decide +kernel
theorem d_Lw_law_421 : decode b_Lw_law 421 = .ok (.goto 851, 3) := by decide +kernel
theorem d_Lw_law_424 : decode b_Lw_law 424 = .ok (.aload_n 1, 1) := by decide +kernel
theorem d_Lw_law_425 : decode b_Lw_law 425 = .ok (.aload_n 0, 1) := by decide +kernel
theorem d_Lw_law_426 : decode b_Lw_law 426 = .ok (.iload 4, 2) := by decide +kernel
theorem d_Lw_law_428 : decode b_Lw_law 428 = .ok (.iconst 1, 1) := by decide +kernel
theorem d_Lw_law_429 : decode b_Lw_law 429 = .ok (.iadd, 1) := by decide +kernel
theorem d_Lw_law_430 : decode b_Lw_law 430 = .ok (.iaload, 1) := by decide +kernel
theorem d_Lw_law_431 : decode b_Lw_law 431 = .ok (.aload_n 3, 1) := by decide +kernel
theorem d_Lw_law_432 : decode b_Lw_law 432 = .ok (.invokestatic 116, 3) := by decide +kernel
theorem d_Lw_law_435 : decode b_Lw_law 435 = .ok (.istore 5, 2) := by decide +kernel
theorem d_Lw_law_437 : decode b_Lw_law 437 = .ok (.aload_n 2, 1) := by decide +kernel
theorem d_Lw_law_438 : decode b_Lw_law 438 = .ok (.aload_n 0, 1) := by decide +kernel
theorem d_Lw_law_439 : decode b_Lw_law 439 = .ok (.iload 4, 2) := by decide +kernel
theorem d_Lw_law_441 : decode b_Lw_law 441 = .ok (.iconst 1, 1) := by decide +kernel
theorem d_Lw_law_442 : decode b_Lw_law 442 = .ok (.iadd, 1) := by decide +kernel
theorem d_Lw_law_443 : decode b_Lw_law 443 = .ok (.iaload, 1) := by decide +kernel
theorem d_Lw_law_444 : decode b_Lw_law 444 = .ok (.invokevirtual 118, 3) := by decide +kernel
theorem d_Lw_law_447 : decode b_Lw_law 447 = .ok (.istore 6, 2) := by decide +kernel
theorem d_Lw_law_449 : decode b_Lw_law 449 = .ok (.aload_n 2, 1) := by decide +kernel
theorem d_Lw_law_450 : decode b_Lw_law 450 = .ok (.invokevirtual 98, 3) := by decide +kernel
theorem d_Lw_law_453 : decode b_Lw_law 453 = .ok (.iload 5, 2) := by decide +kernel
theorem d_Lw_law_455 : decode b_Lw_law 455 = .ok (.if_icmp .eq 5, 3) := by decide +kernel
theorem d_Lw_law_458 : decode b_Lw_law 458 = .ok (.iconst 0, 1) := by decide +kernel
theorem d_Lw_law_459 : decode b_Lw_law 459 = .ok (.ireturn, 1) := by decide +kernel
theorem d_Lw_law_460 : decode b_Lw_law 460 = .ok (.iload 5, 2) := by decide +kernel
theorem d_Lw_law_462 : decode b_Lw_law 462 = .ok (.ifCond .ne 15, 3) := by decide +kernel
theorem d_Lw_law_465 : decode b_Lw_law 465 = .ok (.aload_n 3, 1) := by decide +kernel
theorem d_Lw_law_466 : decode b_Lw_law 466 = .ok (.iconst 0, 1) := by decide +kernel
theorem d_Lw_law_467 : decode b_Lw_law 467 = .ok (.laload, 1) := by decide +kernel
theorem d_Lw_law_468 : decode b_Lw_law 468 = .ok (.iload 6, 2) := by decide +kernel
theorem d_Lw_law_470 : decode b_Lw_law 470 = .ok (.i2l, 1) := by decide +kernel
theorem d_Lw_law_471 : decode b_Lw_law 471 = .ok (.lcmp, 1) := by decide +kernel
theorem d_Lw_law_472 : decode b_Lw_law 472 = .ok (.ifCond .eq 5, 3) := by decide +kernel
theorem d_Lw_law_475 : decode b_Lw_law 475 = .ok (.iconst 0, 1) := by decide +kernel
theorem d_Lw_law_476 : decode b_Lw_law 476 = .ok (.ireturn, 1) := by decide +kernel
theorem d_Lw_law_477 : decode b_Lw_law 477 = .ok (.goto 795, 3) := by decide +kernel
theorem d_Lw_law_480 : decode b_Lw_law 480 = .ok (.aload_n 1, 1) := by decide +kernel
theorem d_Lw_law_481 : decode b_Lw_law 481 = .ok (.aload_n 0, 1) := by decide +kernel
theorem d_Lw_law_482 : decode b_Lw_law 482 = .ok (.iload 4, 2) := by decide +kernel
theorem d_Lw_law_484 : decode b_Lw_law 484 = .ok (.iconst 1, 1) := by decide +kernel
theorem d_Lw_law_485 : decode b_Lw_law 485 = .ok (.iadd, 1) := by decide +kernel
theorem d_Lw_law_486 : decode b_Lw_law 486 = .ok (.iaload, 1) := by decide +kernel
theorem d_Lw_law_487 : decode b_Lw_law 487 = .ok (.aload_n 0, 1) := by decide +kernel
theorem d_Lw_law_488 : decode b_Lw_law 488 = .ok (.iload 4, 2) := by decide +kernel
theorem d_Lw_law_490 : decode b_Lw_law 490 = .ok (.iconst 2, 1) := by decide +kernel
theorem d_Lw_law_491 : decode b_Lw_law 491 = .ok (.iadd, 1) := by decide +kernel
theorem d_Lw_law_492 : decode b_Lw_law 492 = .ok (.iaload, 1) := by decide +kernel
theorem d_Lw_law_493 : decode b_Lw_law 493 = .ok (.ifCond .eq 7, 3) := by decide +kernel
theorem d_Lw_law_496 : decode b_Lw_law 496 = .ok (.iconst 1, 1) := by decide +kernel
theorem d_Lw_law_497 : decode b_Lw_law 497 = .ok (.goto 4, 3) := by decide +kernel
theorem d_Lw_law_500 : decode b_Lw_law 500 = .ok (.iconst 0, 1) := by decide +kernel
theorem d_Lw_law_501 : decode b_Lw_law 501 = .ok (.aload_n 3, 1) := by decide +kernel
theorem d_Lw_law_502 : decode b_Lw_law 502 = .ok (.invokestatic 119, 3) := by decide +kernel
theorem d_Lw_law_505 : decode b_Lw_law 505 = .ok (.istore 5, 2) := by decide +kernel
theorem d_Lw_law_507 : decode b_Lw_law 507 = .ok (.aload_n 2, 1) := by decide +kernel
theorem d_Lw_law_508 : decode b_Lw_law 508 = .ok (.aload_n 0, 1) := by decide +kernel
theorem d_Lw_law_509 : decode b_Lw_law 509 = .ok (.iload 4, 2) := by decide +kernel
theorem d_Lw_law_511 : decode b_Lw_law 511 = .ok (.iconst 1, 1) := by decide +kernel
theorem d_Lw_law_512 : decode b_Lw_law 512 = .ok (.iadd, 1) := by decide +kernel
theorem d_Lw_law_513 : decode b_Lw_law 513 = .ok (.iaload, 1) := by decide +kernel
theorem d_Lw_law_514 : decode b_Lw_law 514 = .ok (.aload_n 0, 1) := by decide +kernel
theorem d_Lw_law_515 : decode b_Lw_law 515 = .ok (.iload 4, 2) := by decide +kernel
theorem d_Lw_law_517 : decode b_Lw_law 517 = .ok (.iconst 2, 1) := by decide +kernel
theorem d_Lw_law_518 : decode b_Lw_law 518 = .ok (.iadd, 1) := by decide +kernel
theorem d_Lw_law_519 : decode b_Lw_law 519 = .ok (.iaload, 1) := by decide +kernel
theorem d_Lw_law_520 : decode b_Lw_law 520 = .ok (.ifCond .eq 7, 3) := by decide +kernel
theorem d_Lw_law_523 : decode b_Lw_law 523 = .ok (.iconst 1, 1) := by decide +kernel
theorem d_Lw_law_524 : decode b_Lw_law 524 = .ok (.goto 4, 3) := by decide +kernel
theorem d_Lw_law_527 : decode b_Lw_law 527 = .ok (.iconst 0, 1) := by decide +kernel
theorem d_Lw_law_528 : decode b_Lw_law 528 = .ok (.invokevirtual 122, 3) := by decide +kernel
theorem d_Lw_law_531 : decode b_Lw_law 531 = .ok (.istore 6, 2) := by decide +kernel
theorem d_Lw_law_533 : decode b_Lw_law 533 = .ok (.aload_n 2, 1) := by decide +kernel
theorem d_Lw_law_534 : decode b_Lw_law 534 = .ok (.invokevirtual 98, 3) := by decide +kernel
theorem d_Lw_law_537 : decode b_Lw_law 537 = .ok (.iload 5, 2) := by decide +kernel
theorem d_Lw_law_539 : decode b_Lw_law 539 = .ok (.if_icmp .eq 5, 3) := by decide +kernel
theorem d_Lw_law_542 : decode b_Lw_law 542 = .ok (.iconst 0, 1) := by decide +kernel
theorem d_Lw_law_543 : decode b_Lw_law 543 = .ok (.ireturn, 1) := by decide +kernel
theorem d_Lw_law_544 : decode b_Lw_law 544 = .ok (.iload 5, 2) := by decide +kernel
theorem d_Lw_law_546 : decode b_Lw_law 546 = .ok (.ifCond .ne 15, 3) := by decide +kernel
theorem d_Lw_law_549 : decode b_Lw_law 549 = .ok (.aload_n 3, 1) := by decide +kernel
theorem d_Lw_law_550 : decode b_Lw_law 550 = .ok (.iconst 0, 1) := by decide +kernel
theorem d_Lw_law_551 : decode b_Lw_law 551 = .ok (.laload, 1) := by decide +kernel
theorem d_Lw_law_552 : decode b_Lw_law 552 = .ok (.iload 6, 2) := by decide +kernel
theorem d_Lw_law_554 : decode b_Lw_law 554 = .ok (.i2l, 1) := by decide +kernel
theorem d_Lw_law_555 : decode b_Lw_law 555 = .ok (.lcmp, 1) := by decide +kernel
theorem d_Lw_law_556 : decode b_Lw_law 556 = .ok (.ifCond .eq 5, 3) := by decide +kernel
theorem d_Lw_law_559 : decode b_Lw_law 559 = .ok (.iconst 0, 1) := by decide +kernel
theorem d_Lw_law_560 : decode b_Lw_law 560 = .ok (.ireturn, 1) := by decide +kernel
theorem d_Lw_law_561 : decode b_Lw_law 561 = .ok (.goto 711, 3) := by decide +kernel
theorem d_Lw_law_564 : decode b_Lw_law 564 = .ok (.aload_n 1, 1) := by decide +kernel
theorem d_Lw_law_565 : decode b_Lw_law 565 = .ok (.aload_n 3, 1) := by decide +kernel
theorem d_Lw_law_566 : decode b_Lw_law 566 = .ok (.invokestatic 123, 3) := by decide +kernel
theorem d_Lw_law_569 : decode b_Lw_law 569 = .ok (.istore 5, 2) := by decide +kernel
theorem d_Lw_law_571 : decode b_Lw_law 571 = .ok (.aload_n 2, 1) := by decide +kernel
theorem d_Lw_law_572 : decode b_Lw_law 572 = .ok (.invokevirtual 125, 3) := by decide +kernel
theorem d_Lw_law_575 : decode b_Lw_law 575 = .ok (.istore 6, 2) := by decide +kernel
theorem d_Lw_law_577 : decode b_Lw_law 577 = .ok (.aload_n 2, 1) := by decide +kernel
theorem d_Lw_law_578 : decode b_Lw_law 578 = .ok (.invokevirtual 98, 3) := by decide +kernel
theorem d_Lw_law_581 : decode b_Lw_law 581 = .ok (.iload 5, 2) := by decide +kernel
theorem d_Lw_law_583 : decode b_Lw_law 583 = .ok (.if_icmp .eq 5, 3) := by decide +kernel
theorem d_Lw_law_586 : decode b_Lw_law 586 = .ok (.iconst 0, 1) := by decide +kernel
theorem d_Lw_law_587 : decode b_Lw_law 587 = .ok (.ireturn, 1) := by decide +kernel
theorem d_Lw_law_588 : decode b_Lw_law 588 = .ok (.iload 5, 2) := by decide +kernel
theorem d_Lw_law_590 : decode b_Lw_law 590 = .ok (.ifCond .ne 15, 3) := by decide +kernel
theorem d_Lw_law_593 : decode b_Lw_law 593 = .ok (.aload_n 3, 1) := by decide +kernel
theorem d_Lw_law_594 : decode b_Lw_law 594 = .ok (.iconst 0, 1) := by decide +kernel
theorem d_Lw_law_595 : decode b_Lw_law 595 = .ok (.laload, 1) := by decide +kernel
theorem d_Lw_law_596 : decode b_Lw_law 596 = .ok (.iload 6, 2) := by decide +kernel
theorem d_Lw_law_598 : decode b_Lw_law 598 = .ok (.i2l, 1) := by decide +kernel
theorem d_Lw_law_599 : decode b_Lw_law 599 = .ok (.lcmp, 1) := by decide +kernel
theorem d_Lw_law_600 : decode b_Lw_law 600 = .ok (.ifCond .eq 5, 3) := by decide +kernel
theorem d_Lw_law_603 : decode b_Lw_law 603 = .ok (.iconst 0, 1) := by decide +kernel
theorem d_Lw_law_604 : decode b_Lw_law 604 = .ok (.ireturn, 1) := by decide +kernel
theorem d_Lw_law_605 : decode b_Lw_law 605 = .ok (.goto 667, 3) := by decide +kernel
theorem d_Lw_law_608 : decode b_Lw_law 608 = .ok (.aload_n 1, 1) := by decide +kernel
theorem d_Lw_law_609 : decode b_Lw_law 609 = .ok (.aload_n 3, 1) := by decide +kernel
theorem d_Lw_law_610 : decode b_Lw_law 610 = .ok (.invokestatic 126, 3) := by decide +kernel
theorem d_Lw_law_613 : decode b_Lw_law 613 = .ok (.istore 5, 2) := by decide +kernel
theorem d_Lw_law_615 : decode b_Lw_law 615 = .ok (.aload_n 2, 1) := by decide +kernel
theorem d_Lw_law_616 : decode b_Lw_law 616 = .ok (.invokevirtual 128, 3) := by decide +kernel
theorem d_Lw_law_619 : decode b_Lw_law 619 = .ok (.istore 6, 2) := by decide +kernel
theorem d_Lw_law_621 : decode b_Lw_law 621 = .ok (.aload_n 2, 1) := by decide +kernel
theorem d_Lw_law_622 : decode b_Lw_law 622 = .ok (.invokevirtual 98, 3) := by decide +kernel
theorem d_Lw_law_625 : decode b_Lw_law 625 = .ok (.iload 5, 2) := by decide +kernel
theorem d_Lw_law_627 : decode b_Lw_law 627 = .ok (.if_icmp .eq 5, 3) := by decide +kernel
theorem d_Lw_law_630 : decode b_Lw_law 630 = .ok (.iconst 0, 1) := by decide +kernel
theorem d_Lw_law_631 : decode b_Lw_law 631 = .ok (.ireturn, 1) := by decide +kernel
theorem d_Lw_law_632 : decode b_Lw_law 632 = .ok (.iload 5, 2) := by decide +kernel
theorem d_Lw_law_634 : decode b_Lw_law 634 = .ok (.ifCond .ne 15, 3) := by decide +kernel
theorem d_Lw_law_637 : decode b_Lw_law 637 = .ok (.aload_n 3, 1) := by decide +kernel
theorem d_Lw_law_638 : decode b_Lw_law 638 = .ok (.iconst 0, 1) := by decide +kernel
theorem d_Lw_law_639 : decode b_Lw_law 639 = .ok (.laload, 1) := by decide +kernel
theorem d_Lw_law_640 : decode b_Lw_law 640 = .ok (.iload 6, 2) := by decide +kernel
theorem d_Lw_law_642 : decode b_Lw_law 642 = .ok (.i2l, 1) := by decide +kernel
theorem d_Lw_law_643 : decode b_Lw_law 643 = .ok (.lcmp, 1) := by decide +kernel
theorem d_Lw_law_644 : decode b_Lw_law 644 = .ok (.ifCond .eq 5, 3) := by decide +kernel
theorem d_Lw_law_647 : decode b_Lw_law 647 = .ok (.iconst 0, 1) := by decide +kernel
theorem d_Lw_law_648 : decode b_Lw_law 648 = .ok (.ireturn, 1) := by decide +kernel
theorem d_Lw_law_649 : decode b_Lw_law 649 = .ok (.goto 623, 3) := by decide +kernel
theorem d_Lw_law_652 : decode b_Lw_law 652 = .ok (.aload_n 1, 1) := by decide +kernel
theorem d_Lw_law_653 : decode b_Lw_law 653 = .ok (.invokestatic 129, 3) := by decide +kernel
theorem d_Lw_law_656 : decode b_Lw_law 656 = .ok (.istore 5, 2) := by decide +kernel
theorem d_Lw_law_658 : decode b_Lw_law 658 = .ok (.aload_n 2, 1) := by decide +kernel
theorem d_Lw_law_659 : decode b_Lw_law 659 = .ok (.invokevirtual 132, 3) := by decide +kernel
theorem d_Lw_law_662 : decode b_Lw_law 662 = .ok (.aload_n 2, 1) := by decide +kernel
theorem d_Lw_law_663 : decode b_Lw_law 663 = .ok (.invokevirtual 98, 3) := by decide +kernel
theorem d_Lw_law_666 : decode b_Lw_law 666 = .ok (.iload 5, 2) := by decide +kernel
theorem d_Lw_law_668 : decode b_Lw_law 668 = .ok (.if_icmp .eq 5, 3) := by decide +kernel
theorem d_Lw_law_671 : decode b_Lw_law 671 = .ok (.iconst 0, 1) := by decide +kernel
theorem d_Lw_law_672 : decode b_Lw_law 672 = .ok (.ireturn, 1) := by decide +kernel
theorem d_Lw_law_673 : decode b_Lw_law 673 = .ok (.goto 599, 3) := by decide +kernel
theorem d_Lw_law_676 : decode b_Lw_law 676 = .ok (.aload_n 1, 1) := by decide +kernel
theorem d_Lw_law_677 : decode b_Lw_law 677 = .ok (.aload_n 3, 1) := by decide +kernel
theorem d_Lw_law_678 : decode b_Lw_law 678 = .ok (.invokestatic 133, 3) := by decide +kernel
theorem d_Lw_law_681 : decode b_Lw_law 681 = .ok (.istore 5, 2) := by decide +kernel
theorem d_Lw_law_683 : decode b_Lw_law 683 = .ok (.aload_n 2, 1) := by decide +kernel
theorem d_Lw_law_684 : decode b_Lw_law 684 = .ok (.invokevirtual 135, 3) := by decide +kernel
theorem d_Lw_law_687 : decode b_Lw_law 687 = .ok (.istore 6, 2) := by decide +kernel
theorem d_Lw_law_689 : decode b_Lw_law 689 = .ok (.aload_n 2, 1) := by decide +kernel
theorem d_Lw_law_690 : decode b_Lw_law 690 = .ok (.invokevirtual 98, 3) := by decide +kernel
theorem d_Lw_law_693 : decode b_Lw_law 693 = .ok (.iload 5, 2) := by decide +kernel
theorem d_Lw_law_695 : decode b_Lw_law 695 = .ok (.if_icmp .eq 5, 3) := by decide +kernel
theorem d_Lw_law_698 : decode b_Lw_law 698 = .ok (.iconst 0, 1) := by decide +kernel
theorem d_Lw_law_699 : decode b_Lw_law 699 = .ok (.ireturn, 1) := by decide +kernel
theorem d_Lw_law_700 : decode b_Lw_law 700 = .ok (.iload 5, 2) := by decide +kernel
theorem d_Lw_law_702 : decode b_Lw_law 702 = .ok (.ifCond .ne 15, 3) := by decide +kernel
theorem d_Lw_law_705 : decode b_Lw_law 705 = .ok (.aload_n 3, 1) := by decide +kernel
theorem d_Lw_law_706 : decode b_Lw_law 706 = .ok (.iconst 0, 1) := by decide +kernel
theorem d_Lw_law_707 : decode b_Lw_law 707 = .ok (.laload, 1) := by decide +kernel
theorem d_Lw_law_708 : decode b_Lw_law 708 = .ok (.iload 6, 2) := by decide +kernel
theorem d_Lw_law_710 : decode b_Lw_law 710 = .ok (.i2l, 1) := by decide +kernel
theorem d_Lw_law_711 : decode b_Lw_law 711 = .ok (.lcmp, 1) := by decide +kernel
theorem d_Lw_law_712 : decode b_Lw_law 712 = .ok (.ifCond .eq 5, 3) := by decide +kernel
theorem d_Lw_law_715 : decode b_Lw_law 715 = .ok (.iconst 0, 1) := by decide +kernel
theorem d_Lw_law_716 : decode b_Lw_law 716 = .ok (.ireturn, 1) := by decide +kernel
theorem d_Lw_law_717 : decode b_Lw_law 717 = .ok (.goto 555, 3) := by decide +kernel
theorem d_Lw_law_720 : decode b_Lw_law 720 = .ok (.aload_n 1, 1) := by decide +kernel
theorem d_Lw_law_721 : decode b_Lw_law 721 = .ok (.aload_n 0, 1) := by decide +kernel
theorem d_Lw_law_722 : decode b_Lw_law 722 = .ok (.iload 4, 2) := by decide +kernel
theorem d_Lw_law_724 : decode b_Lw_law 724 = .ok (.iconst 1, 1) := by decide +kernel
theorem d_Lw_law_725 : decode b_Lw_law 725 = .ok (.iadd, 1) := by decide +kernel
theorem d_Lw_law_726 : decode b_Lw_law 726 = .ok (.iaload, 1) := by decide +kernel
theorem d_Lw_law_727 : decode b_Lw_law 727 = .ok (.invokestatic 136, 3) := by decide +kernel
theorem d_Lw_law_730 : decode b_Lw_law 730 = .ok (.istore 5, 2) := by decide +kernel
theorem d_Lw_law_732 : decode b_Lw_law 732 = .ok (.aload_n 2, 1) := by decide +kernel
theorem d_Lw_law_733 : decode b_Lw_law 733 = .ok (.aload_n 0, 1) := by decide +kernel
theorem d_Lw_law_734 : decode b_Lw_law 734 = .ok (.iload 4, 2) := by decide +kernel
theorem d_Lw_law_736 : decode b_Lw_law 736 = .ok (.iconst 1, 1) := by decide +kernel
theorem d_Lw_law_737 : decode b_Lw_law 737 = .ok (.iadd, 1) := by decide +kernel
theorem d_Lw_law_738 : decode b_Lw_law 738 = .ok (.iaload, 1) := by decide +kernel
theorem d_Lw_law_739 : decode b_Lw_law 739 = .ok (.invokevirtual 139, 3) := by decide +kernel
theorem d_Lw_law_742 : decode b_Lw_law 742 = .ok (.aload_n 2, 1) := by decide +kernel
theorem d_Lw_law_743 : decode b_Lw_law 743 = .ok (.invokevirtual 98, 3) := by decide +kernel
theorem d_Lw_law_746 : decode b_Lw_law 746 = .ok (.iload 5, 2) := by decide +kernel
theorem d_Lw_law_748 : decode b_Lw_law 748 = .ok (.if_icmp .eq 5, 3) := by decide +kernel
theorem d_Lw_law_751 : decode b_Lw_law 751 = .ok (.iconst 0, 1) := by decide +kernel
theorem d_Lw_law_752 : decode b_Lw_law 752 = .ok (.ireturn, 1) := by decide +kernel
theorem d_Lw_law_753 : decode b_Lw_law 753 = .ok (.goto 519, 3) := by decide +kernel
theorem d_Lw_law_756 : decode b_Lw_law 756 = .ok (.aload_n 1, 1) := by decide +kernel
theorem d_Lw_law_757 : decode b_Lw_law 757 = .ok (.invokevirtual 140, 3) := by decide +kernel
theorem d_Lw_law_760 : decode b_Lw_law 760 = .ok (.aload_n 2, 1) := by decide +kernel
theorem d_Lw_law_761 : decode b_Lw_law 761 = .ok (.invokevirtual 143, 3) := by decide +kernel
theorem d_Lw_law_764 : decode b_Lw_law 764 = .ok (.goto 508, 3) := by decide +kernel
theorem d_Lw_law_767 : decode b_Lw_law 767 = .ok (.aload_n 1, 1) := by decide +kernel
theorem d_Lw_law_768 : decode b_Lw_law 768 = .ok (.aload_n 0, 1) := by decide +kernel
theorem d_Lw_law_769 : decode b_Lw_law 769 = .ok (.iload 4, 2) := by decide +kernel
theorem d_Lw_law_771 : decode b_Lw_law 771 = .ok (.iconst 1, 1) := by decide +kernel
theorem d_Lw_law_772 : decode b_Lw_law 772 = .ok (.iadd, 1) := by decide +kernel
theorem d_Lw_law_773 : decode b_Lw_law 773 = .ok (.iaload, 1) := by decide +kernel
theorem d_Lw_law_774 : decode b_Lw_law 774 = .ok (.aload_n 0, 1) := by decide +kernel
theorem d_Lw_law_775 : decode b_Lw_law 775 = .ok (.iload 4, 2) := by decide +kernel
theorem d_Lw_law_777 : decode b_Lw_law 777 = .ok (.iconst 2, 1) := by decide +kernel
theorem d_Lw_law_778 : decode b_Lw_law 778 = .ok (.iadd, 1) := by decide +kernel
theorem d_Lw_law_779 : decode b_Lw_law 779 = .ok (.iaload, 1) := by decide +kernel
theorem d_Lw_law_780 : decode b_Lw_law 780 = .ok (.invokestatic 144, 3) := by decide +kernel
theorem d_Lw_law_783 : decode b_Lw_law 783 = .ok (.istore 5, 2) := by decide +kernel
theorem d_Lw_law_785 : decode b_Lw_law 785 = .ok (.aload_n 2, 1) := by decide +kernel
theorem d_Lw_law_786 : decode b_Lw_law 786 = .ok (.aload_n 0, 1) := by decide +kernel
theorem d_Lw_law_787 : decode b_Lw_law 787 = .ok (.iload 4, 2) := by decide +kernel
theorem d_Lw_law_789 : decode b_Lw_law 789 = .ok (.iconst 1, 1) := by decide +kernel
theorem d_Lw_law_790 : decode b_Lw_law 790 = .ok (.iadd, 1) := by decide +kernel
theorem d_Lw_law_791 : decode b_Lw_law 791 = .ok (.iaload, 1) := by decide +kernel
theorem d_Lw_law_792 : decode b_Lw_law 792 = .ok (.aload_n 0, 1) := by decide +kernel
theorem d_Lw_law_793 : decode b_Lw_law 793 = .ok (.iload 4, 2) := by decide +kernel
theorem d_Lw_law_795 : decode b_Lw_law 795 = .ok (.iconst 2, 1) := by decide +kernel
theorem d_Lw_law_796 : decode b_Lw_law 796 = .ok (.iadd, 1) := by decide +kernel
theorem d_Lw_law_797 : decode b_Lw_law 797 = .ok (.iaload, 1) := by decide +kernel
theorem d_Lw_law_798 : decode b_Lw_law 798 = .ok (.invokevirtual 146, 3) := by decide +kernel
theorem d_Lw_law_801 : decode b_Lw_law 801 = .ok (.aload_n 2, 1) := by decide +kernel
theorem d_Lw_law_802 : decode b_Lw_law 802 = .ok (.invokevirtual 98, 3) := by decide +kernel
theorem d_Lw_law_805 : decode b_Lw_law 805 = .ok (.iload 5, 2) := by decide +kernel
theorem d_Lw_law_807 : decode b_Lw_law 807 = .ok (.if_icmp .eq 5, 3) := by decide +kernel
theorem d_Lw_law_810 : decode b_Lw_law 810 = .ok (.iconst 0, 1) := by decide +kernel
theorem d_Lw_law_811 : decode b_Lw_law 811 = .ok (.ireturn, 1) := by decide +kernel
theorem d_Lw_law_812 : decode b_Lw_law 812 = .ok (.goto 460, 3) := by decide +kernel
theorem d_Lw_law_815 : decode b_Lw_law 815 = .ok (.aload_n 1, 1) := by decide +kernel
theorem d_Lw_law_816 : decode b_Lw_law 816 = .ok (.aload_n 0, 1) := by decide +kernel
theorem d_Lw_law_817 : decode b_Lw_law 817 = .ok (.iload 4, 2) := by decide +kernel
theorem d_Lw_law_819 : decode b_Lw_law 819 = .ok (.iconst 1, 1) := by decide +kernel
theorem d_Lw_law_820 : decode b_Lw_law 820 = .ok (.iadd, 1) := by decide +kernel
theorem d_Lw_law_821 : decode b_Lw_law 821 = .ok (.iaload, 1) := by decide +kernel
theorem d_Lw_law_822 : decode b_Lw_law 822 = .ok (.aload_n 3, 1) := by decide +kernel
theorem d_Lw_law_823 : decode b_Lw_law 823 = .ok (.invokestatic 147, 3) := by decide +kernel
theorem d_Lw_law_826 : decode b_Lw_law 826 = .ok (.istore 5, 2) := by decide +kernel
theorem d_Lw_law_828 : decode b_Lw_law 828 = .ok (.aload_n 2, 1) := by decide +kernel
theorem d_Lw_law_829 : decode b_Lw_law 829 = .ok (.aload_n 0, 1) := by decide +kernel
theorem d_Lw_law_830 : decode b_Lw_law 830 = .ok (.iload 4, 2) := by decide +kernel
theorem d_Lw_law_832 : decode b_Lw_law 832 = .ok (.iconst 1, 1) := by decide +kernel
theorem d_Lw_law_833 : decode b_Lw_law 833 = .ok (.iadd, 1) := by decide +kernel
theorem d_Lw_law_834 : decode b_Lw_law 834 = .ok (.iaload, 1) := by decide +kernel
theorem d_Lw_law_835 : decode b_Lw_law 835 = .ok (.invokevirtual 149, 3) := by decide +kernel
theorem d_Lw_law_838 : decode b_Lw_law 838 = .ok (.istore 6, 2) := by decide +kernel
theorem d_Lw_law_840 : decode b_Lw_law 840 = .ok (.aload_n 2, 1) := by decide +kernel
theorem d_Lw_law_841 : decode b_Lw_law 841 = .ok (.invokevirtual 98, 3) := by decide +kernel
theorem d_Lw_law_844 : decode b_Lw_law 844 = .ok (.iload 5, 2) := by decide +kernel
theorem d_Lw_law_846 : decode b_Lw_law 846 = .ok (.if_icmp .eq 5, 3) := by decide +kernel
theorem d_Lw_law_849 : decode b_Lw_law 849 = .ok (.iconst 0, 1) := by decide +kernel
theorem d_Lw_law_850 : decode b_Lw_law 850 = .ok (.ireturn, 1) := by decide +kernel
theorem d_Lw_law_851 : decode b_Lw_law 851 = .ok (.iload 5, 2) := by decide +kernel
theorem d_Lw_law_853 : decode b_Lw_law 853 = .ok (.ifCond .ne 15, 3) := by decide +kernel
theorem d_Lw_law_856 : decode b_Lw_law 856 = .ok (.aload_n 3, 1) := by decide +kernel
theorem d_Lw_law_857 : decode b_Lw_law 857 = .ok (.iconst 0, 1) := by decide +kernel
theorem d_Lw_law_858 : decode b_Lw_law 858 = .ok (.laload, 1) := by decide +kernel
theorem d_Lw_law_859 : decode b_Lw_law 859 = .ok (.iload 6, 2) := by decide +kernel
theorem d_Lw_law_861 : decode b_Lw_law 861 = .ok (.i2l, 1) := by decide +kernel
theorem d_Lw_law_862 : decode b_Lw_law 862 = .ok (.lcmp, 1) := by decide +kernel
theorem d_Lw_law_863 : decode b_Lw_law 863 = .ok (.ifCond .eq 5, 3) := by decide +kernel
theorem d_Lw_law_866 : decode b_Lw_law 866 = .ok (.iconst 0, 1) := by decide +kernel
theorem d_Lw_law_867 : decode b_Lw_law 867 = .ok (.ireturn, 1) := by decide +kernel
theorem d_Lw_law_868 : decode b_Lw_law 868 = .ok (.goto 404, 3) := by decide +kernel
theorem d_Lw_law_871 : decode b_Lw_law 871 = .ok (.aload_n 1, 1) := by decide +kernel
theorem d_Lw_law_872 : decode b_Lw_law 872 = .ok (.aload_n 0, 1) := by decide +kernel
theorem d_Lw_law_873 : decode b_Lw_law 873 = .ok (.iload 4, 2) := by decide +kernel
theorem d_Lw_law_875 : decode b_Lw_law 875 = .ok (.iconst 1, 1) := by decide +kernel
theorem d_Lw_law_876 : decode b_Lw_law 876 = .ok (.iadd, 1) := by decide +kernel
theorem d_Lw_law_877 : decode b_Lw_law 877 = .ok (.iaload, 1) := by decide +kernel
theorem d_Lw_law_878 : decode b_Lw_law 878 = .ok (.invokestatic 150, 3) := by decide +kernel
theorem d_Lw_law_881 : decode b_Lw_law 881 = .ok (.istore 5, 2) := by decide +kernel
theorem d_Lw_law_883 : decode b_Lw_law 883 = .ok (.aload_n 2, 1) := by decide +kernel
theorem d_Lw_law_884 : decode b_Lw_law 884 = .ok (.aload_n 0, 1) := by decide +kernel
theorem d_Lw_law_885 : decode b_Lw_law 885 = .ok (.iload 4, 2) := by decide +kernel
theorem d_Lw_law_887 : decode b_Lw_law 887 = .ok (.iconst 1, 1) := by decide +kernel
theorem d_Lw_law_888 : decode b_Lw_law 888 = .ok (.iadd, 1) := by decide +kernel
theorem d_Lw_law_889 : decode b_Lw_law 889 = .ok (.iaload, 1) := by decide +kernel
theorem d_Lw_law_890 : decode b_Lw_law 890 = .ok (.invokevirtual 152, 3) := by decide +kernel
theorem d_Lw_law_893 : decode b_Lw_law 893 = .ok (.aload_n 2, 1) := by decide +kernel
theorem d_Lw_law_894 : decode b_Lw_law 894 = .ok (.invokevirtual 98, 3) := by decide +kernel
theorem d_Lw_law_897 : decode b_Lw_law 897 = .ok (.iload 5, 2) := by decide +kernel
theorem d_Lw_law_899 : decode b_Lw_law 899 = .ok (.if_icmp .eq 5, 3) := by decide +kernel
theorem d_Lw_law_902 : decode b_Lw_law 902 = .ok (.iconst 0, 1) := by decide +kernel
theorem d_Lw_law_903 : decode b_Lw_law 903 = .ok (.ireturn, 1) := by decide +kernel
theorem d_Lw_law_904 : decode b_Lw_law 904 = .ok (.goto 368, 3) := by decide +kernel
theorem d_Lw_law_907 : decode b_Lw_law 907 = .ok (.aload_n 1, 1) := by decide +kernel
theorem d_Lw_law_908 : decode b_Lw_law 908 = .ok (.aload_n 0, 1) := by decide +kernel
theorem d_Lw_law_909 : decode b_Lw_law 909 = .ok (.iload 4, 2) := by decide +kernel
theorem d_Lw_law_911 : decode b_Lw_law 911 = .ok (.iconst 1, 1) := by decide +kernel
theorem d_Lw_law_912 : decode b_Lw_law 912 = .ok (.iadd, 1) := by decide +kernel
theorem d_Lw_law_913 : decode b_Lw_law 913 = .ok (.iaload, 1) := by decide +kernel
theorem d_Lw_law_914 : decode b_Lw_law 914 = .ok (.aload_n 0, 1) := by decide +kernel
theorem d_Lw_law_915 : decode b_Lw_law 915 = .ok (.iload 4, 2) := by decide +kernel
theorem d_Lw_law_917 : decode b_Lw_law 917 = .ok (.iconst 2, 1) := by decide +kernel
theorem d_Lw_law_918 : decode b_Lw_law 918 = .ok (.iadd, 1) := by decide +kernel
theorem d_Lw_law_919 : decode b_Lw_law 919 = .ok (.iaload, 1) := by decide +kernel
theorem d_Lw_law_920 : decode b_Lw_law 920 = .ok (.aload_n 3, 1) := by decide +kernel
theorem d_Lw_law_921 : decode b_Lw_law 921 = .ok (.invokestatic 153, 3) := by decide +kernel
theorem d_Lw_law_924 : decode b_Lw_law 924 = .ok (.istore 5, 2) := by decide +kernel
theorem d_Lw_law_926 : decode b_Lw_law 926 = .ok (.aload_n 2, 1) := by decide +kernel
theorem d_Lw_law_927 : decode b_Lw_law 927 = .ok (.aload_n 0, 1) := by decide +kernel
theorem d_Lw_law_928 : decode b_Lw_law 928 = .ok (.iload 4, 2) := by decide +kernel
theorem d_Lw_law_930 : decode b_Lw_law 930 = .ok (.iconst 1, 1) := by decide +kernel
theorem d_Lw_law_931 : decode b_Lw_law 931 = .ok (.iadd, 1) := by decide +kernel
theorem d_Lw_law_932 : decode b_Lw_law 932 = .ok (.iaload, 1) := by decide +kernel
theorem d_Lw_law_933 : decode b_Lw_law 933 = .ok (.aload_n 0, 1) := by decide +kernel
theorem d_Lw_law_934 : decode b_Lw_law 934 = .ok (.iload 4, 2) := by decide +kernel
theorem d_Lw_law_936 : decode b_Lw_law 936 = .ok (.iconst 2, 1) := by decide +kernel
theorem d_Lw_law_937 : decode b_Lw_law 937 = .ok (.iadd, 1) := by decide +kernel
theorem d_Lw_law_938 : decode b_Lw_law 938 = .ok (.iaload, 1) := by decide +kernel
theorem d_Lw_law_939 : decode b_Lw_law 939 = .ok (.invokevirtual 156, 3) := by decide +kernel
theorem d_Lw_law_942 : decode b_Lw_law 942 = .ok (.istore 6, 2) := by decide +kernel
theorem d_Lw_law_944 : decode b_Lw_law 944 = .ok (.aload_n 2, 1) := by decide +kernel
theorem d_Lw_law_945 : decode b_Lw_law 945 = .ok (.invokevirtual 98, 3) := by decide +kernel
theorem d_Lw_law_948 : decode b_Lw_law 948 = .ok (.iload 5, 2) := by decide +kernel
theorem d_Lw_law_950 : decode b_Lw_law 950 = .ok (.if_icmp .eq 5, 3) := by decide +kernel
theorem d_Lw_law_953 : decode b_Lw_law 953 = .ok (.iconst 0, 1) := by decide +kernel
theorem d_Lw_law_954 : decode b_Lw_law 954 = .ok (.ireturn, 1) := by decide +kernel
theorem d_Lw_law_955 : decode b_Lw_law 955 = .ok (.iload 5, 2) := by decide +kernel
theorem d_Lw_law_957 : decode b_Lw_law 957 = .ok (.ifCond .ne 15, 3) := by decide +kernel
theorem d_Lw_law_960 : decode b_Lw_law 960 = .ok (.aload_n 3, 1) := by decide +kernel
theorem d_Lw_law_961 : decode b_Lw_law 961 = .ok (.iconst 0, 1) := by decide +kernel
theorem d_Lw_law_962 : decode b_Lw_law 962 = .ok (.laload, 1) := by decide +kernel
theorem d_Lw_law_963 : decode b_Lw_law 963 = .ok (.iload 6, 2) := by decide +kernel
theorem d_Lw_law_965 : decode b_Lw_law 965 = .ok (.i2l, 1) := by decide +kernel
theorem d_Lw_law_966 : decode b_Lw_law 966 = .ok (.lcmp, 1) := by decide +kernel
theorem d_Lw_law_967 : decode b_Lw_law 967 = .ok (.ifCond .eq 5, 3) := by decide +kernel
theorem d_Lw_law_970 : decode b_Lw_law 970 = .ok (.iconst 0, 1) := by decide +kernel
theorem d_Lw_law_971 : decode b_Lw_law 971 = .ok (.ireturn, 1) := by decide +kernel
theorem d_Lw_law_972 : decode b_Lw_law 972 = .ok (.goto 300, 3) := by decide +kernel
theorem d_Lw_law_975 : decode b_Lw_law 975 = .ok (.aload_n 1, 1) := by decide +kernel
theorem d_Lw_law_976 : decode b_Lw_law 976 = .ok (.aload_n 0, 1) := by decide +kernel
theorem d_Lw_law_977 : decode b_Lw_law 977 = .ok (.iload 4, 2) := by decide +kernel
theorem d_Lw_law_979 : decode b_Lw_law 979 = .ok (.iconst 1, 1) := by decide +kernel
theorem d_Lw_law_980 : decode b_Lw_law 980 = .ok (.iadd, 1) := by decide +kernel
theorem d_Lw_law_981 : decode b_Lw_law 981 = .ok (.iaload, 1) := by decide +kernel
theorem d_Lw_law_982 : decode b_Lw_law 982 = .ok (.aload_n 0, 1) := by decide +kernel
theorem d_Lw_law_983 : decode b_Lw_law 983 = .ok (.iload 4, 2) := by decide +kernel
theorem d_Lw_law_985 : decode b_Lw_law 985 = .ok (.iconst 2, 1) := by decide +kernel
theorem d_Lw_law_986 : decode b_Lw_law 986 = .ok (.iadd, 1) := by decide +kernel
theorem d_Lw_law_987 : decode b_Lw_law 987 = .ok (.iaload, 1) := by decide +kernel
theorem d_Lw_law_988 : decode b_Lw_law 988 = .ok (.aload_n 3, 1) := by decide +kernel
theorem d_Lw_law_989 : decode b_Lw_law 989 = .ok (.invokestatic 157, 3) := by decide +kernel
theorem d_Lw_law_992 : decode b_Lw_law 992 = .ok (.istore 5, 2) := by decide +kernel
theorem d_Lw_law_994 : decode b_Lw_law 994 = .ok (.aload_n 2, 1) := by decide +kernel
theorem d_Lw_law_995 : decode b_Lw_law 995 = .ok (.aload_n 0, 1) := by decide +kernel
theorem d_Lw_law_996 : decode b_Lw_law 996 = .ok (.iload 4, 2) := by decide +kernel
theorem d_Lw_law_998 : decode b_Lw_law 998 = .ok (.iconst 1, 1) := by decide +kernel
theorem d_Lw_law_999 : decode b_Lw_law 999 = .ok (.iadd, 1) := by decide +kernel
theorem d_Lw_law_1000 : decode b_Lw_law 1000 = .ok (.iaload, 1) := by decide +kernel
theorem d_Lw_law_1001 : decode b_Lw_law 1001 = .ok (.aload_n 0, 1) := by decide +kernel
theorem d_Lw_law_1002 : decode b_Lw_law 1002 = .ok (.iload 4, 2) := by decide +kernel
theorem d_Lw_law_1004 : decode b_Lw_law 1004 = .ok (.iconst 2, 1) := by decide +kernel
theorem d_Lw_law_1005 : decode b_Lw_law 1005 = .ok (.iadd, 1) := by decide +kernel
theorem d_Lw_law_1006 : decode b_Lw_law 1006 = .ok (.iaload, 1) := by decide +kernel
theorem d_Lw_law_1007 : decode b_Lw_law 1007 = .ok (.invokevirtual 159, 3) := by decide +kernel
theorem d_Lw_law_1010 : decode b_Lw_law 1010 = .ok (.istore 6, 2) := by decide +kernel
theorem d_Lw_law_1012 : decode b_Lw_law 1012 = .ok (.aload_n 2, 1) := by decide +kernel
theorem d_Lw_law_1013 : decode b_Lw_law 1013 = .ok (.invokevirtual 98, 3) := by decide +kernel
theorem d_Lw_law_1016 : decode b_Lw_law 1016 = .ok (.iload 5, 2) := by decide +kernel
theorem d_Lw_law_1018 : decode b_Lw_law 1018 = .ok (.if_icmp .eq 5, 3) := by decide +kernel
theorem d_Lw_law_1021 : decode b_Lw_law 1021 = .ok (.iconst 0, 1) := by decide +kernel
theorem d_Lw_law_1022 : decode b_Lw_law 1022 = .ok (.ireturn, 1) := by decide +kernel
theorem d_Lw_law_1023 : decode b_Lw_law 1023 = .ok (.iload 5, 2) := by decide +kernel
theorem d_Lw_law_1025 : decode b_Lw_law 1025 = .ok (.ifCond .ne 15, 3) := by decide +kernel
theorem d_Lw_law_1028 : decode b_Lw_law 1028 = .ok (.aload_n 3, 1) := by decide +kernel
theorem d_Lw_law_1029 : decode b_Lw_law 1029 = .ok (.iconst 0, 1) := by decide +kernel
theorem d_Lw_law_1030 : decode b_Lw_law 1030 = .ok (.laload, 1) := by decide +kernel
theorem d_Lw_law_1031 : decode b_Lw_law 1031 = .ok (.iload 6, 2) := by decide +kernel
theorem d_Lw_law_1033 : decode b_Lw_law 1033 = .ok (.i2l, 1) := by decide +kernel
theorem d_Lw_law_1034 : decode b_Lw_law 1034 = .ok (.lcmp, 1) := by decide +kernel
theorem d_Lw_law_1035 : decode b_Lw_law 1035 = .ok (.ifCond .eq 5, 3) := by decide +kernel
theorem d_Lw_law_1038 : decode b_Lw_law 1038 = .ok (.iconst 0, 1) := by decide +kernel
theorem d_Lw_law_1039 : decode b_Lw_law 1039 = .ok (.ireturn, 1) := by decide +kernel
theorem d_Lw_law_1040 : decode b_Lw_law 1040 = .ok (.goto 232, 3) := by decide +kernel
theorem d_Lw_law_1043 : decode b_Lw_law 1043 = .ok (.aload_n 1, 1) := by decide +kernel
theorem d_Lw_law_1044 : decode b_Lw_law 1044 = .ok (.aload_n 0, 1) := by decide +kernel
theorem d_Lw_law_1045 : decode b_Lw_law 1045 = .ok (.iload 4, 2) := by decide +kernel
theorem d_Lw_law_1047 : decode b_Lw_law 1047 = .ok (.iconst 1, 1) := by decide +kernel
theorem d_Lw_law_1048 : decode b_Lw_law 1048 = .ok (.iadd, 1) := by decide +kernel
theorem d_Lw_law_1049 : decode b_Lw_law 1049 = .ok (.iaload, 1) := by decide +kernel
theorem d_Lw_law_1050 : decode b_Lw_law 1050 = .ok (.aload_n 0, 1) := by decide +kernel
theorem d_Lw_law_1051 : decode b_Lw_law 1051 = .ok (.iload 4, 2) := by decide +kernel
theorem d_Lw_law_1053 : decode b_Lw_law 1053 = .ok (.iconst 2, 1) := by decide +kernel
theorem d_Lw_law_1054 : decode b_Lw_law 1054 = .ok (.iadd, 1) := by decide +kernel
theorem d_Lw_law_1055 : decode b_Lw_law 1055 = .ok (.iaload, 1) := by decide +kernel
theorem d_Lw_law_1056 : decode b_Lw_law 1056 = .ok (.aload_n 3, 1) := by decide +kernel
theorem d_Lw_law_1057 : decode b_Lw_law 1057 = .ok (.invokestatic 160, 3) := by decide +kernel
theorem d_Lw_law_1060 : decode b_Lw_law 1060 = .ok (.istore 5, 2) := by decide +kernel
theorem d_Lw_law_1062 : decode b_Lw_law 1062 = .ok (.aload_n 2, 1) := by decide +kernel
theorem d_Lw_law_1063 : decode b_Lw_law 1063 = .ok (.aload_n 0, 1) := by decide +kernel
theorem d_Lw_law_1064 : decode b_Lw_law 1064 = .ok (.iload 4, 2) := by decide +kernel
theorem d_Lw_law_1066 : decode b_Lw_law 1066 = .ok (.iconst 1, 1) := by decide +kernel
theorem d_Lw_law_1067 : decode b_Lw_law 1067 = .ok (.iadd, 1) := by decide +kernel
theorem d_Lw_law_1068 : decode b_Lw_law 1068 = .ok (.iaload, 1) := by decide +kernel
theorem d_Lw_law_1069 : decode b_Lw_law 1069 = .ok (.aload_n 0, 1) := by decide +kernel
theorem d_Lw_law_1070 : decode b_Lw_law 1070 = .ok (.iload 4, 2) := by decide +kernel
theorem d_Lw_law_1072 : decode b_Lw_law 1072 = .ok (.iconst 2, 1) := by decide +kernel
theorem d_Lw_law_1073 : decode b_Lw_law 1073 = .ok (.iadd, 1) := by decide +kernel
theorem d_Lw_law_1074 : decode b_Lw_law 1074 = .ok (.iaload, 1) := by decide +kernel
theorem d_Lw_law_1075 : decode b_Lw_law 1075 = .ok (.invokevirtual 162, 3) := by decide +kernel
theorem d_Lw_law_1078 : decode b_Lw_law 1078 = .ok (.istore 6, 2) := by decide +kernel
theorem d_Lw_law_1080 : decode b_Lw_law 1080 = .ok (.aload_n 2, 1) := by decide +kernel
theorem d_Lw_law_1081 : decode b_Lw_law 1081 = .ok (.invokevirtual 98, 3) := by decide +kernel
theorem d_Lw_law_1084 : decode b_Lw_law 1084 = .ok (.iload 5, 2) := by decide +kernel
theorem d_Lw_law_1086 : decode b_Lw_law 1086 = .ok (.if_icmp .eq 5, 3) := by decide +kernel
theorem d_Lw_law_1089 : decode b_Lw_law 1089 = .ok (.iconst 0, 1) := by decide +kernel
theorem d_Lw_law_1090 : decode b_Lw_law 1090 = .ok (.ireturn, 1) := by decide +kernel
theorem d_Lw_law_1091 : decode b_Lw_law 1091 = .ok (.iload 5, 2) := by decide +kernel
theorem d_Lw_law_1093 : decode b_Lw_law 1093 = .ok (.ifCond .ne 15, 3) := by decide +kernel
theorem d_Lw_law_1096 : decode b_Lw_law 1096 = .ok (.aload_n 3, 1) := by decide +kernel
theorem d_Lw_law_1097 : decode b_Lw_law 1097 = .ok (.iconst 0, 1) := by decide +kernel
theorem d_Lw_law_1098 : decode b_Lw_law 1098 = .ok (.laload, 1) := by decide +kernel
theorem d_Lw_law_1099 : decode b_Lw_law 1099 = .ok (.iload 6, 2) := by decide +kernel
theorem d_Lw_law_1101 : decode b_Lw_law 1101 = .ok (.i2l, 1) := by decide +kernel
theorem d_Lw_law_1102 : decode b_Lw_law 1102 = .ok (.lcmp, 1) := by decide +kernel
theorem d_Lw_law_1103 : decode b_Lw_law 1103 = .ok (.ifCond .eq 5, 3) := by decide +kernel
theorem d_Lw_law_1106 : decode b_Lw_law 1106 = .ok (.iconst 0, 1) := by decide +kernel
theorem d_Lw_law_1107 : decode b_Lw_law 1107 = .ok (.ireturn, 1) := by decide +kernel
theorem d_Lw_law_1108 : decode b_Lw_law 1108 = .ok (.goto 164, 3) := by decide +kernel
theorem d_Lw_law_1111 : decode b_Lw_law 1111 = .ok (.aload_n 1, 1) := by decide +kernel
theorem d_Lw_law_1112 : decode b_Lw_law 1112 = .ok (.aload_n 0, 1) := by decide +kernel
theorem d_Lw_law_1113 : decode b_Lw_law 1113 = .ok (.iload 4, 2) := by decide +kernel
theorem d_Lw_law_1115 : decode b_Lw_law 1115 = .ok (.iconst 1, 1) := by decide +kernel
theorem d_Lw_law_1116 : decode b_Lw_law 1116 = .ok (.iadd, 1) := by decide +kernel
theorem d_Lw_law_1117 : decode b_Lw_law 1117 = .ok (.iaload, 1) := by decide +kernel
theorem d_Lw_law_1118 : decode b_Lw_law 1118 = .ok (.aload_n 0, 1) := by decide +kernel
theorem d_Lw_law_1119 : decode b_Lw_law 1119 = .ok (.iload 4, 2) := by decide +kernel
theorem d_Lw_law_1121 : decode b_Lw_law 1121 = .ok (.iconst 2, 1) := by decide +kernel
theorem d_Lw_law_1122 : decode b_Lw_law 1122 = .ok (.iadd, 1) := by decide +kernel
theorem d_Lw_law_1123 : decode b_Lw_law 1123 = .ok (.iaload, 1) := by decide +kernel
theorem d_Lw_law_1124 : decode b_Lw_law 1124 = .ok (.aload_n 3, 1) := by decide +kernel
theorem d_Lw_law_1125 : decode b_Lw_law 1125 = .ok (.invokestatic 163, 3) := by decide +kernel
theorem d_Lw_law_1128 : decode b_Lw_law 1128 = .ok (.istore 5, 2) := by decide +kernel
theorem d_Lw_law_1130 : decode b_Lw_law 1130 = .ok (.aload_n 2, 1) := by decide +kernel
theorem d_Lw_law_1131 : decode b_Lw_law 1131 = .ok (.aload_n 0, 1) := by decide +kernel
theorem d_Lw_law_1132 : decode b_Lw_law 1132 = .ok (.iload 4, 2) := by decide +kernel
theorem d_Lw_law_1134 : decode b_Lw_law 1134 = .ok (.iconst 1, 1) := by decide +kernel
theorem d_Lw_law_1135 : decode b_Lw_law 1135 = .ok (.iadd, 1) := by decide +kernel
theorem d_Lw_law_1136 : decode b_Lw_law 1136 = .ok (.iaload, 1) := by decide +kernel
theorem d_Lw_law_1137 : decode b_Lw_law 1137 = .ok (.aload_n 0, 1) := by decide +kernel
theorem d_Lw_law_1138 : decode b_Lw_law 1138 = .ok (.iload 4, 2) := by decide +kernel
theorem d_Lw_law_1140 : decode b_Lw_law 1140 = .ok (.iconst 2, 1) := by decide +kernel
theorem d_Lw_law_1141 : decode b_Lw_law 1141 = .ok (.iadd, 1) := by decide +kernel
theorem d_Lw_law_1142 : decode b_Lw_law 1142 = .ok (.iaload, 1) := by decide +kernel
theorem d_Lw_law_1143 : decode b_Lw_law 1143 = .ok (.invokevirtual 165, 3) := by decide +kernel
theorem d_Lw_law_1146 : decode b_Lw_law 1146 = .ok (.istore 6, 2) := by decide +kernel
theorem d_Lw_law_1148 : decode b_Lw_law 1148 = .ok (.aload_n 2, 1) := by decide +kernel
theorem d_Lw_law_1149 : decode b_Lw_law 1149 = .ok (.invokevirtual 98, 3) := by decide +kernel
theorem d_Lw_law_1152 : decode b_Lw_law 1152 = .ok (.iload 5, 2) := by decide +kernel
theorem d_Lw_law_1154 : decode b_Lw_law 1154 = .ok (.if_icmp .eq 5, 3) := by decide +kernel
theorem d_Lw_law_1157 : decode b_Lw_law 1157 = .ok (.iconst 0, 1) := by decide +kernel
theorem d_Lw_law_1158 : decode b_Lw_law 1158 = .ok (.ireturn, 1) := by decide +kernel
theorem d_Lw_law_1159 : decode b_Lw_law 1159 = .ok (.iload 5, 2) := by decide +kernel
theorem d_Lw_law_1161 : decode b_Lw_law 1161 = .ok (.ifCond .ne 15, 3) := by decide +kernel
theorem d_Lw_law_1164 : decode b_Lw_law 1164 = .ok (.aload_n 3, 1) := by decide +kernel
theorem d_Lw_law_1165 : decode b_Lw_law 1165 = .ok (.iconst 0, 1) := by decide +kernel
theorem d_Lw_law_1166 : decode b_Lw_law 1166 = .ok (.laload, 1) := by decide +kernel
theorem d_Lw_law_1167 : decode b_Lw_law 1167 = .ok (.iload 6, 2) := by decide +kernel
theorem d_Lw_law_1169 : decode b_Lw_law 1169 = .ok (.i2l, 1) := by decide +kernel
theorem d_Lw_law_1170 : decode b_Lw_law 1170 = .ok (.lcmp, 1) := by decide +kernel
theorem d_Lw_law_1171 : decode b_Lw_law 1171 = .ok (.ifCond .eq 5, 3) := by decide +kernel
theorem d_Lw_law_1174 : decode b_Lw_law 1174 = .ok (.iconst 0, 1) := by decide +kernel
theorem d_Lw_law_1175 : decode b_Lw_law 1175 = .ok (.ireturn, 1) := by decide +kernel
theorem d_Lw_law_1176 : decode b_Lw_law 1176 = .ok (.goto 96, 3) := by decide +kernel
theorem d_Lw_law_1179 : decode b_Lw_law 1179 = .ok (.aload_n 1, 1) := by decide +kernel
theorem d_Lw_law_1180 : decode b_Lw_law 1180 = .ok (.aload_n 0, 1) := by decide +kernel
theorem d_Lw_law_1181 : decode b_Lw_law 1181 = .ok (.iload 4, 2) := by decide +kernel
theorem d_Lw_law_1183 : decode b_Lw_law 1183 = .ok (.iconst 1, 1) := by decide +kernel
theorem d_Lw_law_1184 : decode b_Lw_law 1184 = .ok (.iadd, 1) := by decide +kernel
theorem d_Lw_law_1185 : decode b_Lw_law 1185 = .ok (.iaload, 1) := by decide +kernel
theorem d_Lw_law_1186 : decode b_Lw_law 1186 = .ok (.aload_n 0, 1) := by decide +kernel
theorem d_Lw_law_1187 : decode b_Lw_law 1187 = .ok (.iload 4, 2) := by decide +kernel
theorem d_Lw_law_1189 : decode b_Lw_law 1189 = .ok (.iconst 2, 1) := by decide +kernel
theorem d_Lw_law_1190 : decode b_Lw_law 1190 = .ok (.iadd, 1) := by decide +kernel
theorem d_Lw_law_1191 : decode b_Lw_law 1191 = .ok (.iaload, 1) := by decide +kernel
theorem d_Lw_law_1192 : decode b_Lw_law 1192 = .ok (.aload_n 3, 1) := by decide +kernel
theorem d_Lw_law_1193 : decode b_Lw_law 1193 = .ok (.invokestatic 166, 3) := by decide +kernel
theorem d_Lw_law_1196 : decode b_Lw_law 1196 = .ok (.istore 5, 2) := by decide +kernel
theorem d_Lw_law_1198 : decode b_Lw_law 1198 = .ok (.aload_n 2, 1) := by decide +kernel
theorem d_Lw_law_1199 : decode b_Lw_law 1199 = .ok (.aload_n 0, 1) := by decide +kernel
theorem d_Lw_law_1200 : decode b_Lw_law 1200 = .ok (.iload 4, 2) := by decide +kernel
theorem d_Lw_law_1202 : decode b_Lw_law 1202 = .ok (.iconst 1, 1) := by decide +kernel
theorem d_Lw_law_1203 : decode b_Lw_law 1203 = .ok (.iadd, 1) := by decide +kernel
theorem d_Lw_law_1204 : decode b_Lw_law 1204 = .ok (.iaload, 1) := by decide +kernel
theorem d_Lw_law_1205 : decode b_Lw_law 1205 = .ok (.aload_n 0, 1) := by decide +kernel
theorem d_Lw_law_1206 : decode b_Lw_law 1206 = .ok (.iload 4, 2) := by decide +kernel
theorem d_Lw_law_1208 : decode b_Lw_law 1208 = .ok (.iconst 2, 1) := by decide +kernel
theorem d_Lw_law_1209 : decode b_Lw_law 1209 = .ok (.iadd, 1) := by decide +kernel
theorem d_Lw_law_1210 : decode b_Lw_law 1210 = .ok (.iaload, 1) := by decide +kernel
theorem d_Lw_law_1211 : decode b_Lw_law 1211 = .ok (.invokevirtual 168, 3) := by decide +kernel
theorem d_Lw_law_1214 : decode b_Lw_law 1214 = .ok (.istore 6, 2) := by decide +kernel
theorem d_Lw_law_1216 : decode b_Lw_law 1216 = .ok (.aload_n 2, 1) := by decide +kernel
theorem d_Lw_law_1217 : decode b_Lw_law 1217 = .ok (.invokevirtual 98, 3) := by decide +kernel
theorem d_Lw_law_1220 : decode b_Lw_law 1220 = .ok (.iload 5, 2) := by decide +kernel
theorem d_Lw_law_1222 : decode b_Lw_law 1222 = .ok (.if_icmp .eq 5, 3) := by decide +kernel
theorem d_Lw_law_1225 : decode b_Lw_law 1225 = .ok (.iconst 0, 1) := by decide +kernel
theorem d_Lw_law_1226 : decode b_Lw_law 1226 = .ok (.ireturn, 1) := by decide +kernel
theorem d_Lw_law_1227 : decode b_Lw_law 1227 = .ok (.iload 5, 2) := by decide +kernel
theorem d_Lw_law_1229 : decode b_Lw_law 1229 = .ok (.ifCond .ne 15, 3) := by decide +kernel
theorem d_Lw_law_1232 : decode b_Lw_law 1232 = .ok (.aload_n 3, 1) := by decide +kernel
theorem d_Lw_law_1233 : decode b_Lw_law 1233 = .ok (.iconst 0, 1) := by decide +kernel
theorem d_Lw_law_1234 : decode b_Lw_law 1234 = .ok (.laload, 1) := by decide +kernel
theorem d_Lw_law_1235 : decode b_Lw_law 1235 = .ok (.iload 6, 2) := by decide +kernel
theorem d_Lw_law_1237 : decode b_Lw_law 1237 = .ok (.i2l, 1) := by decide +kernel
theorem d_Lw_law_1238 : decode b_Lw_law 1238 = .ok (.lcmp, 1) := by decide +kernel
theorem d_Lw_law_1239 : decode b_Lw_law 1239 = .ok (.ifCond .eq 5, 3) := by decide +kernel
theorem d_Lw_law_1242 : decode b_Lw_law 1242 = .ok (.iconst 0, 1) := by decide +kernel
theorem d_Lw_law_1243 : decode b_Lw_law 1243 = .ok (.ireturn, 1) := by decide +kernel
theorem d_Lw_law_1244 : decode b_Lw_law 1244 = .ok (.goto 28, 3) := by decide +kernel
theorem d_Lw_law_1247 : decode b_Lw_law 1247 = .ok (.aload_n 1, 1) := by decide +kernel
theorem d_Lw_law_1248 : decode b_Lw_law 1248 = .ok (.aload_n 0, 1) := by decide +kernel
theorem d_Lw_law_1249 : decode b_Lw_law 1249 = .ok (.iload 4, 2) := by decide +kernel
theorem d_Lw_law_1251 : decode b_Lw_law 1251 = .ok (.iconst 1, 1) := by decide +kernel
theorem d_Lw_law_1252 : decode b_Lw_law 1252 = .ok (.iadd, 1) := by decide +kernel
theorem d_Lw_law_1253 : decode b_Lw_law 1253 = .ok (.iaload, 1) := by decide +kernel
theorem d_Lw_law_1254 : decode b_Lw_law 1254 = .ok (.invokevirtual 169, 3) := by decide +kernel
theorem d_Lw_law_1257 : decode b_Lw_law 1257 = .ok (.aload_n 2, 1) := by decide +kernel
theorem d_Lw_law_1258 : decode b_Lw_law 1258 = .ok (.aload_n 0, 1) := by decide +kernel
theorem d_Lw_law_1259 : decode b_Lw_law 1259 = .ok (.iload 4, 2) := by decide +kernel
theorem d_Lw_law_1261 : decode b_Lw_law 1261 = .ok (.iconst 1, 1) := by decide +kernel
theorem d_Lw_law_1262 : decode b_Lw_law 1262 = .ok (.iadd, 1) := by decide +kernel
theorem d_Lw_law_1263 : decode b_Lw_law 1263 = .ok (.iaload, 1) := by decide +kernel
theorem d_Lw_law_1264 : decode b_Lw_law 1264 = .ok (.invokevirtual 172, 3) := by decide +kernel
theorem d_Lw_law_1267 : decode b_Lw_law 1267 = .ok (.if_icmp .eq 5, 3) := by decide +kernel
theorem d_Lw_law_1270 : decode b_Lw_law 1270 = .ok (.iconst 0, 1) := by decide +kernel
theorem d_Lw_law_1271 : decode b_Lw_law 1271 = .ok (.ireturn, 1) := by decide +kernel
theorem d_Lw_law_1272 : decode b_Lw_law 1272 = .ok (.iinc 4 4, 3) := by decide +kernel
theorem d_Lw_law_1275 : decode b_Lw_law 1275 = .ok (.goto (-1252), 3) := by decide +kernel
theorem d_Lw_law_1278 : decode b_Lw_law 1278 = .ok (.iconst 1, 1) := by decide +kernel
theorem d_Lw_law_1279 : decode b_Lw_law 1279 = .ok (.ireturn, 1) := by decide +kernel
