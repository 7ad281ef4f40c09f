abbrev rm_L_settings : Room := { frames := 10, cells := 91, slots := 546, locals := 177 }
theorem lwf_L_settings {a b : Nat} (h : a ≤ 91) (h2 : b ≤ 546) : a ≤ rm_L_settings.cells ∧ b ≤ rm_L_settings.slots := ⟨h, h2⟩
theorem dL_settings_0 : decode cL_settings 0 = .ok (.aload_n 1, 1) := by decide +kernel
theorem dL_settings_1 : decode cL_settings 1 = .ok (.iconst 0, 1) := by decide +kernel
theorem dL_settings_2 : decode cL_settings 2 = .ok (.invokestatic 71, 3) := by decide +kernel
theorem dL_settings_5 : decode cL_settings 5 = .ok (.istore_n 2, 1) := by decide +kernel
theorem dL_settings_6 : decode cL_settings 6 = .ok (.aload_n 1, 1) := by decide +kernel
theorem dL_settings_7 : decode cL_settings 7 = .ok (.iconst 1, 1) := by decide +kernel
theorem dL_settings_8 : decode cL_settings 8 = .ok (.invokestatic 71, 3) := by decide +kernel
theorem dL_settings_11 : decode cL_settings 11 = .ok (.istore_n 3, 1) := by decide +kernel
theorem dL_settings_12 : decode cL_settings 12 = .ok (.bipush 100, 2) := by decide +kernel
theorem dL_settings_14 : decode cL_settings 14 = .ok (.iload_n 2, 1) := by decide +kernel
theorem dL_settings_15 : decode cL_settings 15 = .ok (.sipush 2000, 3) := by decide +kernel
theorem dL_settings_18 : decode cL_settings 18 = .ok (.invokestatic 75, 3) := by decide +kernel
theorem dL_settings_21 : decode cL_settings 21 = .ok (.iadd, 1) := by decide +kernel
theorem dL_settings_22 : decode cL_settings 22 = .ok (.istore 4, 2) := by decide +kernel
theorem dL_settings_24 : decode cL_settings 24 = .ok (.aload_n 0, 1) := by decide +kernel
theorem dL_settings_25 : decode cL_settings 25 = .ok (.iconst 0, 1) := by decide +kernel
theorem dL_settings_26 : decode cL_settings 26 = .ok (.iload 4, 2) := by decide +kernel
theorem dL_settings_28 : decode cL_settings 28 = .ok (.invokestatic 50, 3) := by decide +kernel
theorem dL_settings_31 : decode cL_settings 31 = .ok (.sipush 2000, 3) := by decide +kernel
theorem dL_settings_34 : decode cL_settings 34 = .ok (.isub, 1) := by decide +kernel
theorem dL_settings_35 : decode cL_settings 35 = .ok (.aload_n 0, 1) := by decide +kernel
theorem dL_settings_36 : decode cL_settings 36 = .ok (.iconst 1, 1) := by decide +kernel
theorem dL_settings_37 : decode cL_settings 37 = .ok (.iconst 1, 1) := by decide +kernel
theorem dL_settings_38 : decode cL_settings 38 = .ok (.iload_n 2, 1) := by decide +kernel
theorem dL_settings_39 : decode cL_settings 39 = .ok (.bipush 11, 2) := by decide +kernel
theorem dL_settings_41 : decode cL_settings 41 = .ok (.ishr, 1) := by decide +kernel
theorem dL_settings_42 : decode cL_settings 42 = .ok (.bipush 40, 2) := by decide +kernel
theorem dL_settings_44 : decode cL_settings 44 = .ok (.invokestatic 75, 3) := by decide +kernel
theorem dL_settings_47 : decode cL_settings 47 = .ok (.iadd, 1) := by decide +kernel
theorem dL_settings_48 : decode cL_settings 48 = .ok (.invokestatic 50, 3) := by decide +kernel
theorem dL_settings_51 : decode cL_settings 51 = .ok (.iadd, 1) := by decide +kernel
theorem dL_settings_52 : decode cL_settings 52 = .ok (.bipush 30, 2) := by decide +kernel
theorem dL_settings_54 : decode cL_settings 54 = .ok (.isub, 1) := by decide +kernel
theorem dL_settings_55 : decode cL_settings 55 = .ok (.aload_n 0, 1) := by decide +kernel
theorem dL_settings_56 : decode cL_settings 56 = .ok (.iconst 2, 1) := by decide +kernel
theorem dL_settings_57 : decode cL_settings 57 = .ok (.iload_n 2, 1) := by decide +kernel
theorem dL_settings_58 : decode cL_settings 58 = .ok (.bipush 17, 2) := by decide +kernel
theorem dL_settings_60 : decode cL_settings 60 = .ok (.ishr, 1) := by decide +kernel
theorem dL_settings_61 : decode cL_settings 61 = .ok (.sipush 300, 3) := by decide +kernel
theorem dL_settings_64 : decode cL_settings 64 = .ok (.invokestatic 75, 3) := by decide +kernel
theorem dL_settings_67 : decode cL_settings 67 = .ok (.invokestatic 50, 3) := by decide +kernel
theorem dL_settings_70 : decode cL_settings 70 = .ok (.iadd, 1) := by decide +kernel
theorem dL_settings_71 : decode cL_settings 71 = .ok (.bipush 50, 2) := by decide +kernel
theorem dL_settings_73 : decode cL_settings 73 = .ok (.isub, 1) := by decide +kernel
theorem dL_settings_74 : decode cL_settings 74 = .ok (.aload_n 0, 1) := by decide +kernel
theorem dL_settings_75 : decode cL_settings 75 = .ok (.iconst 3, 1) := by decide +kernel
theorem dL_settings_76 : decode cL_settings 76 = .ok (.iload_n 3, 1) := by decide +kernel
theorem dL_settings_77 : decode cL_settings 77 = .ok (.sipush 6000, 3) := by decide +kernel
theorem dL_settings_80 : decode cL_settings 80 = .ok (.invokestatic 75, 3) := by decide +kernel
theorem dL_settings_83 : decode cL_settings 83 = .ok (.invokestatic 50, 3) := by decide +kernel
theorem dL_settings_86 : decode cL_settings 86 = .ok (.iadd, 1) := by decide +kernel
theorem dL_settings_87 : decode cL_settings 87 = .ok (.sipush 2000, 3) := by decide +kernel
theorem dL_settings_90 : decode cL_settings 90 = .ok (.isub, 1) := by decide +kernel
theorem dL_settings_91 : decode cL_settings 91 = .ok (.aload_n 0, 1) := by decide +kernel
theorem dL_settings_92 : decode cL_settings 92 = .ok (.iconst 4, 1) := by decide +kernel
theorem dL_settings_93 : decode cL_settings 93 = .ok (.iload_n 3, 1) := by decide +kernel
theorem dL_settings_94 : decode cL_settings 94 = .ok (.bipush 7, 2) := by decide +kernel
theorem dL_settings_96 : decode cL_settings 96 = .ok (.ishr, 1) := by decide +kernel
theorem dL_settings_97 : decode cL_settings 97 = .ok (.sipush 6000, 3) := by decide +kernel
theorem dL_settings_100 : decode cL_settings 100 = .ok (.invokestatic 75, 3) := by decide +kernel
theorem dL_settings_103 : decode cL_settings 103 = .ok (.invokestatic 50, 3) := by decide +kernel
theorem dL_settings_106 : decode cL_settings 106 = .ok (.iadd, 1) := by decide +kernel
theorem dL_settings_107 : decode cL_settings 107 = .ok (.sipush 2000, 3) := by decide +kernel
theorem dL_settings_110 : decode cL_settings 110 = .ok (.isub, 1) := by decide +kernel
theorem dL_settings_111 : decode cL_settings 111 = .ok (.istore 5, 2) := by decide +kernel
theorem dL_settings_113 : decode cL_settings 113 = .ok (.iload 5, 2) := by decide +kernel
theorem dL_settings_115 : decode cL_settings 115 = .ok (.aload_n 0, 1) := by decide +kernel
theorem dL_settings_116 : decode cL_settings 116 = .ok (.bipush 12, 2) := by decide +kernel
theorem dL_settings_118 : decode cL_settings 118 = .ok (.iload_n 3, 1) := by decide +kernel
theorem dL_settings_119 : decode cL_settings 119 = .ok (.bipush 14, 2) := by decide +kernel
theorem dL_settings_121 : decode cL_settings 121 = .ok (.ishr, 1) := by decide +kernel
theorem dL_settings_122 : decode cL_settings 122 = .ok (.iconst 3, 1) := by decide +kernel
theorem dL_settings_123 : decode cL_settings 123 = .ok (.invokestatic 75, 3) := by decide +kernel
theorem dL_settings_126 : decode cL_settings 126 = .ok (.invokestatic 50, 3) := by decide +kernel
theorem dL_settings_129 : decode cL_settings 129 = .ok (.iconst 2, 1) := by decide +kernel
theorem dL_settings_130 : decode cL_settings 130 = .ok (.isub, 1) := by decide +kernel
theorem dL_settings_131 : decode cL_settings 131 = .ok (.aload_n 0, 1) := by decide +kernel
theorem dL_settings_132 : decode cL_settings 132 = .ok (.bipush 9, 2) := by decide +kernel
theorem dL_settings_134 : decode cL_settings 134 = .ok (.bipush 10, 2) := by decide +kernel
theorem dL_settings_136 : decode cL_settings 136 = .ok (.iload_n 3, 1) := by decide +kernel
theorem dL_settings_137 : decode cL_settings 137 = .ok (.bipush 16, 2) := by decide +kernel
theorem dL_settings_139 : decode cL_settings 139 = .ok (.ishr, 1) := by decide +kernel
theorem dL_settings_140 : decode cL_settings 140 = .ok (.bipush 91, 2) := by decide +kernel
theorem dL_settings_142 : decode cL_settings 142 = .ok (.invokestatic 75, 3) := by decide +kernel
theorem dL_settings_145 : decode cL_settings 145 = .ok (.iadd, 1) := by decide +kernel
theorem dL_settings_146 : decode cL_settings 146 = .ok (.invokestatic 50, 3) := by decide +kernel
theorem dL_settings_149 : decode cL_settings 149 = .ok (.iadd, 1) := by decide +kernel
theorem dL_settings_150 : decode cL_settings 150 = .ok (.bipush 80, 2) := by decide +kernel
theorem dL_settings_152 : decode cL_settings 152 = .ok (.isub, 1) := by decide +kernel
theorem dL_settings_153 : decode cL_settings 153 = .ok (.aload_n 0, 1) := by decide +kernel
theorem dL_settings_154 : decode cL_settings 154 = .ok (.bipush 11, 2) := by decide +kernel
theorem dL_settings_156 : decode cL_settings 156 = .ok (.iload_n 3, 1) := by decide +kernel
theorem dL_settings_157 : decode cL_settings 157 = .ok (.bipush 20, 2) := by decide +kernel
theorem dL_settings_159 : decode cL_settings 159 = .ok (.ishr, 1) := by decide +kernel
theorem dL_settings_160 : decode cL_settings 160 = .ok (.sipush 1000, 3) := by decide +kernel
theorem dL_settings_163 : decode cL_settings 163 = .ok (.invokestatic 75, 3) := by decide +kernel
theorem dL_settings_166 : decode cL_settings 166 = .ok (.invokestatic 50, 3) := by decide +kernel
theorem dL_settings_169 : decode cL_settings 169 = .ok (.iadd, 1) := by decide +kernel
theorem dL_settings_170 : decode cL_settings 170 = .ok (.sipush 500, 3) := by decide +kernel
theorem dL_settings_173 : decode cL_settings 173 = .ok (.isub, 1) := by decide +kernel
theorem dL_settings_174 : decode cL_settings 174 = .ok (.iadd, 1) := by decide +kernel
theorem dL_settings_175 : decode cL_settings 175 = .ok (.istore 5, 2) := by decide +kernel
theorem dL_settings_177 : decode cL_settings 177 = .ok (.aload_n 1, 1) := by decide +kernel
theorem dL_settings_178 : decode cL_settings 178 = .ok (.iconst 2, 1) := by decide +kernel
theorem dL_settings_179 : decode cL_settings 179 = .ok (.invokestatic 71, 3) := by decide +kernel
theorem dL_settings_182 : decode cL_settings 182 = .ok (.istore_n 3, 1) := by decide +kernel
theorem dL_settings_183 : decode cL_settings 183 = .ok (.iload 5, 2) := by decide +kernel
theorem dL_settings_185 : decode cL_settings 185 = .ok (.aload_n 0, 1) := by decide +kernel
theorem dL_settings_186 : decode cL_settings 186 = .ok (.bipush 10, 2) := by decide +kernel
theorem dL_settings_188 : decode cL_settings 188 = .ok (.iload_n 3, 1) := by decide +kernel
theorem dL_settings_189 : decode cL_settings 189 = .ok (.sipush 6000, 3) := by decide +kernel
theorem dL_settings_192 : decode cL_settings 192 = .ok (.invokestatic 75, 3) := by decide +kernel
theorem dL_settings_195 : decode cL_settings 195 = .ok (.invokestatic 50, 3) := by decide +kernel
theorem dL_settings_198 : decode cL_settings 198 = .ok (.aload_n 0, 1) := by decide +kernel
theorem dL_settings_199 : decode cL_settings 199 = .ok (.bipush 13, 2) := by decide +kernel
theorem dL_settings_201 : decode cL_settings 201 = .ok (.iload_n 3, 1) := by decide +kernel
theorem dL_settings_202 : decode cL_settings 202 = .ok (.bipush 13, 2) := by decide +kernel
theorem dL_settings_204 : decode cL_settings 204 = .ok (.ishr, 1) := by decide +kernel
theorem dL_settings_205 : decode cL_settings 205 = .ok (.iconst 3, 1) := by decide +kernel
theorem dL_settings_206 : decode cL_settings 206 = .ok (.iand, 1) := by decide +kernel
theorem dL_settings_207 : decode cL_settings 207 = .ok (.ifCond .ne 16, 3) := by decide +kernel
theorem dL_settings_210 : decode cL_settings 210 = .ok (.iload_n 3, 1) := by decide +kernel
theorem dL_settings_211 : decode cL_settings 211 = .ok (.bipush 15, 2) := by decide +kernel
theorem dL_settings_213 : decode cL_settings 213 = .ok (.ishr, 1) := by decide +kernel
theorem dL_settings_214 : decode cL_settings 214 = .ok (.sipush 8000, 3) := by decide +kernel
theorem dL_settings_217 : decode cL_settings 217 = .ok (.invokestatic 75, 3) := by decide +kernel
theorem dL_settings_220 : decode cL_settings 220 = .ok (.goto 4, 3) := by decide +kernel
theorem dL_settings_223 : decode cL_settings 223 = .ok (.iconst 0, 1) := by decide +kernel
theorem dL_settings_224 : decode cL_settings 224 = .ok (.invokestatic 50, 3) := by decide +kernel
theorem dL_settings_227 : decode cL_settings 227 = .ok (.iadd, 1) := by decide +kernel
theorem dL_settings_228 : decode cL_settings 228 = .ok (.aload_n 0, 1) := by decide +kernel
theorem dL_settings_229 : decode cL_settings 229 = .ok (.bipush 14, 2) := by decide +kernel
theorem dL_settings_231 : decode cL_settings 231 = .ok (.iload_n 3, 1) := by decide +kernel
theorem dL_settings_232 : decode cL_settings 232 = .ok (.bipush 8, 2) := by decide +kernel
theorem dL_settings_234 : decode cL_settings 234 = .ok (.ishr, 1) := by decide +kernel
theorem dL_settings_235 : decode cL_settings 235 = .ok (.sipush 9000, 3) := by decide +kernel
theorem dL_settings_238 : decode cL_settings 238 = .ok (.invokestatic 75, 3) := by decide +kernel
theorem dL_settings_241 : decode cL_settings 241 = .ok (.invokestatic 50, 3) := by decide +kernel
theorem dL_settings_244 : decode cL_settings 244 = .ok (.iadd, 1) := by decide +kernel
theorem dL_settings_245 : decode cL_settings 245 = .ok (.ldc 78, 2) := by decide +kernel
theorem dL_settings_247 : decode cL_settings 247 = .ok (.isub, 1) := by decide +kernel
theorem dL_settings_248 : decode cL_settings 248 = .ok (.aload_n 0, 1) := by decide +kernel
theorem dL_settings_249 : decode cL_settings 249 = .ok (.bipush 7, 2) := by decide +kernel
theorem dL_settings_251 : decode cL_settings 251 = .ok (.sipush 4000, 3) := by decide +kernel
theorem dL_settings_254 : decode cL_settings 254 = .ok (.iload_n 3, 1) := by decide +kernel
theorem dL_settings_255 : decode cL_settings 255 = .ok (.iconst 4, 1) := by decide +kernel
theorem dL_settings_256 : decode cL_settings 256 = .ok (.ishr, 1) := by decide +kernel
theorem dL_settings_257 : decode cL_settings 257 = .ok (.sipush 20000, 3) := by decide +kernel
theorem dL_settings_260 : decode cL_settings 260 = .ok (.invokestatic 75, 3) := by decide +kernel
theorem dL_settings_263 : decode cL_settings 263 = .ok (.iadd, 1) := by decide +kernel
theorem dL_settings_264 : decode cL_settings 264 = .ok (.invokestatic 50, 3) := by decide +kernel
theorem dL_settings_267 : decode cL_settings 267 = .ok (.iadd, 1) := by decide +kernel
theorem dL_settings_268 : decode cL_settings 268 = .ok (.sipush 20000, 3) := by decide +kernel
theorem dL_settings_271 : decode cL_settings 271 = .ok (.isub, 1) := by decide +kernel
theorem dL_settings_272 : decode cL_settings 272 = .ok (.aload_n 0, 1) := by decide +kernel
theorem dL_settings_273 : decode cL_settings 273 = .ok (.bipush 8, 2) := by decide +kernel
theorem dL_settings_275 : decode cL_settings 275 = .ok (.iconst 1, 1) := by decide +kernel
theorem dL_settings_276 : decode cL_settings 276 = .ok (.iload_n 3, 1) := by decide +kernel
theorem dL_settings_277 : decode cL_settings 277 = .ok (.bipush 20, 2) := by decide +kernel
theorem dL_settings_279 : decode cL_settings 279 = .ok (.ishr, 1) := by decide +kernel
theorem dL_settings_280 : decode cL_settings 280 = .ok (.bipush 10, 2) := by decide +kernel
theorem dL_settings_282 : decode cL_settings 282 = .ok (.invokestatic 75, 3) := by decide +kernel
theorem dL_settings_285 : decode cL_settings 285 = .ok (.iadd, 1) := by decide +kernel
theorem dL_settings_286 : decode cL_settings 286 = .ok (.invokestatic 50, 3) := by decide +kernel
theorem dL_settings_289 : decode cL_settings 289 = .ok (.iadd, 1) := by decide +kernel
theorem dL_settings_290 : decode cL_settings 290 = .ok (.iconst 3, 1) := by decide +kernel
theorem dL_settings_291 : decode cL_settings 291 = .ok (.isub, 1) := by decide +kernel
theorem dL_settings_292 : decode cL_settings 292 = .ok (.iadd, 1) := by decide +kernel
theorem dL_settings_293 : decode cL_settings 293 = .ok (.istore 5, 2) := by decide +kernel
theorem dL_settings_295 : decode cL_settings 295 = .ok (.iconst 0, 1) := by decide +kernel
theorem dL_settings_296 : decode cL_settings 296 = .ok (.istore 6, 2) := by decide +kernel
theorem dL_settings_298 : decode cL_settings 298 = .ok (.iconst 0, 1) := by decide +kernel
theorem dL_settings_299 : decode cL_settings 299 = .ok (.istore 7, 2) := by decide +kernel
theorem dL_settings_301 : decode cL_settings 301 = .ok (.iload 7, 2) := by decide +kernel
theorem dL_settings_303 : decode cL_settings 303 = .ok (.iconst 1, 1) := by decide +kernel
theorem dL_settings_304 : decode cL_settings 304 = .ok (.aload_n 1, 1) := by decide +kernel
theorem dL_settings_305 : decode cL_settings 305 = .ok (.iconst 3, 1) := by decide +kernel
theorem dL_settings_306 : decode cL_settings 306 = .ok (.invokestatic 71, 3) := by decide +kernel
theorem dL_settings_309 : decode cL_settings 309 = .ok (.bipush 6, 2) := by decide +kernel
theorem dL_settings_311 : decode cL_settings 311 = .ok (.invokestatic 75, 3) := by decide +kernel
theorem dL_settings_314 : decode cL_settings 314 = .ok (.iadd, 1) := by decide +kernel
theorem dL_settings_315 : decode cL_settings 315 = .ok (.if_icmp .ge 44, 3) := by decide +kernel
theorem dL_settings_318 : decode cL_settings 318 = .ok (.iload 6, 2) := by decide +kernel
theorem dL_settings_320 : decode cL_settings 320 = .ok (.iconst 1, 1) := by decide +kernel
theorem dL_settings_321 : decode cL_settings 321 = .ok (.aload_n 1, 1) := by decide +kernel
theorem dL_settings_322 : decode cL_settings 322 = .ok (.iconst 4, 1) := by decide +kernel
theorem dL_settings_323 : decode cL_settings 323 = .ok (.iload 7, 2) := by decide +kernel
theorem dL_settings_325 : decode cL_settings 325 = .ok (.iadd, 1) := by decide +kernel
theorem dL_settings_326 : decode cL_settings 326 = .ok (.invokestatic 71, 3) := by decide +kernel
theorem dL_settings_329 : decode cL_settings 329 = .ok (.bipush 60, 2) := by decide +kernel
theorem dL_settings_331 : decode cL_settings 331 = .ok (.invokestatic 75, 3) := by decide +kernel
theorem dL_settings_334 : decode cL_settings 334 = .ok (.iadd, 1) := by decide +kernel
theorem dL_settings_335 : decode cL_settings 335 = .ok (.iadd, 1) := by decide +kernel
theorem dL_settings_336 : decode cL_settings 336 = .ok (.istore 6, 2) := by decide +kernel
theorem dL_settings_338 : decode cL_settings 338 = .ok (.iload 5, 2) := by decide +kernel
theorem dL_settings_340 : decode cL_settings 340 = .ok (.aload_n 0, 1) := by decide +kernel
theorem dL_settings_341 : decode cL_settings 341 = .ok (.iconst 0, 1) := by decide +kernel
theorem dL_settings_342 : decode cL_settings 342 = .ok (.iload 6, 2) := by decide +kernel
theorem dL_settings_344 : decode cL_settings 344 = .ok (.invokestatic 56, 3) := by decide +kernel
theorem dL_settings_347 : decode cL_settings 347 = .ok (.iload 7, 2) := by decide +kernel
theorem dL_settings_349 : decode cL_settings 349 = .ok (.isub, 1) := by decide +kernel
theorem dL_settings_350 : decode cL_settings 350 = .ok (.iadd, 1) := by decide +kernel
theorem dL_settings_351 : decode cL_settings 351 = .ok (.istore 5, 2) := by decide +kernel
theorem dL_settings_353 : decode cL_settings 353 = .ok (.iinc 7 1, 3) := by decide +kernel
theorem dL_settings_356 : decode cL_settings 356 = .ok (.goto (-55), 3) := by decide +kernel
theorem dL_settings_359 : decode cL_settings 359 = .ok (.iconst 0, 1) := by decide +kernel
theorem dL_settings_360 : decode cL_settings 360 = .ok (.istore 7, 2) := by decide +kernel
theorem dL_settings_362 : decode cL_settings 362 = .ok (.iload 7, 2) := by decide +kernel
theorem dL_settings_364 : decode cL_settings 364 = .ok (.aload_n 1, 1) := by decide +kernel
theorem dL_settings_365 : decode cL_settings 365 = .ok (.iconst 3, 1) := by decide +kernel
theorem dL_settings_366 : decode cL_settings 366 = .ok (.invokestatic 71, 3) := by decide +kernel
theorem dL_settings_369 : decode cL_settings 369 = .ok (.iconst 4, 1) := by decide +kernel
theorem dL_settings_370 : decode cL_settings 370 = .ok (.ishr, 1) := by decide +kernel
theorem dL_settings_371 : decode cL_settings 371 = .ok (.iconst 4, 1) := by decide +kernel
theorem dL_settings_372 : decode cL_settings 372 = .ok (.invokestatic 75, 3) := by decide +kernel
theorem dL_settings_375 : decode cL_settings 375 = .ok (.if_icmp .ge 29, 3) := by decide +kernel
theorem dL_settings_378 : decode cL_settings 378 = .ok (.iload 5, 2) := by decide +kernel
theorem dL_settings_380 : decode cL_settings 380 = .ok (.aload_n 0, 1) := by decide +kernel
theorem dL_settings_381 : decode cL_settings 381 = .ok (.iconst 1, 1) := by decide +kernel
theorem dL_settings_382 : decode cL_settings 382 = .ok (.iconst 1, 1) := by decide +kernel
theorem dL_settings_383 : decode cL_settings 383 = .ok (.bipush 10, 2) := by decide +kernel
theorem dL_settings_385 : decode cL_settings 385 = .ok (.iload 7, 2) := by decide +kernel
theorem dL_settings_387 : decode cL_settings 387 = .ok (.imul, 1) := by decide +kernel
theorem dL_settings_388 : decode cL_settings 388 = .ok (.iadd, 1) := by decide +kernel
theorem dL_settings_389 : decode cL_settings 389 = .ok (.invokestatic 56, 3) := by decide +kernel
theorem dL_settings_392 : decode cL_settings 392 = .ok (.iload 7, 2) := by decide +kernel
theorem dL_settings_394 : decode cL_settings 394 = .ok (.isub, 1) := by decide +kernel
theorem dL_settings_395 : decode cL_settings 395 = .ok (.iadd, 1) := by decide +kernel
theorem dL_settings_396 : decode cL_settings 396 = .ok (.istore 5, 2) := by decide +kernel
theorem dL_settings_398 : decode cL_settings 398 = .ok (.iinc 7 1, 3) := by decide +kernel
theorem dL_settings_401 : decode cL_settings 401 = .ok (.goto (-39), 3) := by decide +kernel
theorem dL_settings_404 : decode cL_settings 404 = .ok (.iconst 0, 1) := by decide +kernel
theorem dL_settings_405 : decode cL_settings 405 = .ok (.istore 7, 2) := by decide +kernel
theorem dL_settings_407 : decode cL_settings 407 = .ok (.iload 7, 2) := by decide +kernel
theorem dL_settings_409 : decode cL_settings 409 = .ok (.iconst 1, 1) := by decide +kernel
theorem dL_settings_410 : decode cL_settings 410 = .ok (.aload_n 1, 1) := by decide +kernel
theorem dL_settings_411 : decode cL_settings 411 = .ok (.iconst 3, 1) := by decide +kernel
theorem dL_settings_412 : decode cL_settings 412 = .ok (.invokestatic 71, 3) := by decide +kernel
theorem dL_settings_415 : decode cL_settings 415 = .ok (.bipush 8, 2) := by decide +kernel
theorem dL_settings_417 : decode cL_settings 417 = .ok (.ishr, 1) := by decide +kernel
theorem dL_settings_418 : decode cL_settings 418 = .ok (.iconst 4, 1) := by decide +kernel
theorem dL_settings_419 : decode cL_settings 419 = .ok (.invokestatic 75, 3) := by decide +kernel
theorem dL_settings_422 : decode cL_settings 422 = .ok (.iadd, 1) := by decide +kernel
theorem dL_settings_423 : decode cL_settings 423 = .ok (.if_icmp .ge 58, 3) := by decide +kernel
theorem dL_settings_426 : decode cL_settings 426 = .ok (.iload 5, 2) := by decide +kernel
theorem dL_settings_428 : decode cL_settings 428 = .ok (.aload_n 0, 1) := by decide +kernel
theorem dL_settings_429 : decode cL_settings 429 = .ok (.iconst 1, 1) := by decide +kernel
theorem dL_settings_430 : decode cL_settings 430 = .ok (.aload_n 1, 1) := by decide +kernel
theorem dL_settings_431 : decode cL_settings 431 = .ok (.bipush 10, 2) := by decide +kernel
theorem dL_settings_433 : decode cL_settings 433 = .ok (.iload 7, 2) := by decide +kernel
theorem dL_settings_435 : decode cL_settings 435 = .ok (.iadd, 1) := by decide +kernel
theorem dL_settings_436 : decode cL_settings 436 = .ok (.invokestatic 71, 3) := by decide +kernel
theorem dL_settings_439 : decode cL_settings 439 = .ok (.sipush 4000, 3) := by decide +kernel
theorem dL_settings_442 : decode cL_settings 442 = .ok (.invokestatic 75, 3) := by decide +kernel
theorem dL_settings_445 : decode cL_settings 445 = .ok (.iadd, 1) := by decide +kernel
theorem dL_settings_446 : decode cL_settings 446 = .ok (.aload_n 1, 1) := by decide +kernel
theorem dL_settings_447 : decode cL_settings 447 = .ok (.bipush 10, 2) := by decide +kernel
theorem dL_settings_449 : decode cL_settings 449 = .ok (.iload 7, 2) := by decide +kernel
theorem dL_settings_451 : decode cL_settings 451 = .ok (.iadd, 1) := by decide +kernel
theorem dL_settings_452 : decode cL_settings 452 = .ok (.invokestatic 71, 3) := by decide +kernel
theorem dL_settings_455 : decode cL_settings 455 = .ok (.bipush 12, 2) := by decide +kernel
theorem dL_settings_457 : decode cL_settings 457 = .ok (.ishr, 1) := by decide +kernel
theorem dL_settings_458 : decode cL_settings 458 = .ok (.sipush 300, 3) := by decide +kernel
theorem dL_settings_461 : decode cL_settings 461 = .ok (.invokestatic 75, 3) := by decide +kernel
theorem dL_settings_464 : decode cL_settings 464 = .ok (.invokevirtual 79, 3) := by decide +kernel
theorem dL_settings_467 : decode cL_settings 467 = .ok (.iload 7, 2) := by decide +kernel
theorem dL_settings_469 : decode cL_settings 469 = .ok (.isub, 1) := by decide +kernel
theorem dL_settings_470 : decode cL_settings 470 = .ok (.iconst 1, 1) := by decide +kernel
theorem dL_settings_471 : decode cL_settings 471 = .ok (.isub, 1) := by decide +kernel
theorem dL_settings_472 : decode cL_settings 472 = .ok (.iadd, 1) := by decide +kernel
theorem dL_settings_473 : decode cL_settings 473 = .ok (.istore 5, 2) := by decide +kernel
theorem dL_settings_475 : decode cL_settings 475 = .ok (.iinc 7 1, 3) := by decide +kernel
theorem dL_settings_478 : decode cL_settings 478 = .ok (.goto (-71), 3) := by decide +kernel
theorem dL_settings_481 : decode cL_settings 481 = .ok (.iload 5, 2) := by decide +kernel
theorem dL_settings_483 : decode cL_settings 483 = .ok (.ifCond .ne 8, 3) := by decide +kernel
theorem dL_settings_486 : decode cL_settings 486 = .ok (.iload 4, 2) := by decide +kernel
theorem dL_settings_488 : decode cL_settings 488 = .ok (.goto 4, 3) := by decide +kernel
theorem dL_settings_491 : decode cL_settings 491 = .ok (.iconst (-1), 1) := by decide +kernel
theorem dL_settings_492 : decode cL_settings 492 = .ok (.ireturn, 1) := by decide +kernel
theorem cw_L_71 {R : Room} {s : State} {args : Array Value} (hts : ∀ w ∈ TB, w.before args s = true) (hR : rm_L_cell.frames + 1 ≤ R.frames ∧ 8 + (2 + 11) + rm_L_cell.locals ≤ R.locals) : CallB R s args RL 71 yL_cell cL_cell 2 (some .int) (Cond.code yL_cell cL_cell 2 (some .int) :: TB) rm_L_cell 0 0 2 ∧ (Cond.static yL_cell).before args s = true := cwS 2 hts (gS tb658 tb659 tb20 tb660) rfl rfl rfl ⟨rfl, by decide, by decide, by decide +kernel⟩ hR
theorem cw_L_75 {R : Room} {s : State} {args : Array Value} (hts : ∀ w ∈ TB, w.before args s = true) (hR : rm_L_up.frames + 1 ≤ R.frames ∧ 8 + (2 + 11) + rm_L_up.locals ≤ R.locals) : CallB R s args RL 75 yL_up cL_up 2 (some .int) (Cond.code yL_up cL_up 2 (some .int) :: TB) rm_L_up 0 0 2 ∧ (Cond.static yL_up).before args s = true := cwS 2 hts (gS tb662 tb663 tb20 tb664) rfl rfl rfl ⟨rfl, by decide, by decide, by decide +kernel⟩ hR
theorem cw_L_79 {R : Room} {s : State} {args : Array Value} (hts : ∀ w ∈ TB, w.before args s = true) (hR : rm_X9_addPhase.frames + 1 ≤ R.frames ∧ 8 + (3 + 11) + rm_X9_addPhase.locals ≤ R.locals) : CallW R s args RL RX9 79 yX9_addPhase cX9_addPhase 3 (some .int) (Cond.code yX9_addPhase cX9_addPhase 3 (some .int) :: TB) rm_X9_addPhase 4 24 2 := cwV 2 hts (gV tb793 tb794 tb795 tb21 tb796) rfl rfl rfl ⟨rfl, by decide, by decide, by decide +kernel⟩ hR
def f_L_settings_b407 (v1_state : Int32) (xs : Nat → Int32) (L : Nat) : Nat → Int32 → (Nat → Int32) → Int32 → Int32 → (Nat → Int32) → (Nat → Int32) → (Nat → Int32) → Int32 → (Nat → Int32) → Int32 → Int32 → Int32 → Option (Int32 × Int32 × (Nat → Int32) × Int32 × Int32 × (Nat → Int32) × (Nat → Int32) × (Nat → Int32) × Int32 × (Nat → Int32))
  | 0, _, _, _, _, _, _, _, _, _, _, _, _ => none
  | n + 1, v3_rungs, r4, v5_total, v5_phases, r6, r7, r8, v9_rungs, r10, l4, l5, l7 =>
    obnd (f_L_cell xs L 3) fun (y1 : Int32) =>
    obnd (f_L_up (y1 >>> (8 &&& 31)) 4) fun (y2 : Int32) =>
    if (1 + y2) ≤ l7 then
      if l5 = 0 then
        some (l4, v3_rungs, r4, v5_total, v5_phases, r6, r7, r8, v9_rungs, r10)
      else
        some ((-1), v3_rungs, r4, v5_total, v5_phases, r6, r7, r8, v9_rungs, r10)
    else
      grd (vin l7 4) <|
      obnd (f_L_cell xs L (10 + l7)) fun (y5 : Int32) =>
      obnd (f_L_up y5 4000) fun (y6 : Int32) =>
      obnd (f_L_cell xs L (10 + l7)) fun (y7 : Int32) =>
      obnd (f_L_up (y7 >>> (12 &&& 31)) 300) fun (y8 : Int32) =>
      bnd6 (f_X9_addPhase v1_state v5_total v5_phases r6 r7 (1 + y6) y8) fun (k9 : Nat) (y10 : Int32) (y11 : Int32) (y12 : Int32) (u13 : Nat → Int32) (u14 : Nat → Int32) =>
      if k9 = 0 then
        f_L_settings_b407 v1_state xs L n v3_rungs r4 y11 y12 u13 u14 r8 v9_rungs r10 l4 (l5 + ((y10 - l7) - 1)) (l7 + 1)
      else
        none
def f_L_settings_b362 (v1_state v3_most v9_most : Int32) (xs : Nat → Int32) (L : Nat) : Nat → Int32 → (Nat → Int32) → Int32 → Int32 → (Nat → Int32) → (Nat → Int32) → (Nat → Int32) → Int32 → (Nat → Int32) → Int32 → Int32 → Int32 → Option (Int32 × Int32 × (Nat → Int32) × Int32 × Int32 × (Nat → Int32) × (Nat → Int32) × (Nat → Int32) × Int32 × (Nat → Int32))
  | 0, _, _, _, _, _, _, _, _, _, _, _, _ => none
  | n + 1, v3_rungs, r4, v5_total, v5_phases, r6, r7, r8, v9_rungs, r10, l4, l5, l7 =>
    obnd (f_L_cell xs L 3) fun (y1 : Int32) =>
    obnd (f_L_up (y1 >>> (4 &&& 31)) 4) fun (y2 : Int32) =>
    if y2 ≤ l7 then
      f_L_settings_b407 v1_state xs L (mug 4 0 + 1) v3_rungs r4 v5_total v5_phases r6 r7 r8 v9_rungs r10 l4 l5 0
    else
      grd (vin l7 3) <|
      obnd5 (f_L_rung v1_state v3_most v3_rungs r4 v9_most v9_rungs r10 1 (1 + (10 * l7))) fun (y4 : Int32) (y5 : Int32) (u6 : Nat → Int32) (y7 : Int32) (u8 : Nat → Int32) =>
      f_L_settings_b362 v1_state v3_most v9_most xs L n y5 u6 v5_total v5_phases r6 r7 r8 y7 u8 l4 (l5 + (y4 - l7)) (l7 + 1)
def f_L_settings_b301 (v1_state v3_most v9_most : Int32) (xs : Nat → Int32) (L : Nat) : Nat → Int32 → (Nat → Int32) → Int32 → Int32 → (Nat → Int32) → (Nat → Int32) → (Nat → Int32) → Int32 → (Nat → Int32) → Int32 → Int32 → Int32 → Int32 → Option (Int32 × Int32 × (Nat → Int32) × Int32 × Int32 × (Nat → Int32) × (Nat → Int32) × (Nat → Int32) × Int32 × (Nat → Int32))
  | 0, _, _, _, _, _, _, _, _, _, _, _, _, _ => none
  | n + 1, v3_rungs, r4, v5_total, v5_phases, r6, r7, r8, v9_rungs, r10, l4, l5, l6, l7 =>
    obnd (f_L_cell xs L 3) fun (y1 : Int32) =>
    obnd (f_L_up y1 6) fun (y2 : Int32) =>
    if (1 + y2) ≤ l7 then
      f_L_settings_b362 v1_state v3_most v9_most xs L (mug 3 0 + 1) v3_rungs r4 v5_total v5_phases r6 r7 r8 v9_rungs r10 l4 l5 0
    else
      grd (vin l7 6) <|
      obnd (f_L_cell xs L (4 + l7)) fun (y4 : Int32) =>
      obnd (f_L_up y4 60) fun (y5 : Int32) =>
      obnd5 (f_L_rung v1_state v3_most v3_rungs r4 v9_most v9_rungs r10 0 (l6 + (1 + y5))) fun (y6 : Int32) (y7 : Int32) (u8 : Nat → Int32) (y9 : Int32) (u10 : Nat → Int32) =>
      f_L_settings_b301 v1_state v3_most v9_most xs L n y7 u8 v5_total v5_phases r6 r7 r8 y9 u10 l4 (l5 + (y6 - l7)) (l6 + (1 + y5)) (l7 + 1)
def f_L_settings_b224 (v1_state v3_most v9_most : Int32) (xs : Nat → Int32) (L : Nat) (v3_rungs : Int32) (r4 : Nat → Int32) (v5_total v5_phases : Int32) (r6 r7 r8 : Nat → Int32) (v9_rungs : Int32) (r10 : Nat → Int32) (l3 l4 s0 s1 s3 s4 : Int32) : Option (Int32 × Int32 × (Nat → Int32) × Int32 × Int32 × (Nat → Int32) × (Nat → Int32) × (Nat → Int32) × Int32 × (Nat → Int32)) :=
  obnd2 (f_L_set v1_state r8 s3 s4) fun (y1 : Int32) (u2 : Nat → Int32) =>
  obnd (f_L_up (l3 >>> (8 &&& 31)) 9000) fun (y3 : Int32) =>
  obnd2 (f_L_set v1_state u2 14 y3) fun (y4 : Int32) (u5 : Nat → Int32) =>
  obnd (f_L_up (l3 >>> (4 &&& 31)) 20000) fun (y6 : Int32) =>
  obnd2 (f_L_set v1_state u5 7 (4000 + y6)) fun (y7 : Int32) (u8 : Nat → Int32) =>
  obnd (f_L_up (l3 >>> (20 &&& 31)) 10) fun (y9 : Int32) =>
  obnd2 (f_L_set v1_state u8 8 (1 + y9)) fun (y10 : Int32) (u11 : Nat → Int32) =>
  bnd (s0 + (((((((s1 + y1) + y4) - 60000) + y7) - 20000) + y10) - 3)) fun (y12 : Int32) =>
  f_L_settings_b301 v1_state v3_most v9_most xs L (mug 6 0 + 1) v3_rungs r4 v5_total v5_phases r6 r7 u11 v9_rungs r10 l4 y12 0 0
def f_L_settings (v1_state v3_most v3_rungs : Int32) (r4 : Nat → Int32) (v5_total v5_phases : Int32) (r6 r7 r8 : Nat → Int32) (v9_most v9_rungs : Int32) (r10 xs : Nat → Int32) (L : Nat) : Option (Int32 × Int32 × (Nat → Int32) × Int32 × Int32 × (Nat → Int32) × (Nat → Int32) × (Nat → Int32) × Int32 × (Nat → Int32)) :=
  obnd (f_L_cell xs L 0) fun (y1 : Int32) =>
  obnd (f_L_cell xs L 1) fun (y2 : Int32) =>
  obnd (f_L_up y1 2000) fun (y3 : Int32) =>
  obnd2 (f_L_set v1_state r8 0 (100 + y3)) fun (y4 : Int32) (u5 : Nat → Int32) =>
  obnd (f_L_up (y1 >>> (11 &&& 31)) 40) fun (y6 : Int32) =>
  obnd2 (f_L_set v1_state u5 1 (1 + y6)) fun (y7 : Int32) (u8 : Nat → Int32) =>
  obnd (f_L_up (y1 >>> (17 &&& 31)) 300) fun (y9 : Int32) =>
  obnd2 (f_L_set v1_state u8 2 y9) fun (y10 : Int32) (u11 : Nat → Int32) =>
  obnd (f_L_up y2 6000) fun (y12 : Int32) =>
  obnd2 (f_L_set v1_state u11 3 y12) fun (y13 : Int32) (u14 : Nat → Int32) =>
  obnd (f_L_up (y2 >>> (7 &&& 31)) 6000) fun (y15 : Int32) =>
  obnd2 (f_L_set v1_state u14 4 y15) fun (y16 : Int32) (u17 : Nat → Int32) =>
  bnd (((((((((y4 - 2000) + y7) - 30) + y10) - 50) + y13) - 2000) + y16) - 2000) fun (y18 : Int32) =>
  obnd (f_L_up (y2 >>> (14 &&& 31)) 3) fun (y19 : Int32) =>
  obnd2 (f_L_set v1_state u17 12 y19) fun (y20 : Int32) (u21 : Nat → Int32) =>
  obnd (f_L_up (y2 >>> (16 &&& 31)) 91) fun (y22 : Int32) =>
  obnd2 (f_L_set v1_state u21 9 (10 + y22)) fun (y23 : Int32) (u24 : Nat → Int32) =>
  obnd (f_L_up (y2 >>> (20 &&& 31)) 1000) fun (y25 : Int32) =>
  obnd2 (f_L_set v1_state u24 11 y25) fun (y26 : Int32) (u27 : Nat → Int32) =>
  bnd (y18 + (((((y20 - 2) + y23) - 80) + y26) - 500)) fun (y28 : Int32) =>
  obnd (f_L_cell xs L 2) fun (y29 : Int32) =>
  obnd (f_L_up y29 6000) fun (y30 : Int32) =>
  obnd2 (f_L_set v1_state u27 10 y30) fun (y31 : Int32) (u32 : Nat → Int32) =>
  if ((y29 >>> (13 &&& 31)) &&& 3) = 0 then
    obnd (f_L_up (y29 >>> (15 &&& 31)) 8000) fun (y34 : Int32) =>
    f_L_settings_b224 v1_state v3_most v9_most xs L v3_rungs r4 v5_total v5_phases r6 r7 u32 v9_rungs r10 y29 (100 + y3) y28 y31 13 y34
  else
    f_L_settings_b224 v1_state v3_most v9_most xs L v3_rungs r4 v5_total v5_phases r6 r7 u32 v9_rungs r10 y29 (100 + y3) y28 y31 13 0
set_option maxHeartbeats 4000000 in
set_option maxRecDepth 100000 in
theorem k_L_settings_b407 {p : Program} {l : Launch} {e : Env} {s : State} {m : MethodId} {args : Array Value} {below : List Frame} {meth : Method} {c : Code} {D : va_G} {cI cJ cC : ClassId} {A : Nat → Prop} {ga : Nat → Nat} {b L : Nat} {xs : Nat → Int32} {h0 h1 h2 h3 h4 h5 h6 h7 h8 h9 h10 kp0_scratch kp0_session_video kp0_session_audio kp0_session_samples kp0_session_download kp0_session_accounts kp0_session_line : Nat} {v1_mode v1_startThreshold v1_lastRung v1_lastChange v1_state v1_time v1_position v3_most v9_most : Int32} {T : Int32 × Int32 × (Nat → Int32) × Int32 × Int32 × (Nat → Int32) × (Nat → Int32) × (Nat → Int32) × Int32 × (Nat → Int32)} (hfl : l.stackTraces = false) (S : CallFix p m c cL_settings 8 s args TB RL) (hr : meth.sig.returnType = (some .int)) (hlk : meth.locks = false) (hK : va_K D vwCl (ty3 cI cJ cC) s) (hA : ∀ q : Nat, s.heap.size ≤ q → A q) (hG : GX ga A s) (hX : va_X b L xs s s.heap) (hbl : b < s.heap.size) (hbA : ¬ A b) : ∀ (n : Nat) (v3_rungs : Int32) (r4 : Nat → Int32) (v5_total v5_phases : Int32) (r6 r7 r8 : Nat → Int32) (v9_rungs : Int32) (r10 : Nat → Int32) (l4 l5 l7 : Int32) (cells slots : Nat) (H : Heap) (locs : List Loc) (ls : Array Slot), mug 4 l7 < n → cells + 4 * mug 4 l7 ≤ 91 → slots + 24 * mug 4 l7 ≤ 546 → f_L_settings_b407 v1_state xs L n v3_rungs r4 v5_total v5_phases r6 r7 r8 v9_rungs r10 l4 l5 l7 = some T → va_P D vwCl [(h0, .inr (9, [.ref h2, .ref h1, .ref kp0_scratch])), (h1, .inr (6, [.ref h2, .ref kp0_session_video, .ref kp0_session_audio, .ref kp0_session_samples, .ref kp0_session_download, .ref kp0_session_accounts, .ref kp0_session_line, .int v1_mode, .int v1_startThreshold, .int v1_lastRung, .int v1_lastChange, .int v1_state, .int v1_time, .int v1_position])), (h2, .inr (8, [.ref h8, .ref h9, .ref h3, .ref h5])), (h3, .inr (2, [.ref h4, .int v3_most, .int v3_rungs])), (h4, .inl (cI, 6, .inl r4)), (h5, .inr (4, [.ref h6, .ref h7, .int v5_total, .int v5_phases])), (h6, .inl (cI, 20, .inl r6)), (h7, .inl (cI, 20, .inl r7)), (h8, .inl (cI, 15, .inl r8)), (h9, .inr (2, [.ref h10, .int v9_most, .int v9_rungs])), (h10, .inl (cI, 6, .inl r10))] H → va_D A [(h0, .inr (9, [.ref h2, .ref h1, .ref kp0_scratch])), (h1, .inr (6, [.ref h2, .ref kp0_session_video, .ref kp0_session_audio, .ref kp0_session_samples, .ref kp0_session_download, .ref kp0_session_accounts, .ref kp0_session_line, .int v1_mode, .int v1_startThreshold, .int v1_lastRung, .int v1_lastChange, .int v1_state, .int v1_time, .int v1_position])), (h2, .inr (8, [.ref h8, .ref h9, .ref h3, .ref h5])), (h3, .inr (2, [.ref h4, .int v3_most, .int v3_rungs])), (h4, .inl (cI, 6, .inl r4)), (h5, .inr (4, [.ref h6, .ref h7, .int v5_total, .int v5_phases])), (h6, .inl (cI, 20, .inl r6)), (h7, .inl (cI, 20, .inl r7)), (h8, .inl (cI, 15, .inl r8)), (h9, .inr (2, [.ref h10, .int v9_most, .int v9_rungs])), (h10, .inl (cI, 6, .inl r10))] → va_S A s.heap H locs → lv_has ls 8 [(0, .ref h0), (1, .ref b), (4, .int l4), (5, .int l5), (7, .int l7)] → W p l e rm_L_settings s m args below meth c H locs cells slots (MQ below (QW (some (.int T.1)) D [(h0, .inr (9, [.ref h2, .ref h1, .ref kp0_scratch])), (h1, .inr (6, [.ref h2, .ref kp0_session_video, .ref kp0_session_audio, .ref kp0_session_samples, .ref kp0_session_download, .ref kp0_session_accounts, .ref kp0_session_line, .int v1_mode, .int v1_startThreshold, .int v1_lastRung, .int v1_lastChange, .int v1_state, .int v1_time, .int v1_position])), (h2, .inr (8, [.ref h8, .ref h9, .ref h3, .ref h5])), (h3, .inr (2, [.ref h4, .int v3_most, .int T.2.1])), (h4, .inl (cI, 6, .inl T.2.2.1)), (h5, .inr (4, [.ref h6, .ref h7, .int T.2.2.2.1, .int T.2.2.2.2.1])), (h6, .inl (cI, 20, .inl T.2.2.2.2.2.1)), (h7, .inl (cI, 20, .inl T.2.2.2.2.2.2.1)), (h8, .inl (cI, 15, .inl T.2.2.2.2.2.2.2.1)), (h9, .inr (2, [.ref h10, .int v9_most, .int T.2.2.2.2.2.2.2.2.1])), (h10, .inl (cI, 6, .inl T.2.2.2.2.2.2.2.2.2))] A) args s 91 546 A) (F0 m 407 ls []) := by
  have hx := S.1
  have hb := S.2.1
  intro n
  induction n with
  | zero => intro v3_rungs r4 v5_total v5_phases r6 r7 r8 v9_rungs r10 l4 l5 l7 cells slots H locs ls hmu; exact absurd hmu (Nat.not_lt_zero _)
  | succ n ih =>
    intro v3_rungs r4 v5_total v5_phases r6 r7 r8 v9_rungs r10 l4 l5 l7 cells slots H locs ls hmu hcc hcs h hP hD hS hl
    refine lv_iload hx hb dL_settings_407 (lv_at hl 4 rfl) ?_
    refine lv_iconst (v := 1) hx hb dL_settings_409 li_1 ?_
    refine lv_aload_n hx hb dL_settings_410 rfl (lv_at hl 1 rfl) ?_
    refine lv_iconst (v := 3) hx hb dL_settings_411 li_3 ?_
    obtain ⟨y1, e_y1, h⟩ := obnd_eq h
    refine ccS (pc1 := 415) (rest := [.int 1, .int l7]) (st1 := [.int y1, .int 1, .int l7]) hX hbl hbA hS S (c_L_cell l b L xs 3 y1 e_y1) (cw_L_71 S.2.2.2.2 ⟨Nat.le_of_ble_eq_true rfl, Nat.le_of_ble_eq_true rfl⟩) rfl hl.1 rfl (Nat.le_of_ble_eq_true rfl) (lwf_L_settings (by omega) (by omega)) rfl rfl dL_settings_412 ?_
    refine lv_bipush (v := 8) hx hb dL_settings_415 lb_8 ?_
    refine lv_ishr hx hb dL_settings_417 ?_
    refine lv_iconst (v := 4) hx hb dL_settings_418 li_4 ?_
    obtain ⟨y2, e_y2, h⟩ := obnd_eq h
    refine rdS (pc1 := 422) (rest := [.int 1, .int l7]) (st1 := [.int y2, .int 1, .int l7]) S (c_L_up l D cI cJ cC  (y1 >>> (8 &&& 31)) 4 y2 e_y2) (cw_L_75 S.2.2.2.2 ⟨Nat.le_of_ble_eq_true rfl, Nat.le_of_ble_eq_true rfl⟩) hK (hP.sub [] rfl) rfl hl.1 rfl (Nat.le_of_ble_eq_true rfl) (lwf_L_settings (by omega) (by omega)) rfl rfl dL_settings_419 ?_
    refine lv_iadd hx hb dL_settings_422 ?_
    refine lv_icmp_ge (tgt := 481) hx hb dL_settings_423 (by decide) (fun c3 => ?_) (fun c3 => ?_)
    · have h := iteP c3 h
      refine lv_iload hx hb dL_settings_481 (lv_at hl 3 rfl) ?_
      refine lv_if_ne (tgt := 491) hx hb dL_settings_483 (by decide) (fun c4 => ?_) (fun c4 => ?_)
      · have h := iteN c4 h
        refine lv_iconst (v := (-1)) hx hb dL_settings_491 li_m1 ?_
        have h := Option.some.inj h
        subst h
        exact lRi S hr hlk (by omega) (by omega) (hP.sub [0, 1, 2, 3, 4, 5, 6, 7, 8, 9, 10] rfl) (hD.sub [0, 1, 2, 3, 4, 5, 6, 7, 8, 9, 10] (by decide) rfl) hS dL_settings_492
      · have h := iteP c4 h
        refine lv_iload hx hb dL_settings_486 (lv_at hl 2 rfl) ?_
        refine lv_goto (tgt := 492) hx hb dL_settings_488 (by decide) ?_
        have h := Option.some.inj h
        subst h
        exact lRi S hr hlk (by omega) (by omega) (hP.sub [0, 1, 2, 3, 4, 5, 6, 7, 8, 9, 10] rfl) (hD.sub [0, 1, 2, 3, 4, 5, 6, 7, 8, 9, 10] (by decide) rfl) hS dL_settings_492
    · have h := iteN c3 h
      obtain ⟨g9, h⟩ := grd_eq h
      obtain ⟨hm1, hm2⟩ := mug_step g9 (by decide) hmu
      refine lv_iload hx hb dL_settings_426 (lv_at hl 3 rfl) ?_
      refine lv_aload_n hx hb dL_settings_428 rfl (lv_at hl 0 rfl) ?_
      refine lv_iconst (v := 1) hx hb dL_settings_429 li_1 ?_
      refine lv_aload_n hx hb dL_settings_430 rfl (lv_at hl 1 rfl) ?_
      refine lv_bipush (v := 10) hx hb dL_settings_431 lb_10 ?_
      refine lv_iload hx hb dL_settings_433 (lv_at hl 4 rfl) ?_
      refine lv_iadd hx hb dL_settings_435 ?_
      obtain ⟨y5, e_y5, h⟩ := obnd_eq h
      refine ccS (pc1 := 439) (rest := [.int 1, .ref h0, .int l5]) (st1 := [.int y5, .int 1, .ref h0, .int l5]) hX hbl hbA hS S (c_L_cell l b L xs (10 + l7) y5 e_y5) (cw_L_71 S.2.2.2.2 ⟨Nat.le_of_ble_eq_true rfl, Nat.le_of_ble_eq_true rfl⟩) rfl hl.1 rfl (Nat.le_of_ble_eq_true rfl) (lwf_L_settings (by omega) (by omega)) rfl rfl dL_settings_436 ?_
      refine lv_sipush (v := 4000) hx hb dL_settings_439 ls_4000 ?_
      obtain ⟨y6, e_y6, h⟩ := obnd_eq h
      refine rdS (pc1 := 445) (rest := [.int 1, .ref h0, .int l5]) (st1 := [.int y6, .int 1, .ref h0, .int l5]) S (c_L_up l D cI cJ cC  y5 4000 y6 e_y6) (cw_L_75 S.2.2.2.2 ⟨Nat.le_of_ble_eq_true rfl, Nat.le_of_ble_eq_true rfl⟩) hK (hP.sub [] rfl) rfl hl.1 rfl (Nat.le_of_ble_eq_true rfl) (lwf_L_settings (by omega) (by omega)) rfl rfl dL_settings_442 ?_
      refine lv_iadd hx hb dL_settings_445 ?_
      refine lv_aload_n hx hb dL_settings_446 rfl (lv_at hl 1 rfl) ?_
      refine lv_bipush (v := 10) hx hb dL_settings_447 lb_10 ?_
      refine lv_iload hx hb dL_settings_449 (lv_at hl 4 rfl) ?_
      refine lv_iadd hx hb dL_settings_451 ?_
      obtain ⟨y7, e_y7, h⟩ := obnd_eq h
      refine ccS (pc1 := 455) (rest := [.int (1 + y6), .ref h0, .int l5]) (st1 := [.int y7, .int (1 + y6), .ref h0, .int l5]) hX hbl hbA hS S (c_L_cell l b L xs (10 + l7) y7 e_y7) (cw_L_71 S.2.2.2.2 ⟨Nat.le_of_ble_eq_true rfl, Nat.le_of_ble_eq_true rfl⟩) rfl hl.1 rfl (Nat.le_of_ble_eq_true rfl) (lwf_L_settings (by omega) (by omega)) rfl rfl dL_settings_452 ?_
      refine lv_bipush (v := 12) hx hb dL_settings_455 lb_12 ?_
      refine lv_ishr hx hb dL_settings_457 ?_
      refine lv_sipush (v := 300) hx hb dL_settings_458 ls_300 ?_
      obtain ⟨y8, e_y8, h⟩ := obnd_eq h
      refine rdS (pc1 := 464) (rest := [.int (1 + y6), .ref h0, .int l5]) (st1 := [.int y8, .int (1 + y6), .ref h0, .int l5]) S (c_L_up l D cI cJ cC  (y7 >>> (12 &&& 31)) 300 y8 e_y8) (cw_L_75 S.2.2.2.2 ⟨Nat.le_of_ble_eq_true rfl, Nat.le_of_ble_eq_true rfl⟩) hK (hP.sub [] rfl) rfl hl.1 rfl (Nat.le_of_ble_eq_true rfl) (lwf_L_settings (by omega) (by omega)) rfl rfl dL_settings_461 ?_
      obtain ⟨k9, y10, y11, y12, u13, u14, e_k9⟩ : ∃ a0 a1 a2 a3 a4 a5, f_X9_addPhase v1_state v5_total v5_phases r6 r7 (1 + y6) y8 = (a0, a1, a2, a3, a4, a5) := ⟨_, _, _, _, _, _, rfl⟩
      have h := bnd6_eq e_k9 h
      refine xcV (pc1 := 467) (rest := [.int l5]) (st1 := [.int y10, .int l5]) (wr := [(h3, .inr (2, [.ref h4, .int v3_most, .int v3_rungs])), (h4, .inl (cI, 6, .inl r4)), (h8, .inl (cI, 15, .inl r8)), (h9, .inr (2, [.ref h10, .int v9_most, .int v9_rungs])), (h10, .inl (cI, 6, .inl r10))]) (cells1 := cells + 4) (slots1 := slots + 24) S (c_X9_addPhase l hfl ga D cI cJ cC h0 h1 h2 h5 h6 h7 kp0_scratch kp0_session_video kp0_session_audio kp0_session_samples kp0_session_download kp0_session_accounts kp0_session_line h8 h9 h3 v1_mode v1_startThreshold v1_lastRung v1_lastChange v1_state v1_time v1_position v5_total v5_phases r6 r7 H.size (1 + y6) y8 (k9, y10, y11, y12, u13, u14) e_k9) (cw_L_79 S.2.2.2.2 ⟨Nat.le_of_ble_eq_true rfl, Nat.le_of_ble_eq_true rfl⟩) hK hP hD hS hA hG [0, 1, 2, 5, 6, 7] [3, 4, 8, 9, 10] rfl rfl rfl (by decide) (by decide) (by decide) rfl rfl rfl rfl hl.1 rfl (Nat.le_of_ble_eq_true rfl) (lwf_L_settings (by omega) (by omega)) rfl rfl rfl rfl dL_settings_464 (fun c15 H locs ce q9 hP hD hS hce hcv hcl => ?_) (fun c15 H locs hP hD hS => ?_)
      · have h := iteN c15 h
        cases h
      · have h := iteP c15 h
        have hP : va_P D vwCl [(h3, .inr (2, [.ref h4, .int v3_most, .int v3_rungs])), (h4, .inl (cI, 6, .inl r4)), (h8, .inl (cI, 15, .inl r8)), (h9, .inr (2, [.ref h10, .int v9_most, .int v9_rungs])), (h10, .inl (cI, 6, .inl r10)), (h0, .inr (9, [.ref h2, .ref h1, .ref kp0_scratch])), (h1, .inr (6, [.ref h2, .ref kp0_session_video, .ref kp0_session_audio, .ref kp0_session_samples, .ref kp0_session_download, .ref kp0_session_accounts, .ref kp0_session_line, .int v1_mode, .int v1_startThreshold, .int v1_lastRung, .int v1_lastChange, .int v1_state, .int v1_time, .int v1_position])), (h2, .inr (8, [.ref h8, .ref h9, .ref h3, .ref h5])), (h5, .inr (4, [.ref h6, .ref h7, .int y11, .int y12])), (h6, .inl (cI, 20, .inl u13)), (h7, .inl (cI, 20, .inl u14))] H := hP
        have hD : va_D A [(h3, .inr (2, [.ref h4, .int v3_most, .int v3_rungs])), (h4, .inl (cI, 6, .inl r4)), (h8, .inl (cI, 15, .inl r8)), (h9, .inr (2, [.ref h10, .int v9_most, .int v9_rungs])), (h10, .inl (cI, 6, .inl r10)), (h0, .inr (9, [.ref h2, .ref h1, .ref kp0_scratch])), (h1, .inr (6, [.ref h2, .ref kp0_session_video, .ref kp0_session_audio, .ref kp0_session_samples, .ref kp0_session_download, .ref kp0_session_accounts, .ref kp0_session_line, .int v1_mode, .int v1_startThreshold, .int v1_lastRung, .int v1_lastChange, .int v1_state, .int v1_time, .int v1_position])), (h2, .inr (8, [.ref h8, .ref h9, .ref h3, .ref h5])), (h5, .inr (4, [.ref h6, .ref h7, .int y11, .int y12])), (h6, .inl (cI, 20, .inl u13)), (h7, .inl (cI, 20, .inl u14))] := hD
        refine lv_iload hx hb dL_settings_467 (lv_at hl 4 rfl) ?_
        refine lv_isub hx hb dL_settings_469 ?_
        refine lv_iconst (v := 1) hx hb dL_settings_470 li_1 ?_
        refine lv_isub hx hb dL_settings_471 ?_
        refine lv_iadd hx hb dL_settings_472 ?_
        refine lv_istore (lv' := [(5, .int (l5 + ((y10 - l7) - 1))), (0, .ref h0), (1, .ref b), (4, .int l4), (7, .int l7)]) hx hb dL_settings_473 hl (by decide) rfl (fun ls hl => ?_)
        refine lv_iinc (v := l7 + 1) (lv' := [(7, .int (l7 + 1)), (5, .int (l5 + ((y10 - l7) - 1))), (0, .ref h0), (1, .ref b), (4, .int l4)]) hx hb dL_settings_475 hl (k := 4) rfl rfl (by decide) rfl (fun ls hl => ?_)
        refine lv_goto (tgt := 407) hx hb dL_settings_478 (by decide) ?_
        exact ih v3_rungs r4 y11 y12 u13 u14 r8 v9_rungs r10 l4 (l5 + ((y10 - l7) - 1)) (l7 + 1) (cells + 4) (slots + 24) _ _ _ hm1 (by omega) (by omega) h (hP.sub [5, 6, 7, 0, 1, 8, 9, 10, 2, 3, 4] rfl) (hD.sub [5, 6, 7, 0, 1, 8, 9, 10, 2, 3, 4] (by decide) rfl) hS (lv_sub hl [2, 3, 4, 1, 0] rfl)
set_option maxHeartbeats 4000000 in
set_option maxRecDepth 100000 in
theorem k_L_settings_b362 {p : Program} {l : Launch} {e : Env} {s : State} {m : MethodId} {args : Array Value} {below : List Frame} {meth : Method} {c : Code} {D : va_G} {cI cJ cC : ClassId} {A : Nat → Prop} {ga : Nat → Nat} {b L : Nat} {xs : Nat → Int32} {h0 h1 h2 h3 h4 h5 h6 h7 h8 h9 h10 kp0_scratch kp0_session_video kp0_session_audio kp0_session_samples kp0_session_download kp0_session_accounts kp0_session_line : Nat} {v1_mode v1_startThreshold v1_lastRung v1_lastChange v1_state v1_time v1_position v3_most v9_most : Int32} {T : Int32 × Int32 × (Nat → Int32) × Int32 × Int32 × (Nat → Int32) × (Nat → Int32) × (Nat → Int32) × Int32 × (Nat → Int32)} (hfl : l.stackTraces = false) (S : CallFix p m c cL_settings 8 s args TB RL) (hr : meth.sig.returnType = (some .int)) (hlk : meth.locks = false) (hK : va_K D vwCl (ty3 cI cJ cC) s) (hA : ∀ q : Nat, s.heap.size ≤ q → A q) (hG : GX ga A s) (hX : va_X b L xs s s.heap) (hbl : b < s.heap.size) (hbA : ¬ A b) : ∀ (n : Nat) (v3_rungs : Int32) (r4 : Nat → Int32) (v5_total v5_phases : Int32) (r6 r7 r8 : Nat → Int32) (v9_rungs : Int32) (r10 : Nat → Int32) (l4 l5 l7 : Int32) (cells slots : Nat) (H : Heap) (locs : List Loc) (ls : Array Slot), mug 3 l7 < n → cells + 4 * mug 3 l7 ≤ 75 → slots + 24 * mug 3 l7 ≤ 450 → f_L_settings_b362 v1_state v3_most v9_most xs L n v3_rungs r4 v5_total v5_phases r6 r7 r8 v9_rungs r10 l4 l5 l7 = some T → va_P D vwCl [(h0, .inr (9, [.ref h2, .ref h1, .ref kp0_scratch])), (h1, .inr (6, [.ref h2, .ref kp0_session_video, .ref kp0_session_audio, .ref kp0_session_samples, .ref kp0_session_download, .ref kp0_session_accounts, .ref kp0_session_line, .int v1_mode, .int v1_startThreshold, .int v1_lastRung, .int v1_lastChange, .int v1_state, .int v1_time, .int v1_position])), (h2, .inr (8, [.ref h8, .ref h9, .ref h3, .ref h5])), (h3, .inr (2, [.ref h4, .int v3_most, .int v3_rungs])), (h4, .inl (cI, 6, .inl r4)), (h5, .inr (4, [.ref h6, .ref h7, .int v5_total, .int v5_phases])), (h6, .inl (cI, 20, .inl r6)), (h7, .inl (cI, 20, .inl r7)), (h8, .inl (cI, 15, .inl r8)), (h9, .inr (2, [.ref h10, .int v9_most, .int v9_rungs])), (h10, .inl (cI, 6, .inl r10))] H → va_D A [(h0, .inr (9, [.ref h2, .ref h1, .ref kp0_scratch])), (h1, .inr (6, [.ref h2, .ref kp0_session_video, .ref kp0_session_audio, .ref kp0_session_samples, .ref kp0_session_download, .ref kp0_session_accounts, .ref kp0_session_line, .int v1_mode, .int v1_startThreshold, .int v1_lastRung, .int v1_lastChange, .int v1_state, .int v1_time, .int v1_position])), (h2, .inr (8, [.ref h8, .ref h9, .ref h3, .ref h5])), (h3, .inr (2, [.ref h4, .int v3_most, .int v3_rungs])), (h4, .inl (cI, 6, .inl r4)), (h5, .inr (4, [.ref h6, .ref h7, .int v5_total, .int v5_phases])), (h6, .inl (cI, 20, .inl r6)), (h7, .inl (cI, 20, .inl r7)), (h8, .inl (cI, 15, .inl r8)), (h9, .inr (2, [.ref h10, .int v9_most, .int v9_rungs])), (h10, .inl (cI, 6, .inl r10))] → va_S A s.heap H locs → lv_has ls 8 [(0, .ref h0), (1, .ref b), (4, .int l4), (5, .int l5), (7, .int l7)] → W p l e rm_L_settings s m args below meth c H locs cells slots (MQ below (QW (some (.int T.1)) D [(h0, .inr (9, [.ref h2, .ref h1, .ref kp0_scratch])), (h1, .inr (6, [.ref h2, .ref kp0_session_video, .ref kp0_session_audio, .ref kp0_session_samples, .ref kp0_session_download, .ref kp0_session_accounts, .ref kp0_session_line, .int v1_mode, .int v1_startThreshold, .int v1_lastRung, .int v1_lastChange, .int v1_state, .int v1_time, .int v1_position])), (h2, .inr (8, [.ref h8, .ref h9, .ref h3, .ref h5])), (h3, .inr (2, [.ref h4, .int v3_most, .int T.2.1])), (h4, .inl (cI, 6, .inl T.2.2.1)), (h5, .inr (4, [.ref h6, .ref h7, .int T.2.2.2.1, .int T.2.2.2.2.1])), (h6, .inl (cI, 20, .inl T.2.2.2.2.2.1)), (h7, .inl (cI, 20, .inl T.2.2.2.2.2.2.1)), (h8, .inl (cI, 15, .inl T.2.2.2.2.2.2.2.1)), (h9, .inr (2, [.ref h10, .int v9_most, .int T.2.2.2.2.2.2.2.2.1])), (h10, .inl (cI, 6, .inl T.2.2.2.2.2.2.2.2.2))] A) args s 91 546 A) (F0 m 362 ls []) := by
  have hx := S.1
  have hb := S.2.1
  intro n
  induction n with
  | zero => intro v3_rungs r4 v5_total v5_phases r6 r7 r8 v9_rungs r10 l4 l5 l7 cells slots H locs ls hmu; exact absurd hmu (Nat.not_lt_zero _)
  | succ n ih =>
    intro v3_rungs r4 v5_total v5_phases r6 r7 r8 v9_rungs r10 l4 l5 l7 cells slots H locs ls hmu hcc hcs h hP hD hS hl
    refine lv_iload hx hb dL_settings_362 (lv_at hl 4 rfl) ?_
    refine lv_aload_n hx hb dL_settings_364 rfl (lv_at hl 1 rfl) ?_
    refine lv_iconst (v := 3) hx hb dL_settings_365 li_3 ?_
    obtain ⟨y1, e_y1, h⟩ := obnd_eq h
    refine ccS (pc1 := 369) (rest := [.int l7]) (st1 := [.int y1, .int l7]) hX hbl hbA hS S (c_L_cell l b L xs 3 y1 e_y1) (cw_L_71 S.2.2.2.2 ⟨Nat.le_of_ble_eq_true rfl, Nat.le_of_ble_eq_true rfl⟩) rfl hl.1 rfl (Nat.le_of_ble_eq_true rfl) (lwf_L_settings (by omega) (by omega)) rfl rfl dL_settings_366 ?_
    refine lv_iconst (v := 4) hx hb dL_settings_369 li_4 ?_
    refine lv_ishr hx hb dL_settings_370 ?_
    refine lv_iconst (v := 4) hx hb dL_settings_371 li_4 ?_
    obtain ⟨y2, e_y2, h⟩ := obnd_eq h
    refine rdS (pc1 := 375) (rest := [.int l7]) (st1 := [.int y2, .int l7]) S (c_L_up l D cI cJ cC  (y1 >>> (4 &&& 31)) 4 y2 e_y2) (cw_L_75 S.2.2.2.2 ⟨Nat.le_of_ble_eq_true rfl, Nat.le_of_ble_eq_true rfl⟩) hK (hP.sub [] rfl) rfl hl.1 rfl (Nat.le_of_ble_eq_true rfl) (lwf_L_settings (by omega) (by omega)) rfl rfl dL_settings_372 ?_
    refine lv_icmp_ge (tgt := 404) hx hb dL_settings_375 (by decide) (fun c3 => ?_) (fun c3 => ?_)
    · have h := iteP c3 h
      refine lv_iconst (v := 0) hx hb dL_settings_404 li_0 ?_
      refine lv_istore (lv' := [(7, .int 0), (0, .ref h0), (1, .ref b), (4, .int l4), (5, .int l5)]) hx hb dL_settings_405 hl (by decide) rfl (fun ls hl => ?_)
      have hm0 : mug 4 0 = 4 := rfl
      exact k_L_settings_b407 hfl S hr hlk hK hA hG hX hbl hbA _ v3_rungs r4 v5_total v5_phases r6 r7 r8 v9_rungs r10 l4 l5 0 cells slots _ _ _ (Nat.lt_succ_self _) (by rw [hm0]; omega) (by rw [hm0]; omega) h (hP.sub [0, 1, 2, 3, 4, 5, 6, 7, 8, 9, 10] rfl) (hD.sub [0, 1, 2, 3, 4, 5, 6, 7, 8, 9, 10] (by decide) rfl) hS (lv_sub hl [1, 2, 3, 4, 0] rfl)
    · have h := iteN c3 h
      obtain ⟨g9, h⟩ := grd_eq h
      obtain ⟨hm1, hm2⟩ := mug_step g9 (by decide) hmu
      refine lv_iload hx hb dL_settings_378 (lv_at hl 3 rfl) ?_
      refine lv_aload_n hx hb dL_settings_380 rfl (lv_at hl 0 rfl) ?_
      refine lv_iconst (v := 1) hx hb dL_settings_381 li_1 ?_
      refine lv_iconst (v := 1) hx hb dL_settings_382 li_1 ?_
      refine lv_bipush (v := 10) hx hb dL_settings_383 lb_10 ?_
      refine lv_iload hx hb dL_settings_385 (lv_at hl 4 rfl) ?_
      refine lv_imul hx hb dL_settings_387 ?_
      refine lv_iadd hx hb dL_settings_388 ?_
      obtain ⟨y4, y5, u6, y7, u8, e_y4, h⟩ := obnd5_eq h
      refine lcS (pc1 := 392) (rest := [.int l5]) (st1 := [.int y4, .int l5]) (wr := [(h5, .inr (4, [.ref h6, .ref h7, .int v5_total, .int v5_phases])), (h6, .inl (cI, 20, .inl r6)), (h7, .inl (cI, 20, .inl r7)), (h8, .inl (cI, 15, .inl r8))]) (cells1 := cells + 4) (slots1 := slots + 24) S (c_L_rung l hfl ga D cI cJ cC h0 h1 h2 h3 h4 h9 h10 kp0_scratch kp0_session_video kp0_session_audio kp0_session_samples kp0_session_download kp0_session_accounts kp0_session_line h8 h5 v1_mode v1_startThreshold v1_lastRung v1_lastChange v1_state v1_time v1_position v3_most v3_rungs r4 v9_most v9_rungs r10 H.size 1 (1 + (10 * l7)) (y4, y5, u6, y7, u8) e_y4) (cw_L_56 S.2.2.2.2 ⟨Nat.le_of_ble_eq_true rfl, Nat.le_of_ble_eq_true rfl⟩) hK hP hD hS hA hG [0, 1, 2, 3, 4, 9, 10] [5, 6, 7, 8] rfl rfl rfl (by decide) (by decide) (by decide) rfl hl.1 rfl (Nat.le_of_ble_eq_true rfl) (lwf_L_settings (by omega) (by omega)) rfl rfl rfl rfl dL_settings_389 (fun H locs hP hD hS => ?_)
      have hP : va_P D vwCl [(h5, .inr (4, [.ref h6, .ref h7, .int v5_total, .int v5_phases])), (h6, .inl (cI, 20, .inl r6)), (h7, .inl (cI, 20, .inl r7)), (h8, .inl (cI, 15, .inl r8)), (h0, .inr (9, [.ref h2, .ref h1, .ref kp0_scratch])), (h1, .inr (6, [.ref h2, .ref kp0_session_video, .ref kp0_session_audio, .ref kp0_session_samples, .ref kp0_session_download, .ref kp0_session_accounts, .ref kp0_session_line, .int v1_mode, .int v1_startThreshold, .int v1_lastRung, .int v1_lastChange, .int v1_state, .int v1_time, .int v1_position])), (h2, .inr (8, [.ref h8, .ref h9, .ref h3, .ref h5])), (h3, .inr (2, [.ref h4, .int v3_most, .int y5])), (h4, .inl (cI, 6, .inl u6)), (h9, .inr (2, [.ref h10, .int v9_most, .int y7])), (h10, .inl (cI, 6, .inl u8))] H := hP
      have hD : va_D A [(h5, .inr (4, [.ref h6, .ref h7, .int v5_total, .int v5_phases])), (h6, .inl (cI, 20, .inl r6)), (h7, .inl (cI, 20, .inl r7)), (h8, .inl (cI, 15, .inl r8)), (h0, .inr (9, [.ref h2, .ref h1, .ref kp0_scratch])), (h1, .inr (6, [.ref h2, .ref kp0_session_video, .ref kp0_session_audio, .ref kp0_session_samples, .ref kp0_session_download, .ref kp0_session_accounts, .ref kp0_session_line, .int v1_mode, .int v1_startThreshold, .int v1_lastRung, .int v1_lastChange, .int v1_state, .int v1_time, .int v1_position])), (h2, .inr (8, [.ref h8, .ref h9, .ref h3, .ref h5])), (h3, .inr (2, [.ref h4, .int v3_most, .int y5])), (h4, .inl (cI, 6, .inl u6)), (h9, .inr (2, [.ref h10, .int v9_most, .int y7])), (h10, .inl (cI, 6, .inl u8))] := hD
      refine lv_iload hx hb dL_settings_392 (lv_at hl 4 rfl) ?_
      refine lv_isub hx hb dL_settings_394 ?_
      refine lv_iadd hx hb dL_settings_395 ?_
      refine lv_istore (lv' := [(5, .int (l5 + (y4 - l7))), (0, .ref h0), (1, .ref b), (4, .int l4), (7, .int l7)]) hx hb dL_settings_396 hl (by decide) rfl (fun ls hl => ?_)
      refine lv_iinc (v := l7 + 1) (lv' := [(7, .int (l7 + 1)), (5, .int (l5 + (y4 - l7))), (0, .ref h0), (1, .ref b), (4, .int l4)]) hx hb dL_settings_398 hl (k := 4) rfl rfl (by decide) rfl (fun ls hl => ?_)
      refine lv_goto (tgt := 362) hx hb dL_settings_401 (by decide) ?_
      exact ih y5 u6 v5_total v5_phases r6 r7 r8 y7 u8 l4 (l5 + (y4 - l7)) (l7 + 1) (cells + 4) (slots + 24) _ _ _ hm1 (by omega) (by omega) h (hP.sub [4, 5, 6, 7, 8, 0, 1, 2, 3, 9, 10] rfl) (hD.sub [4, 5, 6, 7, 8, 0, 1, 2, 3, 9, 10] (by decide) rfl) hS (lv_sub hl [2, 3, 4, 1, 0] rfl)
set_option maxHeartbeats 4000000 in
set_option maxRecDepth 100000 in
theorem k_L_settings_b301 {p : Program} {l : Launch} {e : Env} {s : State} {m : MethodId} {args : Array Value} {below : List Frame} {meth : Method} {c : Code} {D : va_G} {cI cJ cC : ClassId} {A : Nat → Prop} {ga : Nat → Nat} {b L : Nat} {xs : Nat → Int32} {h0 h1 h2 h3 h4 h5 h6 h7 h8 h9 h10 kp0_scratch kp0_session_video kp0_session_audio kp0_session_samples kp0_session_download kp0_session_accounts kp0_session_line : Nat} {v1_mode v1_startThreshold v1_lastRung v1_lastChange v1_state v1_time v1_position v3_most v9_most : Int32} {T : Int32 × Int32 × (Nat → Int32) × Int32 × Int32 × (Nat → Int32) × (Nat → Int32) × (Nat → Int32) × Int32 × (Nat → Int32)} (hfl : l.stackTraces = false) (S : CallFix p m c cL_settings 8 s args TB RL) (hr : meth.sig.returnType = (some .int)) (hlk : meth.locks = false) (hK : va_K D vwCl (ty3 cI cJ cC) s) (hA : ∀ q : Nat, s.heap.size ≤ q → A q) (hG : GX ga A s) (hX : va_X b L xs s s.heap) (hbl : b < s.heap.size) (hbA : ¬ A b) : ∀ (n : Nat) (v3_rungs : Int32) (r4 : Nat → Int32) (v5_total v5_phases : Int32) (r6 r7 r8 : Nat → Int32) (v9_rungs : Int32) (r10 : Nat → Int32) (l4 l5 l6 l7 : Int32) (cells slots : Nat) (H : Heap) (locs : List Loc) (ls : Array Slot), mug 6 l7 < n → cells + 4 * mug 6 l7 ≤ 63 → slots + 24 * mug 6 l7 ≤ 378 → f_L_settings_b301 v1_state v3_most v9_most xs L n v3_rungs r4 v5_total v5_phases r6 r7 r8 v9_rungs r10 l4 l5 l6 l7 = some T → va_P D vwCl [(h0, .inr (9, [.ref h2, .ref h1, .ref kp0_scratch])), (h1, .inr (6, [.ref h2, .ref kp0_session_video, .ref kp0_session_audio, .ref kp0_session_samples, .ref kp0_session_download, .ref kp0_session_accounts, .ref kp0_session_line, .int v1_mode, .int v1_startThreshold, .int v1_lastRung, .int v1_lastChange, .int v1_state, .int v1_time, .int v1_position])), (h2, .inr (8, [.ref h8, .ref h9, .ref h3, .ref h5])), (h3, .inr (2, [.ref h4, .int v3_most, .int v3_rungs])), (h4, .inl (cI, 6, .inl r4)), (h5, .inr (4, [.ref h6, .ref h7, .int v5_total, .int v5_phases])), (h6, .inl (cI, 20, .inl r6)), (h7, .inl (cI, 20, .inl r7)), (h8, .inl (cI, 15, .inl r8)), (h9, .inr (2, [.ref h10, .int v9_most, .int v9_rungs])), (h10, .inl (cI, 6, .inl r10))] H → va_D A [(h0, .inr (9, [.ref h2, .ref h1, .ref kp0_scratch])), (h1, .inr (6, [.ref h2, .ref kp0_session_video, .ref kp0_session_audio, .ref kp0_session_samples, .ref kp0_session_download, .ref kp0_session_accounts, .ref kp0_session_line, .int v1_mode, .int v1_startThreshold, .int v1_lastRung, .int v1_lastChange, .int v1_state, .int v1_time, .int v1_position])), (h2, .inr (8, [.ref h8, .ref h9, .ref h3, .ref h5])), (h3, .inr (2, [.ref h4, .int v3_most, .int v3_rungs])), (h4, .inl (cI, 6, .inl r4)), (h5, .inr (4, [.ref h6, .ref h7, .int v5_total, .int v5_phases])), (h6, .inl (cI, 20, .inl r6)), (h7, .inl (cI, 20, .inl r7)), (h8, .inl (cI, 15, .inl r8)), (h9, .inr (2, [.ref h10, .int v9_most, .int v9_rungs])), (h10, .inl (cI, 6, .inl r10))] → va_S A s.heap H locs → lv_has ls 8 [(0, .ref h0), (1, .ref b), (4, .int l4), (5, .int l5), (6, .int l6), (7, .int l7)] → W p l e rm_L_settings s m args below meth c H locs cells slots (MQ below (QW (some (.int T.1)) D [(h0, .inr (9, [.ref h2, .ref h1, .ref kp0_scratch])), (h1, .inr (6, [.ref h2, .ref kp0_session_video, .ref kp0_session_audio, .ref kp0_session_samples, .ref kp0_session_download, .ref kp0_session_accounts, .ref kp0_session_line, .int v1_mode, .int v1_startThreshold, .int v1_lastRung, .int v1_lastChange, .int v1_state, .int v1_time, .int v1_position])), (h2, .inr (8, [.ref h8, .ref h9, .ref h3, .ref h5])), (h3, .inr (2, [.ref h4, .int v3_most, .int T.2.1])), (h4, .inl (cI, 6, .inl T.2.2.1)), (h5, .inr (4, [.ref h6, .ref h7, .int T.2.2.2.1, .int T.2.2.2.2.1])), (h6, .inl (cI, 20, .inl T.2.2.2.2.2.1)), (h7, .inl (cI, 20, .inl T.2.2.2.2.2.2.1)), (h8, .inl (cI, 15, .inl T.2.2.2.2.2.2.2.1)), (h9, .inr (2, [.ref h10, .int v9_most, .int T.2.2.2.2.2.2.2.2.1])), (h10, .inl (cI, 6, .inl T.2.2.2.2.2.2.2.2.2))] A) args s 91 546 A) (F0 m 301 ls []) := by
  have hx := S.1
  have hb := S.2.1
  intro n
  induction n with
  | zero => intro v3_rungs r4 v5_total v5_phases r6 r7 r8 v9_rungs r10 l4 l5 l6 l7 cells slots H locs ls hmu; exact absurd hmu (Nat.not_lt_zero _)
  | succ n ih =>
    intro v3_rungs r4 v5_total v5_phases r6 r7 r8 v9_rungs r10 l4 l5 l6 l7 cells slots H locs ls hmu hcc hcs h hP hD hS hl
    refine lv_iload hx hb dL_settings_301 (lv_at hl 5 rfl) ?_
    refine lv_iconst (v := 1) hx hb dL_settings_303 li_1 ?_
    refine lv_aload_n hx hb dL_settings_304 rfl (lv_at hl 1 rfl) ?_
    refine lv_iconst (v := 3) hx hb dL_settings_305 li_3 ?_
    obtain ⟨y1, e_y1, h⟩ := obnd_eq h
    refine ccS (pc1 := 309) (rest := [.int 1, .int l7]) (st1 := [.int y1, .int 1, .int l7]) hX hbl hbA hS S (c_L_cell l b L xs 3 y1 e_y1) (cw_L_71 S.2.2.2.2 ⟨Nat.le_of_ble_eq_true rfl, Nat.le_of_ble_eq_true rfl⟩) rfl hl.1 rfl (Nat.le_of_ble_eq_true rfl) (lwf_L_settings (by omega) (by omega)) rfl rfl dL_settings_306 ?_
    refine lv_bipush (v := 6) hx hb dL_settings_309 lb_6 ?_
    obtain ⟨y2, e_y2, h⟩ := obnd_eq h
    refine rdS (pc1 := 314) (rest := [.int 1, .int l7]) (st1 := [.int y2, .int 1, .int l7]) S (c_L_up l D cI cJ cC  y1 6 y2 e_y2) (cw_L_75 S.2.2.2.2 ⟨Nat.le_of_ble_eq_true rfl, Nat.le_of_ble_eq_true rfl⟩) hK (hP.sub [] rfl) rfl hl.1 rfl (Nat.le_of_ble_eq_true rfl) (lwf_L_settings (by omega) (by omega)) rfl rfl dL_settings_311 ?_
    refine lv_iadd hx hb dL_settings_314 ?_
    refine lv_icmp_ge (tgt := 359) hx hb dL_settings_315 (by decide) (fun c3 => ?_) (fun c3 => ?_)
    · have h := iteP c3 h
      refine lv_iconst (v := 0) hx hb dL_settings_359 li_0 ?_
      refine lv_istore (lv' := [(7, .int 0), (0, .ref h0), (1, .ref b), (4, .int l4), (5, .int l5), (6, .int l6)]) hx hb dL_settings_360 hl (by decide) rfl (fun ls hl => ?_)
      have hm0 : mug 3 0 = 3 := rfl
      exact k_L_settings_b362 hfl S hr hlk hK hA hG hX hbl hbA _ v3_rungs r4 v5_total v5_phases r6 r7 r8 v9_rungs r10 l4 l5 0 cells slots _ _ _ (Nat.lt_succ_self _) (by rw [hm0]; omega) (by rw [hm0]; omega) h (hP.sub [0, 1, 2, 3, 4, 5, 6, 7, 8, 9, 10] rfl) (hD.sub [0, 1, 2, 3, 4, 5, 6, 7, 8, 9, 10] (by decide) rfl) hS (lv_sub hl [1, 2, 3, 4, 0] rfl)
    · have h := iteN c3 h
      obtain ⟨g9, h⟩ := grd_eq h
      obtain ⟨hm1, hm2⟩ := mug_step g9 (by decide) hmu
      refine lv_iload hx hb dL_settings_318 (lv_at hl 4 rfl) ?_
      refine lv_iconst (v := 1) hx hb dL_settings_320 li_1 ?_
      refine lv_aload_n hx hb dL_settings_321 rfl (lv_at hl 1 rfl) ?_
      refine lv_iconst (v := 4) hx hb dL_settings_322 li_4 ?_
      refine lv_iload hx hb dL_settings_323 (lv_at hl 5 rfl) ?_
      refine lv_iadd hx hb dL_settings_325 ?_
      obtain ⟨y4, e_y4, h⟩ := obnd_eq h
      refine ccS (pc1 := 329) (rest := [.int 1, .int l6]) (st1 := [.int y4, .int 1, .int l6]) hX hbl hbA hS S (c_L_cell l b L xs (4 + l7) y4 e_y4) (cw_L_71 S.2.2.2.2 ⟨Nat.le_of_ble_eq_true rfl, Nat.le_of_ble_eq_true rfl⟩) rfl hl.1 rfl (Nat.le_of_ble_eq_true rfl) (lwf_L_settings (by omega) (by omega)) rfl rfl dL_settings_326 ?_
      refine lv_bipush (v := 60) hx hb dL_settings_329 lb_60 ?_
      obtain ⟨y5, e_y5, h⟩ := obnd_eq h
      refine rdS (pc1 := 334) (rest := [.int 1, .int l6]) (st1 := [.int y5, .int 1, .int l6]) S (c_L_up l D cI cJ cC  y4 60 y5 e_y5) (cw_L_75 S.2.2.2.2 ⟨Nat.le_of_ble_eq_true rfl, Nat.le_of_ble_eq_true rfl⟩) hK (hP.sub [] rfl) rfl hl.1 rfl (Nat.le_of_ble_eq_true rfl) (lwf_L_settings (by omega) (by omega)) rfl rfl dL_settings_331 ?_
      refine lv_iadd hx hb dL_settings_334 ?_
      refine lv_iadd hx hb dL_settings_335 ?_
      refine lv_istore (lv' := [(6, .int (l6 + (1 + y5))), (0, .ref h0), (1, .ref b), (4, .int l4), (5, .int l5), (7, .int l7)]) hx hb dL_settings_336 hl (by decide) rfl (fun ls hl => ?_)
      refine lv_iload hx hb dL_settings_338 (lv_at hl 4 rfl) ?_
      refine lv_aload_n hx hb dL_settings_340 rfl (lv_at hl 1 rfl) ?_
      refine lv_iconst (v := 0) hx hb dL_settings_341 li_0 ?_
      refine lv_iload hx hb dL_settings_342 (lv_at hl 0 rfl) ?_
      obtain ⟨y6, y7, u8, y9, u10, e_y6, h⟩ := obnd5_eq h
      refine lcS (pc1 := 347) (rest := [.int l5]) (st1 := [.int y6, .int l5]) (wr := [(h5, .inr (4, [.ref h6, .ref h7, .int v5_total, .int v5_phases])), (h6, .inl (cI, 20, .inl r6)), (h7, .inl (cI, 20, .inl r7)), (h8, .inl (cI, 15, .inl r8))]) (cells1 := cells + 4) (slots1 := slots + 24) S (c_L_rung l hfl ga D cI cJ cC h0 h1 h2 h3 h4 h9 h10 kp0_scratch kp0_session_video kp0_session_audio kp0_session_samples kp0_session_download kp0_session_accounts kp0_session_line h8 h5 v1_mode v1_startThreshold v1_lastRung v1_lastChange v1_state v1_time v1_position v3_most v3_rungs r4 v9_most v9_rungs r10 H.size 0 (l6 + (1 + y5)) (y6, y7, u8, y9, u10) e_y6) (cw_L_56 S.2.2.2.2 ⟨Nat.le_of_ble_eq_true rfl, Nat.le_of_ble_eq_true rfl⟩) hK hP hD hS hA hG [0, 1, 2, 3, 4, 9, 10] [5, 6, 7, 8] rfl rfl rfl (by decide) (by decide) (by decide) rfl hl.1 rfl (Nat.le_of_ble_eq_true rfl) (lwf_L_settings (by omega) (by omega)) rfl rfl rfl rfl dL_settings_344 (fun H locs hP hD hS => ?_)
      have hP : va_P D vwCl [(h5, .inr (4, [.ref h6, .ref h7, .int v5_total, .int v5_phases])), (h6, .inl (cI, 20, .inl r6)), (h7, .inl (cI, 20, .inl r7)), (h8, .inl (cI, 15, .inl r8)), (h0, .inr (9, [.ref h2, .ref h1, .ref kp0_scratch])), (h1, .inr (6, [.ref h2, .ref kp0_session_video, .ref kp0_session_audio, .ref kp0_session_samples, .ref kp0_session_download, .ref kp0_session_accounts, .ref kp0_session_line, .int v1_mode, .int v1_startThreshold, .int v1_lastRung, .int v1_lastChange, .int v1_state, .int v1_time, .int v1_position])), (h2, .inr (8, [.ref h8, .ref h9, .ref h3, .ref h5])), (h3, .inr (2, [.ref h4, .int v3_most, .int y7])), (h4, .inl (cI, 6, .inl u8)), (h9, .inr (2, [.ref h10, .int v9_most, .int y9])), (h10, .inl (cI, 6, .inl u10))] H := hP
      have hD : va_D A [(h5, .inr (4, [.ref h6, .ref h7, .int v5_total, .int v5_phases])), (h6, .inl (cI, 20, .inl r6)), (h7, .inl (cI, 20, .inl r7)), (h8, .inl (cI, 15, .inl r8)), (h0, .inr (9, [.ref h2, .ref h1, .ref kp0_scratch])), (h1, .inr (6, [.ref h2, .ref kp0_session_video, .ref kp0_session_audio, .ref kp0_session_samples, .ref kp0_session_download, .ref kp0_session_accounts, .ref kp0_session_line, .int v1_mode, .int v1_startThreshold, .int v1_lastRung, .int v1_lastChange, .int v1_state, .int v1_time, .int v1_position])), (h2, .inr (8, [.ref h8, .ref h9, .ref h3, .ref h5])), (h3, .inr (2, [.ref h4, .int v3_most, .int y7])), (h4, .inl (cI, 6, .inl u8)), (h9, .inr (2, [.ref h10, .int v9_most, .int y9])), (h10, .inl (cI, 6, .inl u10))] := hD
      refine lv_iload hx hb dL_settings_347 (lv_at hl 5 rfl) ?_
      refine lv_isub hx hb dL_settings_349 ?_
      refine lv_iadd hx hb dL_settings_350 ?_
      refine lv_istore (lv' := [(5, .int (l5 + (y6 - l7))), (6, .int (l6 + (1 + y5))), (0, .ref h0), (1, .ref b), (4, .int l4), (7, .int l7)]) hx hb dL_settings_351 hl (by decide) rfl (fun ls hl => ?_)
      refine lv_iinc (v := l7 + 1) (lv' := [(7, .int (l7 + 1)), (5, .int (l5 + (y6 - l7))), (6, .int (l6 + (1 + y5))), (0, .ref h0), (1, .ref b), (4, .int l4)]) hx hb dL_settings_353 hl (k := 5) rfl rfl (by decide) rfl (fun ls hl => ?_)
      refine lv_goto (tgt := 301) hx hb dL_settings_356 (by decide) ?_
      exact ih y7 u8 v5_total v5_phases r6 r7 r8 y9 u10 l4 (l5 + (y6 - l7)) (l6 + (1 + y5)) (l7 + 1) (cells + 4) (slots + 24) _ _ _ hm1 (by omega) (by omega) h (hP.sub [4, 5, 6, 7, 8, 0, 1, 2, 3, 9, 10] rfl) (hD.sub [4, 5, 6, 7, 8, 0, 1, 2, 3, 9, 10] (by decide) rfl) hS (lv_sub hl [3, 4, 5, 1, 2, 0] rfl)
set_option maxHeartbeats 4000000 in
set_option maxRecDepth 100000 in
theorem k_L_settings_b224 {p : Program} {l : Launch} {e : Env} {s : State} {m : MethodId} {args : Array Value} {below : List Frame} {meth : Method} {c : Code} {D : va_G} {cI cJ cC : ClassId} {A : Nat → Prop} {ga : Nat → Nat} {b L : Nat} {xs : Nat → Int32} {h0 h1 h2 h3 h4 h5 h6 h7 h8 h9 h10 kp0_scratch kp0_session_video kp0_session_audio kp0_session_samples kp0_session_download kp0_session_accounts kp0_session_line : Nat} {v1_mode v1_startThreshold v1_lastRung v1_lastChange v1_state v1_time v1_position v3_most v9_most : Int32} {T : Int32 × Int32 × (Nat → Int32) × Int32 × Int32 × (Nat → Int32) × (Nat → Int32) × (Nat → Int32) × Int32 × (Nat → Int32)} (hfl : l.stackTraces = false) (S : CallFix p m c cL_settings 8 s args TB RL) (hr : meth.sig.returnType = (some .int)) (hlk : meth.locks = false) (hK : va_K D vwCl (ty3 cI cJ cC) s) (hA : ∀ q : Nat, s.heap.size ≤ q → A q) (hG : GX ga A s) (hX : va_X b L xs s s.heap) (hbl : b < s.heap.size) (hbA : ¬ A b) : ∀ (v3_rungs : Int32) (r4 : Nat → Int32) (v5_total v5_phases : Int32) (r6 r7 r8 : Nat → Int32) (v9_rungs : Int32) (r10 : Nat → Int32) (l3 l4 s0 s1 s3 s4 : Int32) (cells slots : Nat) (H : Heap) (locs : List Loc) (ls : Array Slot), cells ≤ 27 → slots ≤ 162 → f_L_settings_b224 v1_state v3_most v9_most xs L v3_rungs r4 v5_total v5_phases r6 r7 r8 v9_rungs r10 l3 l4 s0 s1 s3 s4 = some T → va_P D vwCl [(h0, .inr (9, [.ref h2, .ref h1, .ref kp0_scratch])), (h1, .inr (6, [.ref h2, .ref kp0_session_video, .ref kp0_session_audio, .ref kp0_session_samples, .ref kp0_session_download, .ref kp0_session_accounts, .ref kp0_session_line, .int v1_mode, .int v1_startThreshold, .int v1_lastRung, .int v1_lastChange, .int v1_state, .int v1_time, .int v1_position])), (h2, .inr (8, [.ref h8, .ref h9, .ref h3, .ref h5])), (h3, .inr (2, [.ref h4, .int v3_most, .int v3_rungs])), (h4, .inl (cI, 6, .inl r4)), (h5, .inr (4, [.ref h6, .ref h7, .int v5_total, .int v5_phases])), (h6, .inl (cI, 20, .inl r6)), (h7, .inl (cI, 20, .inl r7)), (h8, .inl (cI, 15, .inl r8)), (h9, .inr (2, [.ref h10, .int v9_most, .int v9_rungs])), (h10, .inl (cI, 6, .inl r10))] H → va_D A [(h0, .inr (9, [.ref h2, .ref h1, .ref kp0_scratch])), (h1, .inr (6, [.ref h2, .ref kp0_session_video, .ref kp0_session_audio, .ref kp0_session_samples, .ref kp0_session_download, .ref kp0_session_accounts, .ref kp0_session_line, .int v1_mode, .int v1_startThreshold, .int v1_lastRung, .int v1_lastChange, .int v1_state, .int v1_time, .int v1_position])), (h2, .inr (8, [.ref h8, .ref h9, .ref h3, .ref h5])), (h3, .inr (2, [.ref h4, .int v3_most, .int v3_rungs])), (h4, .inl (cI, 6, .inl r4)), (h5, .inr (4, [.ref h6, .ref h7, .int v5_total, .int v5_phases])), (h6, .inl (cI, 20, .inl r6)), (h7, .inl (cI, 20, .inl r7)), (h8, .inl (cI, 15, .inl r8)), (h9, .inr (2, [.ref h10, .int v9_most, .int v9_rungs])), (h10, .inl (cI, 6, .inl r10))] → va_S A s.heap H locs → lv_has ls 8 [(0, .ref h0), (1, .ref b), (3, .int l3), (4, .int l4)] → W p l e rm_L_settings s m args below meth c H locs cells slots (MQ below (QW (some (.int T.1)) D [(h0, .inr (9, [.ref h2, .ref h1, .ref kp0_scratch])), (h1, .inr (6, [.ref h2, .ref kp0_session_video, .ref kp0_session_audio, .ref kp0_session_samples, .ref kp0_session_download, .ref kp0_session_accounts, .ref kp0_session_line, .int v1_mode, .int v1_startThreshold, .int v1_lastRung, .int v1_lastChange, .int v1_state, .int v1_time, .int v1_position])), (h2, .inr (8, [.ref h8, .ref h9, .ref h3, .ref h5])), (h3, .inr (2, [.ref h4, .int v3_most, .int T.2.1])), (h4, .inl (cI, 6, .inl T.2.2.1)), (h5, .inr (4, [.ref h6, .ref h7, .int T.2.2.2.1, .int T.2.2.2.2.1])), (h6, .inl (cI, 20, .inl T.2.2.2.2.2.1)), (h7, .inl (cI, 20, .inl T.2.2.2.2.2.2.1)), (h8, .inl (cI, 15, .inl T.2.2.2.2.2.2.2.1)), (h9, .inr (2, [.ref h10, .int v9_most, .int T.2.2.2.2.2.2.2.2.1])), (h10, .inl (cI, 6, .inl T.2.2.2.2.2.2.2.2.2))] A) args s 91 546 A) (F0 m 224 ls [.int s4, .int s3, .ref h0, .int s1, .int s0]) := by
  have hx := S.1
  have hb := S.2.1
  intro v3_rungs r4 v5_total v5_phases r6 r7 r8 v9_rungs r10 l3 l4 s0 s1 s3 s4 cells slots H locs ls hcc hcs h hP hD hS hl
  obtain ⟨y1, u2, e_y1, h⟩ := obnd2_eq h
  refine lcS (pc1 := 227) (rest := [.int s1, .int s0]) (st1 := [.int y1, .int s1, .int s0]) (wr := [(h3, .inr (2, [.ref h4, .int v3_most, .int v3_rungs])), (h4, .inl (cI, 6, .inl r4)), (h5, .inr (4, [.ref h6, .ref h7, .int v5_total, .int v5_phases])), (h6, .inl (cI, 20, .inl r6)), (h7, .inl (cI, 20, .inl r7)), (h9, .inr (2, [.ref h10, .int v9_most, .int v9_rungs])), (h10, .inl (cI, 6, .inl r10))]) (cells1 := cells + 3) (slots1 := slots + 18) S (c_L_set l hfl ga D cI cJ cC h0 h1 h2 h8 kp0_scratch kp0_session_video kp0_session_audio kp0_session_samples kp0_session_download kp0_session_accounts kp0_session_line h9 h3 h5 v1_mode v1_startThreshold v1_lastRung v1_lastChange v1_state v1_time v1_position r8 H.size s3 s4 (y1, u2) e_y1) (cw_L_50 S.2.2.2.2 ⟨Nat.le_of_ble_eq_true rfl, Nat.le_of_ble_eq_true rfl⟩) hK hP hD hS hA hG [0, 1, 2, 8] [3, 4, 5, 6, 7, 9, 10] rfl rfl rfl (by decide) (by decide) (by decide) rfl hl.1 rfl (Nat.le_of_ble_eq_true rfl) (lwf_L_settings (by omega) (by omega)) rfl rfl rfl rfl dL_settings_224 (fun H locs hP hD hS => ?_)
  have hP : va_P D vwCl [(h3, .inr (2, [.ref h4, .int v3_most, .int v3_rungs])), (h4, .inl (cI, 6, .inl r4)), (h5, .inr (4, [.ref h6, .ref h7, .int v5_total, .int v5_phases])), (h6, .inl (cI, 20, .inl r6)), (h7, .inl (cI, 20, .inl r7)), (h9, .inr (2, [.ref h10, .int v9_most, .int v9_rungs])), (h10, .inl (cI, 6, .inl r10)), (h0, .inr (9, [.ref h2, .ref h1, .ref kp0_scratch])), (h1, .inr (6, [.ref h2, .ref kp0_session_video, .ref kp0_session_audio, .ref kp0_session_samples, .ref kp0_session_download, .ref kp0_session_accounts, .ref kp0_session_line, .int v1_mode, .int v1_startThreshold, .int v1_lastRung, .int v1_lastChange, .int v1_state, .int v1_time, .int v1_position])), (h2, .inr (8, [.ref h8, .ref h9, .ref h3, .ref h5])), (h8, .inl (cI, 15, .inl u2))] H := hP
  have hD : va_D A [(h3, .inr (2, [.ref h4, .int v3_most, .int v3_rungs])), (h4, .inl (cI, 6, .inl r4)), (h5, .inr (4, [.ref h6, .ref h7, .int v5_total, .int v5_phases])), (h6, .inl (cI, 20, .inl r6)), (h7, .inl (cI, 20, .inl r7)), (h9, .inr (2, [.ref h10, .int v9_most, .int v9_rungs])), (h10, .inl (cI, 6, .inl r10)), (h0, .inr (9, [.ref h2, .ref h1, .ref kp0_scratch])), (h1, .inr (6, [.ref h2, .ref kp0_session_video, .ref kp0_session_audio, .ref kp0_session_samples, .ref kp0_session_download, .ref kp0_session_accounts, .ref kp0_session_line, .int v1_mode, .int v1_startThreshold, .int v1_lastRung, .int v1_lastChange, .int v1_state, .int v1_time, .int v1_position])), (h2, .inr (8, [.ref h8, .ref h9, .ref h3, .ref h5])), (h8, .inl (cI, 15, .inl u2))] := hD
  refine lv_iadd hx hb dL_settings_227 ?_
  refine lv_aload_n hx hb dL_settings_228 rfl (lv_at hl 0 rfl) ?_
  refine lv_bipush (v := 14) hx hb dL_settings_229 lb_14 ?_
  refine lv_iload_n hx hb dL_settings_231 rfl (lv_at hl 2 rfl) ?_
  refine lv_bipush (v := 8) hx hb dL_settings_232 lb_8 ?_
  refine lv_ishr hx hb dL_settings_234 ?_
  refine lv_sipush (v := 9000) hx hb dL_settings_235 ls_9000 ?_
  obtain ⟨y3, e_y3, h⟩ := obnd_eq h
  refine rdS (pc1 := 241) (rest := [.int 14, .ref h0, .int (s1 + y1), .int s0]) (st1 := [.int y3, .int 14, .ref h0, .int (s1 + y1), .int s0]) S (c_L_up l D cI cJ cC  (l3 >>> (8 &&& 31)) 9000 y3 e_y3) (cw_L_75 S.2.2.2.2 ⟨Nat.le_of_ble_eq_true rfl, Nat.le_of_ble_eq_true rfl⟩) hK (hP.sub [] rfl) rfl hl.1 rfl (Nat.le_of_ble_eq_true rfl) (lwf_L_settings (by omega) (by omega)) rfl rfl dL_settings_238 ?_
  obtain ⟨y4, u5, e_y4, h⟩ := obnd2_eq h
  refine lcS (pc1 := 244) (rest := [.int (s1 + y1), .int s0]) (st1 := [.int y4, .int (s1 + y1), .int s0]) (wr := [(h3, .inr (2, [.ref h4, .int v3_most, .int v3_rungs])), (h4, .inl (cI, 6, .inl r4)), (h5, .inr (4, [.ref h6, .ref h7, .int v5_total, .int v5_phases])), (h6, .inl (cI, 20, .inl r6)), (h7, .inl (cI, 20, .inl r7)), (h9, .inr (2, [.ref h10, .int v9_most, .int v9_rungs])), (h10, .inl (cI, 6, .inl r10))]) (cells1 := cells + 3 + 3) (slots1 := slots + 18 + 18) S (c_L_set l hfl ga D cI cJ cC h0 h1 h2 h8 kp0_scratch kp0_session_video kp0_session_audio kp0_session_samples kp0_session_download kp0_session_accounts kp0_session_line h9 h3 h5 v1_mode v1_startThreshold v1_lastRung v1_lastChange v1_state v1_time v1_position u2 H.size 14 y3 (y4, u5) e_y4) (cw_L_50 S.2.2.2.2 ⟨Nat.le_of_ble_eq_true rfl, Nat.le_of_ble_eq_true rfl⟩) hK hP hD hS hA hG [7, 8, 9, 10] [0, 1, 2, 3, 4, 5, 6] rfl rfl rfl (by decide) (by decide) (by decide) rfl hl.1 rfl (Nat.le_of_ble_eq_true rfl) (lwf_L_settings (by omega) (by omega)) rfl rfl rfl rfl dL_settings_241 (fun H locs hP hD hS => ?_)
  have hP : va_P D vwCl [(h3, .inr (2, [.ref h4, .int v3_most, .int v3_rungs])), (h4, .inl (cI, 6, .inl r4)), (h5, .inr (4, [.ref h6, .ref h7, .int v5_total, .int v5_phases])), (h6, .inl (cI, 20, .inl r6)), (h7, .inl (cI, 20, .inl r7)), (h9, .inr (2, [.ref h10, .int v9_most, .int v9_rungs])), (h10, .inl (cI, 6, .inl r10)), (h0, .inr (9, [.ref h2, .ref h1, .ref kp0_scratch])), (h1, .inr (6, [.ref h2, .ref kp0_session_video, .ref kp0_session_audio, .ref kp0_session_samples, .ref kp0_session_download, .ref kp0_session_accounts, .ref kp0_session_line, .int v1_mode, .int v1_startThreshold, .int v1_lastRung, .int v1_lastChange, .int v1_state, .int v1_time, .int v1_position])), (h2, .inr (8, [.ref h8, .ref h9, .ref h3, .ref h5])), (h8, .inl (cI, 15, .inl u5))] H := hP
  have hD : va_D A [(h3, .inr (2, [.ref h4, .int v3_most, .int v3_rungs])), (h4, .inl (cI, 6, .inl r4)), (h5, .inr (4, [.ref h6, .ref h7, .int v5_total, .int v5_phases])), (h6, .inl (cI, 20, .inl r6)), (h7, .inl (cI, 20, .inl r7)), (h9, .inr (2, [.ref h10, .int v9_most, .int v9_rungs])), (h10, .inl (cI, 6, .inl r10)), (h0, .inr (9, [.ref h2, .ref h1, .ref kp0_scratch])), (h1, .inr (6, [.ref h2, .ref kp0_session_video, .ref kp0_session_audio, .ref kp0_session_samples, .ref kp0_session_download, .ref kp0_session_accounts, .ref kp0_session_line, .int v1_mode, .int v1_startThreshold, .int v1_lastRung, .int v1_lastChange, .int v1_state, .int v1_time, .int v1_position])), (h2, .inr (8, [.ref h8, .ref h9, .ref h3, .ref h5])), (h8, .inl (cI, 15, .inl u5))] := hD
  refine lv_iadd hx hb dL_settings_244 ?_
  refine lv_ldc (v := 60000) hx hb S.2.2.2.1 (S.2.2.2.2 _ tb792) dL_settings_245 ?_
  refine lv_isub hx hb dL_settings_247 ?_
  refine lv_aload_n hx hb dL_settings_248 rfl (lv_at hl 0 rfl) ?_
  refine lv_bipush (v := 7) hx hb dL_settings_249 lb_7 ?_
  refine lv_sipush (v := 4000) hx hb dL_settings_251 ls_4000 ?_
  refine lv_iload_n hx hb dL_settings_254 rfl (lv_at hl 2 rfl) ?_
  refine lv_iconst (v := 4) hx hb dL_settings_255 li_4 ?_
  refine lv_ishr hx hb dL_settings_256 ?_
  refine lv_sipush (v := 20000) hx hb dL_settings_257 ls_20000 ?_
  obtain ⟨y6, e_y6, h⟩ := obnd_eq h
  refine rdS (pc1 := 263) (rest := [.int 4000, .int 7, .ref h0, .int (((s1 + y1) + y4) - 60000), .int s0]) (st1 := [.int y6, .int 4000, .int 7, .ref h0, .int (((s1 + y1) + y4) - 60000), .int s0]) S (c_L_up l D cI cJ cC  (l3 >>> (4 &&& 31)) 20000 y6 e_y6) (cw_L_75 S.2.2.2.2 ⟨Nat.le_of_ble_eq_true rfl, Nat.le_of_ble_eq_true rfl⟩) hK (hP.sub [] rfl) rfl hl.1 rfl (Nat.le_of_ble_eq_true rfl) (lwf_L_settings (by omega) (by omega)) rfl rfl dL_settings_260 ?_
  refine lv_iadd hx hb dL_settings_263 ?_
  obtain ⟨y7, u8, e_y7, h⟩ := obnd2_eq h
  refine lcS (pc1 := 267) (rest := [.int (((s1 + y1) + y4) - 60000), .int s0]) (st1 := [.int y7, .int (((s1 + y1) + y4) - 60000), .int s0]) (wr := [(h3, .inr (2, [.ref h4, .int v3_most, .int v3_rungs])), (h4, .inl (cI, 6, .inl r4)), (h5, .inr (4, [.ref h6, .ref h7, .int v5_total, .int v5_phases])), (h6, .inl (cI, 20, .inl r6)), (h7, .inl (cI, 20, .inl r7)), (h9, .inr (2, [.ref h10, .int v9_most, .int v9_rungs])), (h10, .inl (cI, 6, .inl r10))]) (cells1 := cells + 3 + 3 + 3) (slots1 := slots + 18 + 18 + 18) S (c_L_set l hfl ga D cI cJ cC h0 h1 h2 h8 kp0_scratch kp0_session_video kp0_session_audio kp0_session_samples kp0_session_download kp0_session_accounts kp0_session_line h9 h3 h5 v1_mode v1_startThreshold v1_lastRung v1_lastChange v1_state v1_time v1_position u5 H.size 7 (4000 + y6) (y7, u8) e_y7) (cw_L_50 S.2.2.2.2 ⟨Nat.le_of_ble_eq_true rfl, Nat.le_of_ble_eq_true rfl⟩) hK hP hD hS hA hG [7, 8, 9, 10] [0, 1, 2, 3, 4, 5, 6] rfl rfl rfl (by decide) (by decide) (by decide) rfl hl.1 rfl (Nat.le_of_ble_eq_true rfl) (lwf_L_settings (by omega) (by omega)) rfl rfl rfl rfl dL_settings_264 (fun H locs hP hD hS => ?_)
  have hP : va_P D vwCl [(h3, .inr (2, [.ref h4, .int v3_most, .int v3_rungs])), (h4, .inl (cI, 6, .inl r4)), (h5, .inr (4, [.ref h6, .ref h7, .int v5_total, .int v5_phases])), (h6, .inl (cI, 20, .inl r6)), (h7, .inl (cI, 20, .inl r7)), (h9, .inr (2, [.ref h10, .int v9_most, .int v9_rungs])), (h10, .inl (cI, 6, .inl r10)), (h0, .inr (9, [.ref h2, .ref h1, .ref kp0_scratch])), (h1, .inr (6, [.ref h2, .ref kp0_session_video, .ref kp0_session_audio, .ref kp0_session_samples, .ref kp0_session_download, .ref kp0_session_accounts, .ref kp0_session_line, .int v1_mode, .int v1_startThreshold, .int v1_lastRung, .int v1_lastChange, .int v1_state, .int v1_time, .int v1_position])), (h2, .inr (8, [.ref h8, .ref h9, .ref h3, .ref h5])), (h8, .inl (cI, 15, .inl u8))] H := hP
  have hD : va_D A [(h3, .inr (2, [.ref h4, .int v3_most, .int v3_rungs])), (h4, .inl (cI, 6, .inl r4)), (h5, .inr (4, [.ref h6, .ref h7, .int v5_total, .int v5_phases])), (h6, .inl (cI, 20, .inl r6)), (h7, .inl (cI, 20, .inl r7)), (h9, .inr (2, [.ref h10, .int v9_most, .int v9_rungs])), (h10, .inl (cI, 6, .inl r10)), (h0, .inr (9, [.ref h2, .ref h1, .ref kp0_scratch])), (h1, .inr (6, [.ref h2, .ref kp0_session_video, .ref kp0_session_audio, .ref kp0_session_samples, .ref kp0_session_download, .ref kp0_session_accounts, .ref kp0_session_line, .int v1_mode, .int v1_startThreshold, .int v1_lastRung, .int v1_lastChange, .int v1_state, .int v1_time, .int v1_position])), (h2, .inr (8, [.ref h8, .ref h9, .ref h3, .ref h5])), (h8, .inl (cI, 15, .inl u8))] := hD
  refine lv_iadd hx hb dL_settings_267 ?_
  refine lv_sipush (v := 20000) hx hb dL_settings_268 ls_20000 ?_
  refine lv_isub hx hb dL_settings_271 ?_
  refine lv_aload_n hx hb dL_settings_272 rfl (lv_at hl 0 rfl) ?_
  refine lv_bipush (v := 8) hx hb dL_settings_273 lb_8 ?_
  refine lv_iconst (v := 1) hx hb dL_settings_275 li_1 ?_
  refine lv_iload_n hx hb dL_settings_276 rfl (lv_at hl 2 rfl) ?_
  refine lv_bipush (v := 20) hx hb dL_settings_277 lb_20 ?_
  refine lv_ishr hx hb dL_settings_279 ?_
  refine lv_bipush (v := 10) hx hb dL_settings_280 lb_10 ?_
  obtain ⟨y9, e_y9, h⟩ := obnd_eq h
  refine rdS (pc1 := 285) (rest := [.int 1, .int 8, .ref h0, .int (((((s1 + y1) + y4) - 60000) + y7) - 20000), .int s0]) (st1 := [.int y9, .int 1, .int 8, .ref h0, .int (((((s1 + y1) + y4) - 60000) + y7) - 20000), .int s0]) S (c_L_up l D cI cJ cC  (l3 >>> (20 &&& 31)) 10 y9 e_y9) (cw_L_75 S.2.2.2.2 ⟨Nat.le_of_ble_eq_true rfl, Nat.le_of_ble_eq_true rfl⟩) hK (hP.sub [] rfl) rfl hl.1 rfl (Nat.le_of_ble_eq_true rfl) (lwf_L_settings (by omega) (by omega)) rfl rfl dL_settings_282 ?_
  refine lv_iadd hx hb dL_settings_285 ?_
  obtain ⟨y10, u11, e_y10, h⟩ := obnd2_eq h
  refine lcS (pc1 := 289) (rest := [.int (((((s1 + y1) + y4) - 60000) + y7) - 20000), .int s0]) (st1 := [.int y10, .int (((((s1 + y1) + y4) - 60000) + y7) - 20000), .int s0]) (wr := [(h3, .inr (2, [.ref h4, .int v3_most, .int v3_rungs])), (h4, .inl (cI, 6, .inl r4)), (h5, .inr (4, [.ref h6, .ref h7, .int v5_total, .int v5_phases])), (h6, .inl (cI, 20, .inl r6)), (h7, .inl (cI, 20, .inl r7)), (h9, .inr (2, [.ref h10, .int v9_most, .int v9_rungs])), (h10, .inl (cI, 6, .inl r10))]) (cells1 := cells + 3 + 3 + 3 + 3) (slots1 := slots + 18 + 18 + 18 + 18) S (c_L_set l hfl ga D cI cJ cC h0 h1 h2 h8 kp0_scratch kp0_session_video kp0_session_audio kp0_session_samples kp0_session_download kp0_session_accounts kp0_session_line h9 h3 h5 v1_mode v1_startThreshold v1_lastRung v1_lastChange v1_state v1_time v1_position u8 H.size 8 (1 + y9) (y10, u11) e_y10) (cw_L_50 S.2.2.2.2 ⟨Nat.le_of_ble_eq_true rfl, Nat.le_of_ble_eq_true rfl⟩) hK hP hD hS hA hG [7, 8, 9, 10] [0, 1, 2, 3, 4, 5, 6] rfl rfl rfl (by decide) (by decide) (by decide) rfl hl.1 rfl (Nat.le_of_ble_eq_true rfl) (lwf_L_settings (by omega) (by omega)) rfl rfl rfl rfl dL_settings_286 (fun H locs hP hD hS => ?_)
  have hP : va_P D vwCl [(h3, .inr (2, [.ref h4, .int v3_most, .int v3_rungs])), (h4, .inl (cI, 6, .inl r4)), (h5, .inr (4, [.ref h6, .ref h7, .int v5_total, .int v5_phases])), (h6, .inl (cI, 20, .inl r6)), (h7, .inl (cI, 20, .inl r7)), (h9, .inr (2, [.ref h10, .int v9_most, .int v9_rungs])), (h10, .inl (cI, 6, .inl r10)), (h0, .inr (9, [.ref h2, .ref h1, .ref kp0_scratch])), (h1, .inr (6, [.ref h2, .ref kp0_session_video, .ref kp0_session_audio, .ref kp0_session_samples, .ref kp0_session_download, .ref kp0_session_accounts, .ref kp0_session_line, .int v1_mode, .int v1_startThreshold, .int v1_lastRung, .int v1_lastChange, .int v1_state, .int v1_time, .int v1_position])), (h2, .inr (8, [.ref h8, .ref h9, .ref h3, .ref h5])), (h8, .inl (cI, 15, .inl u11))] H := hP
  have hD : va_D A [(h3, .inr (2, [.ref h4, .int v3_most, .int v3_rungs])), (h4, .inl (cI, 6, .inl r4)), (h5, .inr (4, [.ref h6, .ref h7, .int v5_total, .int v5_phases])), (h6, .inl (cI, 20, .inl r6)), (h7, .inl (cI, 20, .inl r7)), (h9, .inr (2, [.ref h10, .int v9_most, .int v9_rungs])), (h10, .inl (cI, 6, .inl r10)), (h0, .inr (9, [.ref h2, .ref h1, .ref kp0_scratch])), (h1, .inr (6, [.ref h2, .ref kp0_session_video, .ref kp0_session_audio, .ref kp0_session_samples, .ref kp0_session_download, .ref kp0_session_accounts, .ref kp0_session_line, .int v1_mode, .int v1_startThreshold, .int v1_lastRung, .int v1_lastChange, .int v1_state, .int v1_time, .int v1_position])), (h2, .inr (8, [.ref h8, .ref h9, .ref h3, .ref h5])), (h8, .inl (cI, 15, .inl u11))] := hD
  refine lv_iadd hx hb dL_settings_289 ?_
  refine lv_iconst (v := 3) hx hb dL_settings_290 li_3 ?_
  refine lv_isub hx hb dL_settings_291 ?_
  refine lv_iadd hx hb dL_settings_292 ?_
  refine lv_topi (fun y12 e_y12 => ?_)
  have h := bnd_eq e_y12.symm h
  refine lv_istore (lv' := [(5, .int y12), (0, .ref h0), (1, .ref b), (3, .int l3), (4, .int l4)]) hx hb dL_settings_293 hl (by decide) rfl (fun ls hl => ?_)
  refine lv_iconst (v := 0) hx hb dL_settings_295 li_0 ?_
  refine lv_istore (lv' := [(6, .int 0), (5, .int y12), (0, .ref h0), (1, .ref b), (3, .int l3), (4, .int l4)]) hx hb dL_settings_296 hl (by decide) rfl (fun ls hl => ?_)
  refine lv_iconst (v := 0) hx hb dL_settings_298 li_0 ?_
  refine lv_istore (lv' := [(7, .int 0), (6, .int 0), (5, .int y12), (0, .ref h0), (1, .ref b), (3, .int l3), (4, .int l4)]) hx hb dL_settings_299 hl (by decide) rfl (fun ls hl => ?_)
  have hm0 : mug 6 0 = 6 := rfl
  exact k_L_settings_b301 hfl S hr hlk hK hA hG hX hbl hbA _ v3_rungs r4 v5_total v5_phases r6 r7 u11 v9_rungs r10 l4 y12 0 0 (cells + 3 + 3 + 3 + 3) (slots + 18 + 18 + 18 + 18) _ _ _ (Nat.lt_succ_self _) (by rw [hm0]; omega) (by rw [hm0]; omega) h (hP.sub [7, 8, 9, 0, 1, 2, 3, 4, 10, 5, 6] rfl) (hD.sub [7, 8, 9, 0, 1, 2, 3, 4, 10, 5, 6] (by decide) rfl) hS (lv_sub hl [3, 4, 6, 2, 1, 0] rfl)
set_option maxHeartbeats 4000000 in
set_option maxRecDepth 100000 in
theorem c_L_settings (l : Launch) (hfl : l.stackTraces = false) (ga : Nat → Nat) (D : va_G) (cI cJ cC : ClassId) (h0 h1 h2 h3 h4 h5 h6 h7 h8 h9 h10 kp0_scratch kp0_session_video kp0_session_audio kp0_session_samples kp0_session_download kp0_session_accounts kp0_session_line : Nat) (v1_mode v1_startThreshold v1_lastRung v1_lastChange v1_state v1_time v1_position v3_most v3_rungs : Int32) (r4 : Nat → Int32) (v5_total v5_phases : Int32) (r6 r7 r8 : Nat → Int32) (v9_most v9_rungs : Int32) (r10 : Nat → Int32) (b L : Nat) (xs : Nat → Int32) (sz : Nat)  (T : Int32 × Int32 × (Nat → Int32) × Int32 × Int32 × (Nat → Int32) × (Nat → Int32) × (Nat → Int32) × Int32 × (Nat → Int32)) (h : f_L_settings v1_state v3_most v3_rungs r4 v5_total v5_phases r6 r7 r8 v9_most v9_rungs r10 xs L = some T) : Met l yL_settings (Cond.code yL_settings cL_settings 8 (some .int) :: TB) rm_L_settings (PreScr b L xs ga D cI cJ cC [(h0, .inr (9, [.ref h2, .ref h1, .ref kp0_scratch])), (h1, .inr (6, [.ref h2, .ref kp0_session_video, .ref kp0_session_audio, .ref kp0_session_samples, .ref kp0_session_download, .ref kp0_session_accounts, .ref kp0_session_line, .int v1_mode, .int v1_startThreshold, .int v1_lastRung, .int v1_lastChange, .int v1_state, .int v1_time, .int v1_position])), (h2, .inr (8, [.ref h8, .ref h9, .ref h3, .ref h5])), (h3, .inr (2, [.ref h4, .int v3_most, .int v3_rungs])), (h4, .inl (cI, 6, .inl r4)), (h5, .inr (4, [.ref h6, .ref h7, .int v5_total, .int v5_phases])), (h6, .inl (cI, 20, .inl r6)), (h7, .inl (cI, 20, .inl r7)), (h8, .inl (cI, 15, .inl r8)), (h9, .inr (2, [.ref h10, .int v9_most, .int v9_rungs])), (h10, .inl (cI, 6, .inl r10))] sz [.ref h0, .ref b]) (QW (some (.int T.1)) D [(h0, .inr (9, [.ref h2, .ref h1, .ref kp0_scratch])), (h1, .inr (6, [.ref h2, .ref kp0_session_video, .ref kp0_session_audio, .ref kp0_session_samples, .ref kp0_session_download, .ref kp0_session_accounts, .ref kp0_session_line, .int v1_mode, .int v1_startThreshold, .int v1_lastRung, .int v1_lastChange, .int v1_state, .int v1_time, .int v1_position])), (h2, .inr (8, [.ref h8, .ref h9, .ref h3, .ref h5])), (h3, .inr (2, [.ref h4, .int v3_most, .int T.2.1])), (h4, .inl (cI, 6, .inl T.2.2.1)), (h5, .inr (4, [.ref h6, .ref h7, .int T.2.2.2.1, .int T.2.2.2.2.1])), (h6, .inl (cI, 20, .inl T.2.2.2.2.2.1)), (h7, .inl (cI, 20, .inl T.2.2.2.2.2.2.1)), (h8, .inl (cI, 15, .inl T.2.2.2.2.2.2.2.1)), (h9, .inr (2, [.ref h10, .int v9_most, .int T.2.2.2.2.2.2.2.2.1])), (h10, .inl (cI, 6, .inl T.2.2.2.2.2.2.2.2.2))] (va_A [(h0, .inr (9, [.ref h2, .ref h1, .ref kp0_scratch])), (h1, .inr (6, [.ref h2, .ref kp0_session_video, .ref kp0_session_audio, .ref kp0_session_samples, .ref kp0_session_download, .ref kp0_session_accounts, .ref kp0_session_line, .int v1_mode, .int v1_startThreshold, .int v1_lastRung, .int v1_lastChange, .int v1_state, .int v1_time, .int v1_position])), (h2, .inr (8, [.ref h8, .ref h9, .ref h3, .ref h5])), (h3, .inr (2, [.ref h4, .int v3_most, .int v3_rungs])), (h4, .inl (cI, 6, .inl r4)), (h5, .inr (4, [.ref h6, .ref h7, .int v5_total, .int v5_phases])), (h6, .inl (cI, 20, .inl r6)), (h7, .inl (cI, 20, .inl r7)), (h8, .inl (cI, 15, .inl r8)), (h9, .inr (2, [.ref h10, .int v9_most, .int v9_rungs])), (h10, .inl (cI, 6, .inl r10))] sz)) 91 546 (va_A [(h0, .inr (9, [.ref h2, .ref h1, .ref kp0_scratch])), (h1, .inr (6, [.ref h2, .ref kp0_session_video, .ref kp0_session_audio, .ref kp0_session_samples, .ref kp0_session_download, .ref kp0_session_accounts, .ref kp0_session_line, .int v1_mode, .int v1_startThreshold, .int v1_lastRung, .int v1_lastChange, .int v1_state, .int v1_time, .int v1_position])), (h2, .inr (8, [.ref h8, .ref h9, .ref h3, .ref h5])), (h3, .inr (2, [.ref h4, .int v3_most, .int v3_rungs])), (h4, .inl (cI, 6, .inl r4)), (h5, .inr (4, [.ref h6, .ref h7, .int v5_total, .int v5_phases])), (h6, .inl (cI, 20, .inl r6)), (h7, .inl (cI, 20, .inl r7)), (h8, .inl (cI, 15, .inl r8)), (h9, .inr (2, [.ref h10, .int v9_most, .int v9_rungs])), (h10, .inl (cI, 6, .inl r10))] sz) := by
  refine metScr (own := RL) (by decide) rfl (Nat.le_of_ble_eq_true rfl) ?_
  intro p e s m below meth c S hr hlk hP hK A hAe hD hA hS hG hX hbl hbA ls hl
  clear hAe
  have hx := S.1
  have hb := S.2.1
  have hl : lv_has ls 8 [(0, .ref h0), (1, .ref b)] := hl
  refine lv_aload_n hx hb dL_settings_0 rfl (lv_at hl 1 rfl) ?_
  refine lv_iconst (v := 0) hx hb dL_settings_1 li_0 ?_
  obtain ⟨y1, e_y1, h⟩ := obnd_eq h
  refine ccS (pc1 := 5) (rest := []) (st1 := [.int y1]) hX hbl hbA hS S (c_L_cell l b L xs 0 y1 e_y1) (cw_L_71 S.2.2.2.2 ⟨Nat.le_of_ble_eq_true rfl, Nat.le_of_ble_eq_true rfl⟩) rfl hl.1 rfl (Nat.le_of_ble_eq_true rfl) (lwf_L_settings (by omega) (by omega)) rfl rfl dL_settings_2 ?_
  refine lv_istore_n (lv' := [(2, .int y1), (0, .ref h0), (1, .ref b)]) hx hb dL_settings_5 rfl hl (by decide) rfl (fun ls hl => ?_)
  refine lv_aload_n hx hb dL_settings_6 rfl (lv_at hl 2 rfl) ?_
  refine lv_iconst (v := 1) hx hb dL_settings_7 li_1 ?_
  obtain ⟨y2, e_y2, h⟩ := obnd_eq h
  refine ccS (pc1 := 11) (rest := []) (st1 := [.int y2]) hX hbl hbA hS S (c_L_cell l b L xs 1 y2 e_y2) (cw_L_71 S.2.2.2.2 ⟨Nat.le_of_ble_eq_true rfl, Nat.le_of_ble_eq_true rfl⟩) rfl hl.1 rfl (Nat.le_of_ble_eq_true rfl) (lwf_L_settings (by omega) (by omega)) rfl rfl dL_settings_8 ?_
  refine lv_istore_n (lv' := [(3, .int y2), (2, .int y1), (0, .ref h0), (1, .ref b)]) hx hb dL_settings_11 rfl hl (by decide) rfl (fun ls hl => ?_)
  refine lv_bipush (v := 100) hx hb dL_settings_12 lb_100 ?_
  refine lv_iload_n hx hb dL_settings_14 rfl (lv_at hl 1 rfl) ?_
  refine lv_sipush (v := 2000) hx hb dL_settings_15 ls_2000 ?_
  obtain ⟨y3, e_y3, h⟩ := obnd_eq h
  refine rdS (pc1 := 21) (rest := [.int 100]) (st1 := [.int y3, .int 100]) S (c_L_up l D cI cJ cC  y1 2000 y3 e_y3) (cw_L_75 S.2.2.2.2 ⟨Nat.le_of_ble_eq_true rfl, Nat.le_of_ble_eq_true rfl⟩) hK (hP.sub [] rfl) rfl hl.1 rfl (Nat.le_of_ble_eq_true rfl) (lwf_L_settings (by omega) (by omega)) rfl rfl dL_settings_18 ?_
  refine lv_iadd hx hb dL_settings_21 ?_
  refine lv_istore (lv' := [(4, .int (100 + y3)), (3, .int y2), (2, .int y1), (0, .ref h0), (1, .ref b)]) hx hb dL_settings_22 hl (by decide) rfl (fun ls hl => ?_)
  refine lv_aload_n hx hb dL_settings_24 rfl (lv_at hl 3 rfl) ?_
  refine lv_iconst (v := 0) hx hb dL_settings_25 li_0 ?_
  refine lv_iload hx hb dL_settings_26 (lv_at hl 0 rfl) ?_
  obtain ⟨y4, u5, e_y4, h⟩ := obnd2_eq h
  refine lcS (pc1 := 31) (rest := []) (st1 := [.int y4]) (wr := [(h3, .inr (2, [.ref h4, .int v3_most, .int v3_rungs])), (h4, .inl (cI, 6, .inl r4)), (h5, .inr (4, [.ref h6, .ref h7, .int v5_total, .int v5_phases])), (h6, .inl (cI, 20, .inl r6)), (h7, .inl (cI, 20, .inl r7)), (h9, .inr (2, [.ref h10, .int v9_most, .int v9_rungs])), (h10, .inl (cI, 6, .inl r10))]) (cells1 := 0 + 3) (slots1 := 0 + 18) S (c_L_set l hfl ga D cI cJ cC h0 h1 h2 h8 kp0_scratch kp0_session_video kp0_session_audio kp0_session_samples kp0_session_download kp0_session_accounts kp0_session_line h9 h3 h5 v1_mode v1_startThreshold v1_lastRung v1_lastChange v1_state v1_time v1_position r8 s.heap.size 0 (100 + y3) (y4, u5) e_y4) (cw_L_50 S.2.2.2.2 ⟨Nat.le_of_ble_eq_true rfl, Nat.le_of_ble_eq_true rfl⟩) hK hP hD hS hA hG [0, 1, 2, 8] [3, 4, 5, 6, 7, 9, 10] rfl rfl rfl (by decide) (by decide) (by decide) rfl hl.1 rfl (Nat.le_of_ble_eq_true rfl) (lwf_L_settings (by omega) (by omega)) rfl rfl rfl rfl dL_settings_28 (fun H locs hP hD hS => ?_)
  have hP : va_P D vwCl [(h3, .inr (2, [.ref h4, .int v3_most, .int v3_rungs])), (h4, .inl (cI, 6, .inl r4)), (h5, .inr (4, [.ref h6, .ref h7, .int v5_total, .int v5_phases])), (h6, .inl (cI, 20, .inl r6)), (h7, .inl (cI, 20, .inl r7)), (h9, .inr (2, [.ref h10, .int v9_most, .int v9_rungs])), (h10, .inl (cI, 6, .inl r10)), (h0, .inr (9, [.ref h2, .ref h1, .ref kp0_scratch])), (h1, .inr (6, [.ref h2, .ref kp0_session_video, .ref kp0_session_audio, .ref kp0_session_samples, .ref kp0_session_download, .ref kp0_session_accounts, .ref kp0_session_line, .int v1_mode, .int v1_startThreshold, .int v1_lastRung, .int v1_lastChange, .int v1_state, .int v1_time, .int v1_position])), (h2, .inr (8, [.ref h8, .ref h9, .ref h3, .ref h5])), (h8, .inl (cI, 15, .inl u5))] H := hP
  have hD : va_D A [(h3, .inr (2, [.ref h4, .int v3_most, .int v3_rungs])), (h4, .inl (cI, 6, .inl r4)), (h5, .inr (4, [.ref h6, .ref h7, .int v5_total, .int v5_phases])), (h6, .inl (cI, 20, .inl r6)), (h7, .inl (cI, 20, .inl r7)), (h9, .inr (2, [.ref h10, .int v9_most, .int v9_rungs])), (h10, .inl (cI, 6, .inl r10)), (h0, .inr (9, [.ref h2, .ref h1, .ref kp0_scratch])), (h1, .inr (6, [.ref h2, .ref kp0_session_video, .ref kp0_session_audio, .ref kp0_session_samples, .ref kp0_session_download, .ref kp0_session_accounts, .ref kp0_session_line, .int v1_mode, .int v1_startThreshold, .int v1_lastRung, .int v1_lastChange, .int v1_state, .int v1_time, .int v1_position])), (h2, .inr (8, [.ref h8, .ref h9, .ref h3, .ref h5])), (h8, .inl (cI, 15, .inl u5))] := hD
  refine lv_sipush (v := 2000) hx hb dL_settings_31 ls_2000 ?_
  refine lv_isub hx hb dL_settings_34 ?_
  refine lv_aload_n hx hb dL_settings_35 rfl (lv_at hl 3 rfl) ?_
  refine lv_iconst (v := 1) hx hb dL_settings_36 li_1 ?_
  refine lv_iconst (v := 1) hx hb dL_settings_37 li_1 ?_
  refine lv_iload_n hx hb dL_settings_38 rfl (lv_at hl 2 rfl) ?_
  refine lv_bipush (v := 11) hx hb dL_settings_39 lb_11 ?_
  refine lv_ishr hx hb dL_settings_41 ?_
  refine lv_bipush (v := 40) hx hb dL_settings_42 lb_40 ?_
  obtain ⟨y6, e_y6, h⟩ := obnd_eq h
  refine rdS (pc1 := 47) (rest := [.int 1, .int 1, .ref h0, .int (y4 - 2000)]) (st1 := [.int y6, .int 1, .int 1, .ref h0, .int (y4 - 2000)]) S (c_L_up l D cI cJ cC  (y1 >>> (11 &&& 31)) 40 y6 e_y6) (cw_L_75 S.2.2.2.2 ⟨Nat.le_of_ble_eq_true rfl, Nat.le_of_ble_eq_true rfl⟩) hK (hP.sub [] rfl) rfl hl.1 rfl (Nat.le_of_ble_eq_true rfl) (lwf_L_settings (by omega) (by omega)) rfl rfl dL_settings_44 ?_
  refine lv_iadd hx hb dL_settings_47 ?_
  obtain ⟨y7, u8, e_y7, h⟩ := obnd2_eq h
  refine lcS (pc1 := 51) (rest := [.int (y4 - 2000)]) (st1 := [.int y7, .int (y4 - 2000)]) (wr := [(h3, .inr (2, [.ref h4, .int v3_most, .int v3_rungs])), (h4, .inl (cI, 6, .inl r4)), (h5, .inr (4, [.ref h6, .ref h7, .int v5_total, .int v5_phases])), (h6, .inl (cI, 20, .inl r6)), (h7, .inl (cI, 20, .inl r7)), (h9, .inr (2, [.ref h10, .int v9_most, .int v9_rungs])), (h10, .inl (cI, 6, .inl r10))]) (cells1 := 0 + 3 + 3) (slots1 := 0 + 18 + 18) S (c_L_set l hfl ga D cI cJ cC h0 h1 h2 h8 kp0_scratch kp0_session_video kp0_session_audio kp0_session_samples kp0_session_download kp0_session_accounts kp0_session_line h9 h3 h5 v1_mode v1_startThreshold v1_lastRung v1_lastChange v1_state v1_time v1_position u5 H.size 1 (1 + y6) (y7, u8) e_y7) (cw_L_50 S.2.2.2.2 ⟨Nat.le_of_ble_eq_true rfl, Nat.le_of_ble_eq_true rfl⟩) hK hP hD hS hA hG [7, 8, 9, 10] [0, 1, 2, 3, 4, 5, 6] rfl rfl rfl (by decide) (by decide) (by decide) rfl hl.1 rfl (Nat.le_of_ble_eq_true rfl) (lwf_L_settings (by omega) (by omega)) rfl rfl rfl rfl dL_settings_48 (fun H locs hP hD hS => ?_)
  have hP : va_P D vwCl [(h3, .inr (2, [.ref h4, .int v3_most, .int v3_rungs])), (h4, .inl (cI, 6, .inl r4)), (h5, .inr (4, [.ref h6, .ref h7, .int v5_total, .int v5_phases])), (h6, .inl (cI, 20, .inl r6)), (h7, .inl (cI, 20, .inl r7)), (h9, .inr (2, [.ref h10, .int v9_most, .int v9_rungs])), (h10, .inl (cI, 6, .inl r10)), (h0, .inr (9, [.ref h2, .ref h1, .ref kp0_scratch])), (h1, .inr (6, [.ref h2, .ref kp0_session_video, .ref kp0_session_audio, .ref kp0_session_samples, .ref kp0_session_download, .ref kp0_session_accounts, .ref kp0_session_line, .int v1_mode, .int v1_startThreshold, .int v1_lastRung, .int v1_lastChange, .int v1_state, .int v1_time, .int v1_position])), (h2, .inr (8, [.ref h8, .ref h9, .ref h3, .ref h5])), (h8, .inl (cI, 15, .inl u8))] H := hP
  have hD : va_D A [(h3, .inr (2, [.ref h4, .int v3_most, .int v3_rungs])), (h4, .inl (cI, 6, .inl r4)), (h5, .inr (4, [.ref h6, .ref h7, .int v5_total, .int v5_phases])), (h6, .inl (cI, 20, .inl r6)), (h7, .inl (cI, 20, .inl r7)), (h9, .inr (2, [.ref h10, .int v9_most, .int v9_rungs])), (h10, .inl (cI, 6, .inl r10)), (h0, .inr (9, [.ref h2, .ref h1, .ref kp0_scratch])), (h1, .inr (6, [.ref h2, .ref kp0_session_video, .ref kp0_session_audio, .ref kp0_session_samples, .ref kp0_session_download, .ref kp0_session_accounts, .ref kp0_session_line, .int v1_mode, .int v1_startThreshold, .int v1_lastRung, .int v1_lastChange, .int v1_state, .int v1_time, .int v1_position])), (h2, .inr (8, [.ref h8, .ref h9, .ref h3, .ref h5])), (h8, .inl (cI, 15, .inl u8))] := hD
  refine lv_iadd hx hb dL_settings_51 ?_
  refine lv_bipush (v := 30) hx hb dL_settings_52 lb_30 ?_
  refine lv_isub hx hb dL_settings_54 ?_
  refine lv_aload_n hx hb dL_settings_55 rfl (lv_at hl 3 rfl) ?_
  refine lv_iconst (v := 2) hx hb dL_settings_56 li_2 ?_
  refine lv_iload_n hx hb dL_settings_57 rfl (lv_at hl 2 rfl) ?_
  refine lv_bipush (v := 17) hx hb dL_settings_58 lb_17 ?_
  refine lv_ishr hx hb dL_settings_60 ?_
  refine lv_sipush (v := 300) hx hb dL_settings_61 ls_300 ?_
  obtain ⟨y9, e_y9, h⟩ := obnd_eq h
  refine rdS (pc1 := 67) (rest := [.int 2, .ref h0, .int (((y4 - 2000) + y7) - 30)]) (st1 := [.int y9, .int 2, .ref h0, .int (((y4 - 2000) + y7) - 30)]) S (c_L_up l D cI cJ cC  (y1 >>> (17 &&& 31)) 300 y9 e_y9) (cw_L_75 S.2.2.2.2 ⟨Nat.le_of_ble_eq_true rfl, Nat.le_of_ble_eq_true rfl⟩) hK (hP.sub [] rfl) rfl hl.1 rfl (Nat.le_of_ble_eq_true rfl) (lwf_L_settings (by omega) (by omega)) rfl rfl dL_settings_64 ?_
  obtain ⟨y10, u11, e_y10, h⟩ := obnd2_eq h
  refine lcS (pc1 := 70) (rest := [.int (((y4 - 2000) + y7) - 30)]) (st1 := [.int y10, .int (((y4 - 2000) + y7) - 30)]) (wr := [(h3, .inr (2, [.ref h4, .int v3_most, .int v3_rungs])), (h4, .inl (cI, 6, .inl r4)), (h5, .inr (4, [.ref h6, .ref h7, .int v5_total, .int v5_phases])), (h6, .inl (cI, 20, .inl r6)), (h7, .inl (cI, 20, .inl r7)), (h9, .inr (2, [.ref h10, .int v9_most, .int v9_rungs])), (h10, .inl (cI, 6, .inl r10))]) (cells1 := 0 + 3 + 3 + 3) (slots1 := 0 + 18 + 18 + 18) S (c_L_set l hfl ga D cI cJ cC h0 h1 h2 h8 kp0_scratch kp0_session_video kp0_session_audio kp0_session_samples kp0_session_download kp0_session_accounts kp0_session_line h9 h3 h5 v1_mode v1_startThreshold v1_lastRung v1_lastChange v1_state v1_time v1_position u8 H.size 2 y9 (y10, u11) e_y10) (cw_L_50 S.2.2.2.2 ⟨Nat.le_of_ble_eq_true rfl, Nat.le_of_ble_eq_true rfl⟩) hK hP hD hS hA hG [7, 8, 9, 10] [0, 1, 2, 3, 4, 5, 6] rfl rfl rfl (by decide) (by decide) (by decide) rfl hl.1 rfl (Nat.le_of_ble_eq_true rfl) (lwf_L_settings (by omega) (by omega)) rfl rfl rfl rfl dL_settings_67 (fun H locs hP hD hS => ?_)
  have hP : va_P D vwCl [(h3, .inr (2, [.ref h4, .int v3_most, .int v3_rungs])), (h4, .inl (cI, 6, .inl r4)), (h5, .inr (4, [.ref h6, .ref h7, .int v5_total, .int v5_phases])), (h6, .inl (cI, 20, .inl r6)), (h7, .inl (cI, 20, .inl r7)), (h9, .inr (2, [.ref h10, .int v9_most, .int v9_rungs])), (h10, .inl (cI, 6, .inl r10)), (h0, .inr (9, [.ref h2, .ref h1, .ref kp0_scratch])), (h1, .inr (6, [.ref h2, .ref kp0_session_video, .ref kp0_session_audio, .ref kp0_session_samples, .ref kp0_session_download, .ref kp0_session_accounts, .ref kp0_session_line, .int v1_mode, .int v1_startThreshold, .int v1_lastRung, .int v1_lastChange, .int v1_state, .int v1_time, .int v1_position])), (h2, .inr (8, [.ref h8, .ref h9, .ref h3, .ref h5])), (h8, .inl (cI, 15, .inl u11))] H := hP
  have hD : va_D A [(h3, .inr (2, [.ref h4, .int v3_most, .int v3_rungs])), (h4, .inl (cI, 6, .inl r4)), (h5, .inr (4, [.ref h6, .ref h7, .int v5_total, .int v5_phases])), (h6, .inl (cI, 20, .inl r6)), (h7, .inl (cI, 20, .inl r7)), (h9, .inr (2, [.ref h10, .int v9_most, .int v9_rungs])), (h10, .inl (cI, 6, .inl r10)), (h0, .inr (9, [.ref h2, .ref h1, .ref kp0_scratch])), (h1, .inr (6, [.ref h2, .ref kp0_session_video, .ref kp0_session_audio, .ref kp0_session_samples, .ref kp0_session_download, .ref kp0_session_accounts, .ref kp0_session_line, .int v1_mode, .int v1_startThreshold, .int v1_lastRung, .int v1_lastChange, .int v1_state, .int v1_time, .int v1_position])), (h2, .inr (8, [.ref h8, .ref h9, .ref h3, .ref h5])), (h8, .inl (cI, 15, .inl u11))] := hD
  refine lv_iadd hx hb dL_settings_70 ?_
  refine lv_bipush (v := 50) hx hb dL_settings_71 lb_50 ?_
  refine lv_isub hx hb dL_settings_73 ?_
  refine lv_aload_n hx hb dL_settings_74 rfl (lv_at hl 3 rfl) ?_
  refine lv_iconst (v := 3) hx hb dL_settings_75 li_3 ?_
  refine lv_iload_n hx hb dL_settings_76 rfl (lv_at hl 1 rfl) ?_
  refine lv_sipush (v := 6000) hx hb dL_settings_77 ls_6000 ?_
  obtain ⟨y12, e_y12, h⟩ := obnd_eq h
  refine rdS (pc1 := 83) (rest := [.int 3, .ref h0, .int (((((y4 - 2000) + y7) - 30) + y10) - 50)]) (st1 := [.int y12, .int 3, .ref h0, .int (((((y4 - 2000) + y7) - 30) + y10) - 50)]) S (c_L_up l D cI cJ cC  y2 6000 y12 e_y12) (cw_L_75 S.2.2.2.2 ⟨Nat.le_of_ble_eq_true rfl, Nat.le_of_ble_eq_true rfl⟩) hK (hP.sub [] rfl) rfl hl.1 rfl (Nat.le_of_ble_eq_true rfl) (lwf_L_settings (by omega) (by omega)) rfl rfl dL_settings_80 ?_
  obtain ⟨y13, u14, e_y13, h⟩ := obnd2_eq h
  refine lcS (pc1 := 86) (rest := [.int (((((y4 - 2000) + y7) - 30) + y10) - 50)]) (st1 := [.int y13, .int (((((y4 - 2000) + y7) - 30) + y10) - 50)]) (wr := [(h3, .inr (2, [.ref h4, .int v3_most, .int v3_rungs])), (h4, .inl (cI, 6, .inl r4)), (h5, .inr (4, [.ref h6, .ref h7, .int v5_total, .int v5_phases])), (h6, .inl (cI, 20, .inl r6)), (h7, .inl (cI, 20, .inl r7)), (h9, .inr (2, [.ref h10, .int v9_most, .int v9_rungs])), (h10, .inl (cI, 6, .inl r10))]) (cells1 := 0 + 3 + 3 + 3 + 3) (slots1 := 0 + 18 + 18 + 18 + 18) S (c_L_set l hfl ga D cI cJ cC h0 h1 h2 h8 kp0_scratch kp0_session_video kp0_session_audio kp0_session_samples kp0_session_download kp0_session_accounts kp0_session_line h9 h3 h5 v1_mode v1_startThreshold v1_lastRung v1_lastChange v1_state v1_time v1_position u11 H.size 3 y12 (y13, u14) e_y13) (cw_L_50 S.2.2.2.2 ⟨Nat.le_of_ble_eq_true rfl, Nat.le_of_ble_eq_true rfl⟩) hK hP hD hS hA hG [7, 8, 9, 10] [0, 1, 2, 3, 4, 5, 6] rfl rfl rfl (by decide) (by decide) (by decide) rfl hl.1 rfl (Nat.le_of_ble_eq_true rfl) (lwf_L_settings (by omega) (by omega)) rfl rfl rfl rfl dL_settings_83 (fun H locs hP hD hS => ?_)
  have hP : va_P D vwCl [(h3, .inr (2, [.ref h4, .int v3_most, .int v3_rungs])), (h4, .inl (cI, 6, .inl r4)), (h5, .inr (4, [.ref h6, .ref h7, .int v5_total, .int v5_phases])), (h6, .inl (cI, 20, .inl r6)), (h7, .inl (cI, 20, .inl r7)), (h9, .inr (2, [.ref h10, .int v9_most, .int v9_rungs])), (h10, .inl (cI, 6, .inl r10)), (h0, .inr (9, [.ref h2, .ref h1, .ref kp0_scratch])), (h1, .inr (6, [.ref h2, .ref kp0_session_video, .ref kp0_session_audio, .ref kp0_session_samples, .ref kp0_session_download, .ref kp0_session_accounts, .ref kp0_session_line, .int v1_mode, .int v1_startThreshold, .int v1_lastRung, .int v1_lastChange, .int v1_state, .int v1_time, .int v1_position])), (h2, .inr (8, [.ref h8, .ref h9, .ref h3, .ref h5])), (h8, .inl (cI, 15, .inl u14))] H := hP
  have hD : va_D A [(h3, .inr (2, [.ref h4, .int v3_most, .int v3_rungs])), (h4, .inl (cI, 6, .inl r4)), (h5, .inr (4, [.ref h6, .ref h7, .int v5_total, .int v5_phases])), (h6, .inl (cI, 20, .inl r6)), (h7, .inl (cI, 20, .inl r7)), (h9, .inr (2, [.ref h10, .int v9_most, .int v9_rungs])), (h10, .inl (cI, 6, .inl r10)), (h0, .inr (9, [.ref h2, .ref h1, .ref kp0_scratch])), (h1, .inr (6, [.ref h2, .ref kp0_session_video, .ref kp0_session_audio, .ref kp0_session_samples, .ref kp0_session_download, .ref kp0_session_accounts, .ref kp0_session_line, .int v1_mode, .int v1_startThreshold, .int v1_lastRung, .int v1_lastChange, .int v1_state, .int v1_time, .int v1_position])), (h2, .inr (8, [.ref h8, .ref h9, .ref h3, .ref h5])), (h8, .inl (cI, 15, .inl u14))] := hD
  refine lv_iadd hx hb dL_settings_86 ?_
  refine lv_sipush (v := 2000) hx hb dL_settings_87 ls_2000 ?_
  refine lv_isub hx hb dL_settings_90 ?_
  refine lv_aload_n hx hb dL_settings_91 rfl (lv_at hl 3 rfl) ?_
  refine lv_iconst (v := 4) hx hb dL_settings_92 li_4 ?_
  refine lv_iload_n hx hb dL_settings_93 rfl (lv_at hl 1 rfl) ?_
  refine lv_bipush (v := 7) hx hb dL_settings_94 lb_7 ?_
  refine lv_ishr hx hb dL_settings_96 ?_
  refine lv_sipush (v := 6000) hx hb dL_settings_97 ls_6000 ?_
  obtain ⟨y15, e_y15, h⟩ := obnd_eq h
  refine rdS (pc1 := 103) (rest := [.int 4, .ref h0, .int (((((((y4 - 2000) + y7) - 30) + y10) - 50) + y13) - 2000)]) (st1 := [.int y15, .int 4, .ref h0, .int (((((((y4 - 2000) + y7) - 30) + y10) - 50) + y13) - 2000)]) S (c_L_up l D cI cJ cC  (y2 >>> (7 &&& 31)) 6000 y15 e_y15) (cw_L_75 S.2.2.2.2 ⟨Nat.le_of_ble_eq_true rfl, Nat.le_of_ble_eq_true rfl⟩) hK (hP.sub [] rfl) rfl hl.1 rfl (Nat.le_of_ble_eq_true rfl) (lwf_L_settings (by omega) (by omega)) rfl rfl dL_settings_100 ?_
  obtain ⟨y16, u17, e_y16, h⟩ := obnd2_eq h
  refine lcS (pc1 := 106) (rest := [.int (((((((y4 - 2000) + y7) - 30) + y10) - 50) + y13) - 2000)]) (st1 := [.int y16, .int (((((((y4 - 2000) + y7) - 30) + y10) - 50) + y13) - 2000)]) (wr := [(h3, .inr (2, [.ref h4, .int v3_most, .int v3_rungs])), (h4, .inl (cI, 6, .inl r4)), (h5, .inr (4, [.ref h6, .ref h7, .int v5_total, .int v5_phases])), (h6, .inl (cI, 20, .inl r6)), (h7, .inl (cI, 20, .inl r7)), (h9, .inr (2, [.ref h10, .int v9_most, .int v9_rungs])), (h10, .inl (cI, 6, .inl r10))]) (cells1 := 0 + 3 + 3 + 3 + 3 + 3) (slots1 := 0 + 18 + 18 + 18 + 18 + 18) S (c_L_set l hfl ga D cI cJ cC h0 h1 h2 h8 kp0_scratch kp0_session_video kp0_session_audio kp0_session_samples kp0_session_download kp0_session_accounts kp0_session_line h9 h3 h5 v1_mode v1_startThreshold v1_lastRung v1_lastChange v1_state v1_time v1_position u14 H.size 4 y15 (y16, u17) e_y16) (cw_L_50 S.2.2.2.2 ⟨Nat.le_of_ble_eq_true rfl, Nat.le_of_ble_eq_true rfl⟩) hK hP hD hS hA hG [7, 8, 9, 10] [0, 1, 2, 3, 4, 5, 6] rfl rfl rfl (by decide) (by decide) (by decide) rfl hl.1 rfl (Nat.le_of_ble_eq_true rfl) (lwf_L_settings (by omega) (by omega)) rfl rfl rfl rfl dL_settings_103 (fun H locs hP hD hS => ?_)
  have hP : va_P D vwCl [(h3, .inr (2, [.ref h4, .int v3_most, .int v3_rungs])), (h4, .inl (cI, 6, .inl r4)), (h5, .inr (4, [.ref h6, .ref h7, .int v5_total, .int v5_phases])), (h6, .inl (cI, 20, .inl r6)), (h7, .inl (cI, 20, .inl r7)), (h9, .inr (2, [.ref h10, .int v9_most, .int v9_rungs])), (h10, .inl (cI, 6, .inl r10)), (h0, .inr (9, [.ref h2, .ref h1, .ref kp0_scratch])), (h1, .inr (6, [.ref h2, .ref kp0_session_video, .ref kp0_session_audio, .ref kp0_session_samples, .ref kp0_session_download, .ref kp0_session_accounts, .ref kp0_session_line, .int v1_mode, .int v1_startThreshold, .int v1_lastRung, .int v1_lastChange, .int v1_state, .int v1_time, .int v1_position])), (h2, .inr (8, [.ref h8, .ref h9, .ref h3, .ref h5])), (h8, .inl (cI, 15, .inl u17))] H := hP
  have hD : va_D A [(h3, .inr (2, [.ref h4, .int v3_most, .int v3_rungs])), (h4, .inl (cI, 6, .inl r4)), (h5, .inr (4, [.ref h6, .ref h7, .int v5_total, .int v5_phases])), (h6, .inl (cI, 20, .inl r6)), (h7, .inl (cI, 20, .inl r7)), (h9, .inr (2, [.ref h10, .int v9_most, .int v9_rungs])), (h10, .inl (cI, 6, .inl r10)), (h0, .inr (9, [.ref h2, .ref h1, .ref kp0_scratch])), (h1, .inr (6, [.ref h2, .ref kp0_session_video, .ref kp0_session_audio, .ref kp0_session_samples, .ref kp0_session_download, .ref kp0_session_accounts, .ref kp0_session_line, .int v1_mode, .int v1_startThreshold, .int v1_lastRung, .int v1_lastChange, .int v1_state, .int v1_time, .int v1_position])), (h2, .inr (8, [.ref h8, .ref h9, .ref h3, .ref h5])), (h8, .inl (cI, 15, .inl u17))] := hD
  refine lv_iadd hx hb dL_settings_106 ?_
  refine lv_sipush (v := 2000) hx hb dL_settings_107 ls_2000 ?_
  refine lv_isub hx hb dL_settings_110 ?_
  refine lv_topi (fun y18 e_y18 => ?_)
  have h := bnd_eq e_y18.symm h
  refine lv_istore (lv' := [(5, .int y18), (4, .int (100 + y3)), (3, .int y2), (2, .int y1), (0, .ref h0), (1, .ref b)]) hx hb dL_settings_111 hl (by decide) rfl (fun ls hl => ?_)
  refine lv_iload hx hb dL_settings_113 (lv_at hl 0 rfl) ?_
  refine lv_aload_n hx hb dL_settings_115 rfl (lv_at hl 4 rfl) ?_
  refine lv_bipush (v := 12) hx hb dL_settings_116 lb_12 ?_
  refine lv_iload_n hx hb dL_settings_118 rfl (lv_at hl 2 rfl) ?_
  refine lv_bipush (v := 14) hx hb dL_settings_119 lb_14 ?_
  refine lv_ishr hx hb dL_settings_121 ?_
  refine lv_iconst (v := 3) hx hb dL_settings_122 li_3 ?_
  obtain ⟨y19, e_y19, h⟩ := obnd_eq h
  refine rdS (pc1 := 126) (rest := [.int 12, .ref h0, .int y18]) (st1 := [.int y19, .int 12, .ref h0, .int y18]) S (c_L_up l D cI cJ cC  (y2 >>> (14 &&& 31)) 3 y19 e_y19) (cw_L_75 S.2.2.2.2 ⟨Nat.le_of_ble_eq_true rfl, Nat.le_of_ble_eq_true rfl⟩) hK (hP.sub [] rfl) rfl hl.1 rfl (Nat.le_of_ble_eq_true rfl) (lwf_L_settings (by omega) (by omega)) rfl rfl dL_settings_123 ?_
  obtain ⟨y20, u21, e_y20, h⟩ := obnd2_eq h
  refine lcS (pc1 := 129) (rest := [.int y18]) (st1 := [.int y20, .int y18]) (wr := [(h3, .inr (2, [.ref h4, .int v3_most, .int v3_rungs])), (h4, .inl (cI, 6, .inl r4)), (h5, .inr (4, [.ref h6, .ref h7, .int v5_total, .int v5_phases])), (h6, .inl (cI, 20, .inl r6)), (h7, .inl (cI, 20, .inl r7)), (h9, .inr (2, [.ref h10, .int v9_most, .int v9_rungs])), (h10, .inl (cI, 6, .inl r10))]) (cells1 := 0 + 3 + 3 + 3 + 3 + 3 + 3) (slots1 := 0 + 18 + 18 + 18 + 18 + 18 + 18) S (c_L_set l hfl ga D cI cJ cC h0 h1 h2 h8 kp0_scratch kp0_session_video kp0_session_audio kp0_session_samples kp0_session_download kp0_session_accounts kp0_session_line h9 h3 h5 v1_mode v1_startThreshold v1_lastRung v1_lastChange v1_state v1_time v1_position u17 H.size 12 y19 (y20, u21) e_y20) (cw_L_50 S.2.2.2.2 ⟨Nat.le_of_ble_eq_true rfl, Nat.le_of_ble_eq_true rfl⟩) hK hP hD hS hA hG [7, 8, 9, 10] [0, 1, 2, 3, 4, 5, 6] rfl rfl rfl (by decide) (by decide) (by decide) rfl hl.1 rfl (Nat.le_of_ble_eq_true rfl) (lwf_L_settings (by omega) (by omega)) rfl rfl rfl rfl dL_settings_126 (fun H locs hP hD hS => ?_)
  have hP : va_P D vwCl [(h3, .inr (2, [.ref h4, .int v3_most, .int v3_rungs])), (h4, .inl (cI, 6, .inl r4)), (h5, .inr (4, [.ref h6, .ref h7, .int v5_total, .int v5_phases])), (h6, .inl (cI, 20, .inl r6)), (h7, .inl (cI, 20, .inl r7)), (h9, .inr (2, [.ref h10, .int v9_most, .int v9_rungs])), (h10, .inl (cI, 6, .inl r10)), (h0, .inr (9, [.ref h2, .ref h1, .ref kp0_scratch])), (h1, .inr (6, [.ref h2, .ref kp0_session_video, .ref kp0_session_audio, .ref kp0_session_samples, .ref kp0_session_download, .ref kp0_session_accounts, .ref kp0_session_line, .int v1_mode, .int v1_startThreshold, .int v1_lastRung, .int v1_lastChange, .int v1_state, .int v1_time, .int v1_position])), (h2, .inr (8, [.ref h8, .ref h9, .ref h3, .ref h5])), (h8, .inl (cI, 15, .inl u21))] H := hP
  have hD : va_D A [(h3, .inr (2, [.ref h4, .int v3_most, .int v3_rungs])), (h4, .inl (cI, 6, .inl r4)), (h5, .inr (4, [.ref h6, .ref h7, .int v5_total, .int v5_phases])), (h6, .inl (cI, 20, .inl r6)), (h7, .inl (cI, 20, .inl r7)), (h9, .inr (2, [.ref h10, .int v9_most, .int v9_rungs])), (h10, .inl (cI, 6, .inl r10)), (h0, .inr (9, [.ref h2, .ref h1, .ref kp0_scratch])), (h1, .inr (6, [.ref h2, .ref kp0_session_video, .ref kp0_session_audio, .ref kp0_session_samples, .ref kp0_session_download, .ref kp0_session_accounts, .ref kp0_session_line, .int v1_mode, .int v1_startThreshold, .int v1_lastRung, .int v1_lastChange, .int v1_state, .int v1_time, .int v1_position])), (h2, .inr (8, [.ref h8, .ref h9, .ref h3, .ref h5])), (h8, .inl (cI, 15, .inl u21))] := hD
  refine lv_iconst (v := 2) hx hb dL_settings_129 li_2 ?_
  refine lv_isub hx hb dL_settings_130 ?_
  refine lv_aload_n hx hb dL_settings_131 rfl (lv_at hl 4 rfl) ?_
  refine lv_bipush (v := 9) hx hb dL_settings_132 lb_9 ?_
  refine lv_bipush (v := 10) hx hb dL_settings_134 lb_10 ?_
  refine lv_iload_n hx hb dL_settings_136 rfl (lv_at hl 2 rfl) ?_
  refine lv_bipush (v := 16) hx hb dL_settings_137 lb_16 ?_
  refine lv_ishr hx hb dL_settings_139 ?_
  refine lv_bipush (v := 91) hx hb dL_settings_140 lb_91 ?_
  obtain ⟨y22, e_y22, h⟩ := obnd_eq h
  refine rdS (pc1 := 145) (rest := [.int 10, .int 9, .ref h0, .int (y20 - 2), .int y18]) (st1 := [.int y22, .int 10, .int 9, .ref h0, .int (y20 - 2), .int y18]) S (c_L_up l D cI cJ cC  (y2 >>> (16 &&& 31)) 91 y22 e_y22) (cw_L_75 S.2.2.2.2 ⟨Nat.le_of_ble_eq_true rfl, Nat.le_of_ble_eq_true rfl⟩) hK (hP.sub [] rfl) rfl hl.1 rfl (Nat.le_of_ble_eq_true rfl) (lwf_L_settings (by omega) (by omega)) rfl rfl dL_settings_142 ?_
  refine lv_iadd hx hb dL_settings_145 ?_
  obtain ⟨y23, u24, e_y23, h⟩ := obnd2_eq h
  refine lcS (pc1 := 149) (rest := [.int (y20 - 2), .int y18]) (st1 := [.int y23, .int (y20 - 2), .int y18]) (wr := [(h3, .inr (2, [.ref h4, .int v3_most, .int v3_rungs])), (h4, .inl (cI, 6, .inl r4)), (h5, .inr (4, [.ref h6, .ref h7, .int v5_total, .int v5_phases])), (h6, .inl (cI, 20, .inl r6)), (h7, .inl (cI, 20, .inl r7)), (h9, .inr (2, [.ref h10, .int v9_most, .int v9_rungs])), (h10, .inl (cI, 6, .inl r10))]) (cells1 := 0 + 3 + 3 + 3 + 3 + 3 + 3 + 3) (slots1 := 0 + 18 + 18 + 18 + 18 + 18 + 18 + 18) S (c_L_set l hfl ga D cI cJ cC h0 h1 h2 h8 kp0_scratch kp0_session_video kp0_session_audio kp0_session_samples kp0_session_download kp0_session_accounts kp0_session_line h9 h3 h5 v1_mode v1_startThreshold v1_lastRung v1_lastChange v1_state v1_time v1_position u21 H.size 9 (10 + y22) (y23, u24) e_y23) (cw_L_50 S.2.2.2.2 ⟨Nat.le_of_ble_eq_true rfl, Nat.le_of_ble_eq_true rfl⟩) hK hP hD hS hA hG [7, 8, 9, 10] [0, 1, 2, 3, 4, 5, 6] rfl rfl rfl (by decide) (by decide) (by decide) rfl hl.1 rfl (Nat.le_of_ble_eq_true rfl) (lwf_L_settings (by omega) (by omega)) rfl rfl rfl rfl dL_settings_146 (fun H locs hP hD hS => ?_)
  have hP : va_P D vwCl [(h3, .inr (2, [.ref h4, .int v3_most, .int v3_rungs])), (h4, .inl (cI, 6, .inl r4)), (h5, .inr (4, [.ref h6, .ref h7, .int v5_total, .int v5_phases])), (h6, .inl (cI, 20, .inl r6)), (h7, .inl (cI, 20, .inl r7)), (h9, .inr (2, [.ref h10, .int v9_most, .int v9_rungs])), (h10, .inl (cI, 6, .inl r10)), (h0, .inr (9, [.ref h2, .ref h1, .ref kp0_scratch])), (h1, .inr (6, [.ref h2, .ref kp0_session_video, .ref kp0_session_audio, .ref kp0_session_samples, .ref kp0_session_download, .ref kp0_session_accounts, .ref kp0_session_line, .int v1_mode, .int v1_startThreshold, .int v1_lastRung, .int v1_lastChange, .int v1_state, .int v1_time, .int v1_position])), (h2, .inr (8, [.ref h8, .ref h9, .ref h3, .ref h5])), (h8, .inl (cI, 15, .inl u24))] H := hP
  have hD : va_D A [(h3, .inr (2, [.ref h4, .int v3_most, .int v3_rungs])), (h4, .inl (cI, 6, .inl r4)), (h5, .inr (4, [.ref h6, .ref h7, .int v5_total, .int v5_phases])), (h6, .inl (cI, 20, .inl r6)), (h7, .inl (cI, 20, .inl r7)), (h9, .inr (2, [.ref h10, .int v9_most, .int v9_rungs])), (h10, .inl (cI, 6, .inl r10)), (h0, .inr (9, [.ref h2, .ref h1, .ref kp0_scratch])), (h1, .inr (6, [.ref h2, .ref kp0_session_video, .ref kp0_session_audio, .ref kp0_session_samples, .ref kp0_session_download, .ref kp0_session_accounts, .ref kp0_session_line, .int v1_mode, .int v1_startThreshold, .int v1_lastRung, .int v1_lastChange, .int v1_state, .int v1_time, .int v1_position])), (h2, .inr (8, [.ref h8, .ref h9, .ref h3, .ref h5])), (h8, .inl (cI, 15, .inl u24))] := hD
  refine lv_iadd hx hb dL_settings_149 ?_
  refine lv_bipush (v := 80) hx hb dL_settings_150 lb_80 ?_
  refine lv_isub hx hb dL_settings_152 ?_
  refine lv_aload_n hx hb dL_settings_153 rfl (lv_at hl 4 rfl) ?_
  refine lv_bipush (v := 11) hx hb dL_settings_154 lb_11 ?_
  refine lv_iload_n hx hb dL_settings_156 rfl (lv_at hl 2 rfl) ?_
  refine lv_bipush (v := 20) hx hb dL_settings_157 lb_20 ?_
  refine lv_ishr hx hb dL_settings_159 ?_
  refine lv_sipush (v := 1000) hx hb dL_settings_160 ls_1000 ?_
  obtain ⟨y25, e_y25, h⟩ := obnd_eq h
  refine rdS (pc1 := 166) (rest := [.int 11, .ref h0, .int (((y20 - 2) + y23) - 80), .int y18]) (st1 := [.int y25, .int 11, .ref h0, .int (((y20 - 2) + y23) - 80), .int y18]) S (c_L_up l D cI cJ cC  (y2 >>> (20 &&& 31)) 1000 y25 e_y25) (cw_L_75 S.2.2.2.2 ⟨Nat.le_of_ble_eq_true rfl, Nat.le_of_ble_eq_true rfl⟩) hK (hP.sub [] rfl) rfl hl.1 rfl (Nat.le_of_ble_eq_true rfl) (lwf_L_settings (by omega) (by omega)) rfl rfl dL_settings_163 ?_
  obtain ⟨y26, u27, e_y26, h⟩ := obnd2_eq h
  refine lcS (pc1 := 169) (rest := [.int (((y20 - 2) + y23) - 80), .int y18]) (st1 := [.int y26, .int (((y20 - 2) + y23) - 80), .int y18]) (wr := [(h3, .inr (2, [.ref h4, .int v3_most, .int v3_rungs])), (h4, .inl (cI, 6, .inl r4)), (h5, .inr (4, [.ref h6, .ref h7, .int v5_total, .int v5_phases])), (h6, .inl (cI, 20, .inl r6)), (h7, .inl (cI, 20, .inl r7)), (h9, .inr (2, [.ref h10, .int v9_most, .int v9_rungs])), (h10, .inl (cI, 6, .inl r10))]) (cells1 := 0 + 3 + 3 + 3 + 3 + 3 + 3 + 3 + 3) (slots1 := 0 + 18 + 18 + 18 + 18 + 18 + 18 + 18 + 18) S (c_L_set l hfl ga D cI cJ cC h0 h1 h2 h8 kp0_scratch kp0_session_video kp0_session_audio kp0_session_samples kp0_session_download kp0_session_accounts kp0_session_line h9 h3 h5 v1_mode v1_startThreshold v1_lastRung v1_lastChange v1_state v1_time v1_position u24 H.size 11 y25 (y26, u27) e_y26) (cw_L_50 S.2.2.2.2 ⟨Nat.le_of_ble_eq_true rfl, Nat.le_of_ble_eq_true rfl⟩) hK hP hD hS hA hG [7, 8, 9, 10] [0, 1, 2, 3, 4, 5, 6] rfl rfl rfl (by decide) (by decide) (by decide) rfl hl.1 rfl (Nat.le_of_ble_eq_true rfl) (lwf_L_settings (by omega) (by omega)) rfl rfl rfl rfl dL_settings_166 (fun H locs hP hD hS => ?_)
  have hP : va_P D vwCl [(h3, .inr (2, [.ref h4, .int v3_most, .int v3_rungs])), (h4, .inl (cI, 6, .inl r4)), (h5, .inr (4, [.ref h6, .ref h7, .int v5_total, .int v5_phases])), (h6, .inl (cI, 20, .inl r6)), (h7, .inl (cI, 20, .inl r7)), (h9, .inr (2, [.ref h10, .int v9_most, .int v9_rungs])), (h10, .inl (cI, 6, .inl r10)), (h0, .inr (9, [.ref h2, .ref h1, .ref kp0_scratch])), (h1, .inr (6, [.ref h2, .ref kp0_session_video, .ref kp0_session_audio, .ref kp0_session_samples, .ref kp0_session_download, .ref kp0_session_accounts, .ref kp0_session_line, .int v1_mode, .int v1_startThreshold, .int v1_lastRung, .int v1_lastChange, .int v1_state, .int v1_time, .int v1_position])), (h2, .inr (8, [.ref h8, .ref h9, .ref h3, .ref h5])), (h8, .inl (cI, 15, .inl u27))] H := hP
  have hD : va_D A [(h3, .inr (2, [.ref h4, .int v3_most, .int v3_rungs])), (h4, .inl (cI, 6, .inl r4)), (h5, .inr (4, [.ref h6, .ref h7, .int v5_total, .int v5_phases])), (h6, .inl (cI, 20, .inl r6)), (h7, .inl (cI, 20, .inl r7)), (h9, .inr (2, [.ref h10, .int v9_most, .int v9_rungs])), (h10, .inl (cI, 6, .inl r10)), (h0, .inr (9, [.ref h2, .ref h1, .ref kp0_scratch])), (h1, .inr (6, [.ref h2, .ref kp0_session_video, .ref kp0_session_audio, .ref kp0_session_samples, .ref kp0_session_download, .ref kp0_session_accounts, .ref kp0_session_line, .int v1_mode, .int v1_startThreshold, .int v1_lastRung, .int v1_lastChange, .int v1_state, .int v1_time, .int v1_position])), (h2, .inr (8, [.ref h8, .ref h9, .ref h3, .ref h5])), (h8, .inl (cI, 15, .inl u27))] := hD
  refine lv_iadd hx hb dL_settings_169 ?_
  refine lv_sipush (v := 500) hx hb dL_settings_170 ls_500 ?_
  refine lv_isub hx hb dL_settings_173 ?_
  refine lv_iadd hx hb dL_settings_174 ?_
  refine lv_topi (fun y28 e_y28 => ?_)
  have h := bnd_eq e_y28.symm h
  refine lv_istore (lv' := [(5, .int y28), (4, .int (100 + y3)), (3, .int y2), (2, .int y1), (0, .ref h0), (1, .ref b)]) hx hb dL_settings_175 hl (by decide) rfl (fun ls hl => ?_)
  refine lv_aload_n hx hb dL_settings_177 rfl (lv_at hl 5 rfl) ?_
  refine lv_iconst (v := 2) hx hb dL_settings_178 li_2 ?_
  obtain ⟨y29, e_y29, h⟩ := obnd_eq h
  refine ccS (pc1 := 182) (rest := []) (st1 := [.int y29]) hX hbl hbA hS S (c_L_cell l b L xs 2 y29 e_y29) (cw_L_71 S.2.2.2.2 ⟨Nat.le_of_ble_eq_true rfl, Nat.le_of_ble_eq_true rfl⟩) rfl hl.1 rfl (Nat.le_of_ble_eq_true rfl) (lwf_L_settings (by omega) (by omega)) rfl rfl dL_settings_179 ?_
  refine lv_istore_n (lv' := [(3, .int y29), (5, .int y28), (4, .int (100 + y3)), (2, .int y1), (0, .ref h0), (1, .ref b)]) hx hb dL_settings_182 rfl hl (by decide) rfl (fun ls hl => ?_)
  refine lv_iload hx hb dL_settings_183 (lv_at hl 1 rfl) ?_
  refine lv_aload_n hx hb dL_settings_185 rfl (lv_at hl 4 rfl) ?_
  refine lv_bipush (v := 10) hx hb dL_settings_186 lb_10 ?_
  refine lv_iload_n hx hb dL_settings_188 rfl (lv_at hl 0 rfl) ?_
  refine lv_sipush (v := 6000) hx hb dL_settings_189 ls_6000 ?_
  obtain ⟨y30, e_y30, h⟩ := obnd_eq h
  refine rdS (pc1 := 195) (rest := [.int 10, .ref h0, .int y28]) (st1 := [.int y30, .int 10, .ref h0, .int y28]) S (c_L_up l D cI cJ cC  y29 6000 y30 e_y30) (cw_L_75 S.2.2.2.2 ⟨Nat.le_of_ble_eq_true rfl, Nat.le_of_ble_eq_true rfl⟩) hK (hP.sub [] rfl) rfl hl.1 rfl (Nat.le_of_ble_eq_true rfl) (lwf_L_settings (by omega) (by omega)) rfl rfl dL_settings_192 ?_
  obtain ⟨y31, u32, e_y31, h⟩ := obnd2_eq h
  refine lcS (pc1 := 198) (rest := [.int y28]) (st1 := [.int y31, .int y28]) (wr := [(h3, .inr (2, [.ref h4, .int v3_most, .int v3_rungs])), (h4, .inl (cI, 6, .inl r4)), (h5, .inr (4, [.ref h6, .ref h7, .int v5_total, .int v5_phases])), (h6, .inl (cI, 20, .inl r6)), (h7, .inl (cI, 20, .inl r7)), (h9, .inr (2, [.ref h10, .int v9_most, .int v9_rungs])), (h10, .inl (cI, 6, .inl r10))]) (cells1 := 0 + 3 + 3 + 3 + 3 + 3 + 3 + 3 + 3 + 3) (slots1 := 0 + 18 + 18 + 18 + 18 + 18 + 18 + 18 + 18 + 18) S (c_L_set l hfl ga D cI cJ cC h0 h1 h2 h8 kp0_scratch kp0_session_video kp0_session_audio kp0_session_samples kp0_session_download kp0_session_accounts kp0_session_line h9 h3 h5 v1_mode v1_startThreshold v1_lastRung v1_lastChange v1_state v1_time v1_position u27 H.size 10 y30 (y31, u32) e_y31) (cw_L_50 S.2.2.2.2 ⟨Nat.le_of_ble_eq_true rfl, Nat.le_of_ble_eq_true rfl⟩) hK hP hD hS hA hG [7, 8, 9, 10] [0, 1, 2, 3, 4, 5, 6] rfl rfl rfl (by decide) (by decide) (by decide) rfl hl.1 rfl (Nat.le_of_ble_eq_true rfl) (lwf_L_settings (by omega) (by omega)) rfl rfl rfl rfl dL_settings_195 (fun H locs hP hD hS => ?_)
  have hP : va_P D vwCl [(h3, .inr (2, [.ref h4, .int v3_most, .int v3_rungs])), (h4, .inl (cI, 6, .inl r4)), (h5, .inr (4, [.ref h6, .ref h7, .int v5_total, .int v5_phases])), (h6, .inl (cI, 20, .inl r6)), (h7, .inl (cI, 20, .inl r7)), (h9, .inr (2, [.ref h10, .int v9_most, .int v9_rungs])), (h10, .inl (cI, 6, .inl r10)), (h0, .inr (9, [.ref h2, .ref h1, .ref kp0_scratch])), (h1, .inr (6, [.ref h2, .ref kp0_session_video, .ref kp0_session_audio, .ref kp0_session_samples, .ref kp0_session_download, .ref kp0_session_accounts, .ref kp0_session_line, .int v1_mode, .int v1_startThreshold, .int v1_lastRung, .int v1_lastChange, .int v1_state, .int v1_time, .int v1_position])), (h2, .inr (8, [.ref h8, .ref h9, .ref h3, .ref h5])), (h8, .inl (cI, 15, .inl u32))] H := hP
  have hD : va_D A [(h3, .inr (2, [.ref h4, .int v3_most, .int v3_rungs])), (h4, .inl (cI, 6, .inl r4)), (h5, .inr (4, [.ref h6, .ref h7, .int v5_total, .int v5_phases])), (h6, .inl (cI, 20, .inl r6)), (h7, .inl (cI, 20, .inl r7)), (h9, .inr (2, [.ref h10, .int v9_most, .int v9_rungs])), (h10, .inl (cI, 6, .inl r10)), (h0, .inr (9, [.ref h2, .ref h1, .ref kp0_scratch])), (h1, .inr (6, [.ref h2, .ref kp0_session_video, .ref kp0_session_audio, .ref kp0_session_samples, .ref kp0_session_download, .ref kp0_session_accounts, .ref kp0_session_line, .int v1_mode, .int v1_startThreshold, .int v1_lastRung, .int v1_lastChange, .int v1_state, .int v1_time, .int v1_position])), (h2, .inr (8, [.ref h8, .ref h9, .ref h3, .ref h5])), (h8, .inl (cI, 15, .inl u32))] := hD
  refine lv_aload_n hx hb dL_settings_198 rfl (lv_at hl 4 rfl) ?_
  refine lv_bipush (v := 13) hx hb dL_settings_199 lb_13 ?_
  refine lv_iload_n hx hb dL_settings_201 rfl (lv_at hl 0 rfl) ?_
  refine lv_bipush (v := 13) hx hb dL_settings_202 lb_13 ?_
  refine lv_ishr hx hb dL_settings_204 ?_
  refine lv_iconst (v := 3) hx hb dL_settings_205 li_3 ?_
  refine lv_iand hx hb dL_settings_206 ?_
  refine lv_if_ne (tgt := 223) hx hb dL_settings_207 (by decide) (fun c33 => ?_) (fun c33 => ?_)
  · have h := iteN c33 h
    refine lv_iconst (v := 0) hx hb dL_settings_223 li_0 ?_
    exact k_L_settings_b224 hfl S hr hlk hK hA hG hX hbl hbA v3_rungs r4 v5_total v5_phases r6 r7 u32 v9_rungs r10 y29 (100 + y3) y28 y31 13 0 (0 + 3 + 3 + 3 + 3 + 3 + 3 + 3 + 3 + 3) (0 + 18 + 18 + 18 + 18 + 18 + 18 + 18 + 18 + 18) _ _ _ (by omega) (by omega) h (hP.sub [7, 8, 9, 0, 1, 2, 3, 4, 10, 5, 6] rfl) (hD.sub [7, 8, 9, 0, 1, 2, 3, 4, 10, 5, 6] (by decide) rfl) hS (lv_sub hl [4, 5, 0, 2] rfl)
  · have h := iteP c33 h
    refine lv_iload_n hx hb dL_settings_210 rfl (lv_at hl 0 rfl) ?_
    refine lv_bipush (v := 15) hx hb dL_settings_211 lb_15 ?_
    refine lv_ishr hx hb dL_settings_213 ?_
    refine lv_sipush (v := 8000) hx hb dL_settings_214 ls_8000 ?_
    obtain ⟨y34, e_y34, h⟩ := obnd_eq h
    refine rdS (pc1 := 220) (rest := [.int 13, .ref h0, .int y31, .int y28]) (st1 := [.int y34, .int 13, .ref h0, .int y31, .int y28]) S (c_L_up l D cI cJ cC  (y29 >>> (15 &&& 31)) 8000 y34 e_y34) (cw_L_75 S.2.2.2.2 ⟨Nat.le_of_ble_eq_true rfl, Nat.le_of_ble_eq_true rfl⟩) hK (hP.sub [] rfl) rfl hl.1 rfl (Nat.le_of_ble_eq_true rfl) (lwf_L_settings (by omega) (by omega)) rfl rfl dL_settings_217 ?_
    refine lv_goto (tgt := 224) hx hb dL_settings_220 (by decide) ?_
    exact k_L_settings_b224 hfl S hr hlk hK hA hG hX hbl hbA v3_rungs r4 v5_total v5_phases r6 r7 u32 v9_rungs r10 y29 (100 + y3) y28 y31 13 y34 (0 + 3 + 3 + 3 + 3 + 3 + 3 + 3 + 3 + 3) (0 + 18 + 18 + 18 + 18 + 18 + 18 + 18 + 18 + 18) _ _ _ (by omega) (by omega) h (hP.sub [7, 8, 9, 0, 1, 2, 3, 4, 10, 5, 6] rfl) (hD.sub [7, 8, 9, 0, 1, 2, 3, 4, 10, 5, 6] (by decide) rfl) hS (lv_sub hl [4, 5, 0, 2] rfl)
