theorem dX8_readInstruction_16 : decode cX8_readInstruction 16 = .ok (.getfield 66, 3) := by decide +kernel
theorem dX8_readInstruction_19 : decode cX8_readInstruction 19 = .ok (.getfield 149, 3) := by decide +kernel
theorem dX8_readInstruction_22 : decode cX8_readInstruction 22 = .ok (.ifCond .ne 9, 3) := by decide +kernel
theorem dX8_readInstruction_25 : decode cX8_readInstruction 25 = .ok (.aload_n 0, 1) := by decide +kernel
theorem dX8_readInstruction_26 : decode cX8_readInstruction 26 = .ok (.iconst 1, 1) := by decide +kernel
theorem dX8_readInstruction_27 : decode cX8_readInstruction 27 = .ok (.invokevirtual 104, 3) := by decide +kernel
theorem dX8_readInstruction_30 : decode cX8_readInstruction 30 = .ok (.return_, 1) := by decide +kernel
theorem dX8_readInstruction_31 : decode cX8_readInstruction 31 = .ok (.aload_n 0, 1) := by decide +kernel
theorem dX8_readInstruction_32 : decode cX8_readInstruction 32 = .ok (.getfield 28, 3) := by decide +kernel
theorem dX8_readInstruction_35 : decode cX8_readInstruction 35 = .ok (.invokevirtual 153, 3) := by decide +kernel
theorem dX8_readInstruction_38 : decode cX8_readInstruction 38 = .ok (.istore_n 3, 1) := by decide +kernel
theorem dX8_readInstruction_39 : decode cX8_readInstruction 39 = .ok (.aload_n 0, 1) := by decide +kernel
theorem dX8_readInstruction_40 : decode cX8_readInstruction 40 = .ok (.getfield 28, 3) := by decide +kernel
theorem dX8_readInstruction_43 : decode cX8_readInstruction 43 = .ok (.aload_n 0, 1) := by decide +kernel
theorem dX8_readInstruction_44 : decode cX8_readInstruction 44 = .ok (.getfield 66, 3) := by decide +kernel
theorem dX8_readInstruction_47 : decode cX8_readInstruction 47 = .ok (.invokevirtual 157, 3) := by decide +kernel
theorem dX8_readInstruction_50 : decode cX8_readInstruction 50 = .ok (.astore 4, 2) := by decide +kernel
theorem dX8_readInstruction_52 : decode cX8_readInstruction 52 = .ok (.aload 4, 2) := by decide +kernel
theorem dX8_readInstruction_54 : decode cX8_readInstruction 54 = .ok (.ifnull 12, 3) := by decide +kernel
theorem dX8_readInstruction_57 : decode cX8_readInstruction 57 = .ok (.iload_n 3, 1) := by decide +kernel
theorem dX8_readInstruction_58 : decode cX8_readInstruction 58 = .ok (.aload_n 0, 1) := by decide +kernel
theorem dX8_readInstruction_59 : decode cX8_readInstruction 59 = .ok (.getfield 11, 3) := by decide +kernel
theorem dX8_readInstruction_62 : decode cX8_readInstruction 62 = .ok (.arraylength, 1) := by decide +kernel
theorem dX8_readInstruction_63 : decode cX8_readInstruction 63 = .ok (.if_icmp .lt 9, 3) := by decide +kernel
theorem dX8_readInstruction_66 : decode cX8_readInstruction 66 = .ok (.aload_n 0, 1) := by decide +kernel
theorem dX8_readInstruction_67 : decode cX8_readInstruction 67 = .ok (.iconst 2, 1) := by decide +kernel
theorem dX8_readInstruction_68 : decode cX8_readInstruction 68 = .ok (.invokevirtual 104, 3) := by decide +kernel
theorem dX8_readInstruction_71 : decode cX8_readInstruction 71 = .ok (.return_, 1) := by decide +kernel
theorem dX8_readInstruction_72 : decode cX8_readInstruction 72 = .ok (.aload_n 0, 1) := by decide +kernel
theorem dX8_readInstruction_73 : decode cX8_readInstruction 73 = .ok (.getfield 11, 3) := by decide +kernel
theorem dX8_readInstruction_76 : decode cX8_readInstruction 76 = .ok (.iload_n 3, 1) := by decide +kernel
theorem dX8_readInstruction_77 : decode cX8_readInstruction 77 = .ok (.lload_n 1, 1) := by decide +kernel
theorem dX8_readInstruction_78 : decode cX8_readInstruction 78 = .ok (.lastore, 1) := by decide +kernel
theorem dX8_readInstruction_79 : decode cX8_readInstruction 79 = .ok (.aload_n 0, 1) := by decide +kernel
theorem dX8_readInstruction_80 : decode cX8_readInstruction 80 = .ok (.getfield 17, 3) := by decide +kernel
theorem dX8_readInstruction_83 : decode cX8_readInstruction 83 = .ok (.iload_n 3, 1) := by decide +kernel
theorem dX8_readInstruction_84 : decode cX8_readInstruction 84 = .ok (.lconst 0, 1) := by decide +kernel
theorem dX8_readInstruction_85 : decode cX8_readInstruction 85 = .ok (.lastore, 1) := by decide +kernel
theorem dX8_readInstruction_86 : decode cX8_readInstruction 86 = .ok (.aload_n 0, 1) := by decide +kernel
theorem dX8_readInstruction_87 : decode cX8_readInstruction 87 = .ok (.getfield 66, 3) := by decide +kernel
theorem dX8_readInstruction_90 : decode cX8_readInstruction 90 = .ok (.getfield 161, 3) := by decide +kernel
theorem dX8_readInstruction_93 : decode cX8_readInstruction 93 = .ok (.astore 5, 2) := by decide +kernel
theorem dX8_readInstruction_95 : decode cX8_readInstruction 95 = .ok (.aload_n 0, 1) := by decide +kernel
theorem dX8_readInstruction_96 : decode cX8_readInstruction 96 = .ok (.invokevirtual 51, 3) := by decide +kernel
theorem dX8_readInstruction_99 : decode cX8_readInstruction 99 = .ok (.iconst 0, 1) := by decide +kernel
theorem dX8_readInstruction_100 : decode cX8_readInstruction 100 = .ok (.istore 6, 2) := by decide +kernel
theorem dX8_readInstruction_102 : decode cX8_readInstruction 102 = .ok (.iload 6, 2) := by decide +kernel
theorem dX8_readInstruction_104 : decode cX8_readInstruction 104 = .ok (.aload 5, 2) := by decide +kernel
theorem dX8_readInstruction_106 : decode cX8_readInstruction 106 = .ok (.invokevirtual 165, 3) := by decide +kernel
theorem dX8_readInstruction_109 : decode cX8_readInstruction 109 = .ok (.if_icmp .ge 29, 3) := by decide +kernel
theorem dX8_readInstruction_112 : decode cX8_readInstruction 112 = .ok (.aload_n 0, 1) := by decide +kernel
theorem dX8_readInstruction_113 : decode cX8_readInstruction 113 = .ok (.getfield 45, 3) := by decide +kernel
theorem dX8_readInstruction_116 : decode cX8_readInstruction 116 = .ok (.ifCond .ne 22, 3) := by decide +kernel
theorem dX8_readInstruction_119 : decode cX8_readInstruction 119 = .ok (.aload_n 0, 1) := by decide +kernel
theorem dX8_readInstruction_120 : decode cX8_readInstruction 120 = .ok (.aload 4, 2) := by decide +kernel
theorem dX8_readInstruction_122 : decode cX8_readInstruction 122 = .ok (.aload 5, 2) := by decide +kernel
theorem dX8_readInstruction_124 : decode cX8_readInstruction 124 = .ok (.iload 6, 2) := by decide +kernel
theorem dX8_readInstruction_126 : decode cX8_readInstruction 126 = .ok (.invokevirtual 169, 3) := by decide +kernel
theorem dX8_readInstruction_129 : decode cX8_readInstruction 129 = .ok (.invokevirtual 173, 3) := by decide +kernel
theorem dX8_readInstruction_132 : decode cX8_readInstruction 132 = .ok (.iinc 6 1, 3) := by decide +kernel
theorem dX8_readInstruction_135 : decode cX8_readInstruction 135 = .ok (.goto (-33), 3) := by decide +kernel
theorem dX8_readInstruction_138 : decode cX8_readInstruction 138 = .ok (.return_, 1) := by decide +kernel
theorem dX8_readPiece_0 : decode cX8_readPiece 0 = .ok (.iload_n 2, 1) := by decide +kernel
theorem dX8_readPiece_1 : decode cX8_readPiece 1 = .ok (.lookupswitch 452 #[(37, 310), (43, 381), (56, 301), (58, 239), (61, 290), (76, 262), (100, 367), (103, 431), (108, 248), (109, 276), (110, 445), (111, 417), (112, 155), (113, 197), (114, 319), (115, 333), (120, 170), (121, 212)], 155) := by decide +kernel
theorem dX8_readPiece_156 : decode cX8_readPiece 156 = .ok (.aload_n 1, 1) := by decide +kernel
theorem dX8_readPiece_157 : decode cX8_readPiece 157 = .ok (.aload_n 0, 1) := by decide +kernel
theorem dX8_readPiece_158 : decode cX8_readPiece 158 = .ok (.iconst 0, 1) := by decide +kernel
theorem dX8_readPiece_159 : decode cX8_readPiece 159 = .ok (.sipush 255, 3) := by decide +kernel
theorem dX8_readPiece_162 : decode cX8_readPiece 162 = .ok (.invokevirtual 92, 3) := by decide +kernel
theorem dX8_readPiece_165 : decode cX8_readPiece 165 = .ok (.putfield 177, 3) := by decide +kernel
theorem dX8_readPiece_168 : decode cX8_readPiece 168 = .ok (.goto 297, 3) := by decide +kernel
theorem dX8_readPiece_171 : decode cX8_readPiece 171 = .ok (.aload_n 1, 1) := by decide +kernel
theorem dX8_readPiece_172 : decode cX8_readPiece 172 = .ok (.aload_n 0, 1) := by decide +kernel
theorem dX8_readPiece_173 : decode cX8_readPiece 173 = .ok (.bipush 37, 2) := by decide +kernel
theorem dX8_readPiece_175 : decode cX8_readPiece 175 = .ok (.invokevirtual 124, 3) := by decide +kernel
theorem dX8_readPiece_178 : decode cX8_readPiece 178 = .ok (.ifCond .eq 13, 3) := by decide +kernel
theorem dX8_readPiece_181 : decode cX8_readPiece 181 = .ok (.aload_n 0, 1) := by decide +kernel
theorem dX8_readPiece_182 : decode cX8_readPiece 182 = .ok (.iconst 0, 1) := by decide +kernel
theorem dX8_readPiece_183 : decode cX8_readPiece 183 = .ok (.bipush 7, 2) := by decide +kernel
theorem dX8_readPiece_185 : decode cX8_readPiece 185 = .ok (.invokevirtual 92, 3) := by decide +kernel
theorem dX8_readPiece_188 : decode cX8_readPiece 188 = .ok (.goto 4, 3) := by decide +kernel
theorem dX8_readPiece_191 : decode cX8_readPiece 191 = .ok (.iconst (-1), 1) := by decide +kernel
theorem dX8_readPiece_192 : decode cX8_readPiece 192 = .ok (.putfield 182, 3) := by decide +kernel
theorem dX8_readPiece_195 : decode cX8_readPiece 195 = .ok (.goto 270, 3) := by decide +kernel
theorem dX8_readPiece_198 : decode cX8_readPiece 198 = .ok (.aload_n 1, 1) := by decide +kernel
theorem dX8_readPiece_199 : decode cX8_readPiece 199 = .ok (.aload_n 0, 1) := by decide +kernel
theorem dX8_readPiece_200 : decode cX8_readPiece 200 = .ok (.iconst 0, 1) := by decide +kernel
theorem dX8_readPiece_201 : decode cX8_readPiece 201 = .ok (.sipush 255, 3) := by decide +kernel
theorem dX8_readPiece_204 : decode cX8_readPiece 204 = .ok (.invokevirtual 92, 3) := by decide +kernel
theorem dX8_readPiece_207 : decode cX8_readPiece 207 = .ok (.putfield 185, 3) := by decide +kernel
theorem dX8_readPiece_210 : decode cX8_readPiece 210 = .ok (.goto 255, 3) := by decide +kernel
theorem dX8_readPiece_213 : decode cX8_readPiece 213 = .ok (.aload_n 1, 1) := by decide +kernel
theorem dX8_readPiece_214 : decode cX8_readPiece 214 = .ok (.aload_n 0, 1) := by decide +kernel
theorem dX8_readPiece_215 : decode cX8_readPiece 215 = .ok (.bipush 37, 2) := by decide +kernel
theorem dX8_readPiece_217 : decode cX8_readPiece 217 = .ok (.invokevirtual 124, 3) := by decide +kernel
theorem dX8_readPiece_220 : decode cX8_readPiece 220 = .ok (.ifCond .eq 13, 3) := by decide +kernel
theorem dX8_readPiece_223 : decode cX8_readPiece 223 = .ok (.aload_n 0, 1) := by decide +kernel
theorem dX8_readPiece_224 : decode cX8_readPiece 224 = .ok (.iconst 0, 1) := by decide +kernel
theorem dX8_readPiece_225 : decode cX8_readPiece 225 = .ok (.bipush 7, 2) := by decide +kernel
theorem dX8_readPiece_227 : decode cX8_readPiece 227 = .ok (.invokevirtual 92, 3) := by decide +kernel
theorem dX8_readPiece_230 : decode cX8_readPiece 230 = .ok (.goto 4, 3) := by decide +kernel
theorem dX8_readPiece_233 : decode cX8_readPiece 233 = .ok (.iconst (-1), 1) := by decide +kernel
theorem dX8_readPiece_234 : decode cX8_readPiece 234 = .ok (.putfield 188, 3) := by decide +kernel
theorem dX8_readPiece_237 : decode cX8_readPiece 237 = .ok (.goto 228, 3) := by decide +kernel
theorem dX8_readPiece_240 : decode cX8_readPiece 240 = .ok (.aload_n 0, 1) := by decide +kernel
theorem dX8_readPiece_241 : decode cX8_readPiece 241 = .ok (.bipush 58, 2) := by decide +kernel
theorem dX8_readPiece_243 : decode cX8_readPiece 243 = .ok (.invokevirtual 86, 3) := by decide +kernel
theorem dX8_readPiece_246 : decode cX8_readPiece 246 = .ok (.goto 219, 3) := by decide +kernel
theorem dX8_readPiece_249 : decode cX8_readPiece 249 = .ok (.aload_n 1, 1) := by decide +kernel
theorem dX8_readPiece_250 : decode cX8_readPiece 250 = .ok (.aload_n 0, 1) := by decide +kernel
theorem dX8_readPiece_251 : decode cX8_readPiece 251 = .ok (.iconst 1, 1) := by decide +kernel
theorem dX8_readPiece_252 : decode cX8_readPiece 252 = .ok (.bipush 16, 2) := by decide +kernel
theorem dX8_readPiece_254 : decode cX8_readPiece 254 = .ok (.invokevirtual 92, 3) := by decide +kernel
theorem dX8_readPiece_257 : decode cX8_readPiece 257 = .ok (.putfield 191, 3) := by decide +kernel
theorem dX8_readPiece_260 : decode cX8_readPiece 260 = .ok (.goto 205, 3) := by decide +kernel
theorem dX8_readPiece_263 : decode cX8_readPiece 263 = .ok (.aload_n 1, 1) := by decide +kernel
theorem dX8_readPiece_264 : decode cX8_readPiece 264 = .ok (.aload_n 0, 1) := by decide +kernel
theorem dX8_readPiece_265 : decode cX8_readPiece 265 = .ok (.iconst 1, 1) := by decide +kernel
theorem dX8_readPiece_266 : decode cX8_readPiece 266 = .ok (.bipush 64, 2) := by decide +kernel
theorem dX8_readPiece_268 : decode cX8_readPiece 268 = .ok (.invokevirtual 92, 3) := by decide +kernel
theorem dX8_readPiece_271 : decode cX8_readPiece 271 = .ok (.putfield 191, 3) := by decide +kernel
theorem dX8_readPiece_274 : decode cX8_readPiece 274 = .ok (.goto 191, 3) := by decide +kernel
theorem dX8_readPiece_277 : decode cX8_readPiece 277 = .ok (.aload_n 1, 1) := by decide +kernel
theorem dX8_readPiece_278 : decode cX8_readPiece 278 = .ok (.aload_n 0, 1) := by decide +kernel
theorem dX8_readPiece_279 : decode cX8_readPiece 279 = .ok (.iconst 1, 1) := by decide +kernel
theorem dX8_readPiece_280 : decode cX8_readPiece 280 = .ok (.bipush 16, 2) := by decide +kernel
theorem dX8_readPiece_282 : decode cX8_readPiece 282 = .ok (.invokevirtual 92, 3) := by decide +kernel
theorem dX8_readPiece_285 : decode cX8_readPiece 285 = .ok (.putfield 194, 3) := by decide +kernel
theorem dX8_readPiece_288 : decode cX8_readPiece 288 = .ok (.goto 177, 3) := by decide +kernel
theorem dX8_readPiece_291 : decode cX8_readPiece 291 = .ok (.aload_n 1, 1) := by decide +kernel
theorem dX8_readPiece_292 : decode cX8_readPiece 292 = .ok (.aload_n 1, 1) := by decide +kernel
theorem dX8_readPiece_293 : decode cX8_readPiece 293 = .ok (.getfield 191, 3) := by decide +kernel
theorem dX8_readPiece_296 : decode cX8_readPiece 296 = .ok (.putfield 194, 3) := by decide +kernel
theorem dX8_readPiece_299 : decode cX8_readPiece 299 = .ok (.goto 166, 3) := by decide +kernel
theorem dX8_readPiece_302 : decode cX8_readPiece 302 = .ok (.aload_n 1, 1) := by decide +kernel
theorem dX8_readPiece_303 : decode cX8_readPiece 303 = .ok (.bipush 8, 2) := by decide +kernel
theorem dX8_readPiece_305 : decode cX8_readPiece 305 = .ok (.putfield 191, 3) := by decide +kernel
theorem dX8_readPiece_308 : decode cX8_readPiece 308 = .ok (.goto 157, 3) := by decide +kernel
theorem dX8_readPiece_311 : decode cX8_readPiece 311 = .ok (.aload_n 0, 1) := by decide +kernel
theorem dX8_readPiece_312 : decode cX8_readPiece 312 = .ok (.bipush 37, 2) := by decide +kernel
theorem dX8_readPiece_314 : decode cX8_readPiece 314 = .ok (.invokevirtual 86, 3) := by decide +kernel
theorem dX8_readPiece_317 : decode cX8_readPiece 317 = .ok (.goto 148, 3) := by decide +kernel
theorem dX8_readPiece_320 : decode cX8_readPiece 320 = .ok (.aload_n 1, 1) := by decide +kernel
theorem dX8_readPiece_321 : decode cX8_readPiece 321 = .ok (.aload_n 0, 1) := by decide +kernel
theorem dX8_readPiece_322 : decode cX8_readPiece 322 = .ok (.iconst 0, 1) := by decide +kernel
theorem dX8_readPiece_323 : decode cX8_readPiece 323 = .ok (.bipush 7, 2) := by decide +kernel
theorem dX8_readPiece_325 : decode cX8_readPiece 325 = .ok (.invokevirtual 92, 3) := by decide +kernel
theorem dX8_readPiece_328 : decode cX8_readPiece 328 = .ok (.putfield 197, 3) := by decide +kernel
theorem dX8_readPiece_331 : decode cX8_readPiece 331 = .ok (.goto 134, 3) := by decide +kernel
theorem dX8_readPiece_334 : decode cX8_readPiece 334 = .ok (.aload_n 1, 1) := by decide +kernel
theorem dX8_readPiece_335 : decode cX8_readPiece 335 = .ok (.aload_n 0, 1) := by decide +kernel
theorem dX8_readPiece_336 : decode cX8_readPiece 336 = .ok (.bipush 45, 2) := by decide +kernel
theorem dX8_readPiece_338 : decode cX8_readPiece 338 = .ok (.invokevirtual 124, 3) := by decide +kernel
theorem dX8_readPiece_341 : decode cX8_readPiece 341 = .ok (.ifCond .eq 14, 3) := by decide +kernel
theorem dX8_readPiece_344 : decode cX8_readPiece 344 = .ok (.aload_n 0, 1) := by decide +kernel
theorem dX8_readPiece_345 : decode cX8_readPiece 345 = .ok (.iconst 0, 1) := by decide +kernel
theorem dX8_readPiece_346 : decode cX8_readPiece 346 = .ok (.bipush 32, 2) := by decide +kernel
theorem dX8_readPiece_348 : decode cX8_readPiece 348 = .ok (.invokevirtual 92, 3) := by decide +kernel
theorem dX8_readPiece_351 : decode cX8_readPiece 351 = .ok (.ineg, 1) := by decide +kernel
theorem dX8_readPiece_352 : decode cX8_readPiece 352 = .ok (.goto 10, 3) := by decide +kernel
theorem dX8_readPiece_355 : decode cX8_readPiece 355 = .ok (.aload_n 0, 1) := by decide +kernel
theorem dX8_readPiece_356 : decode cX8_readPiece 356 = .ok (.iconst 0, 1) := by decide +kernel
theorem dX8_readPiece_357 : decode cX8_readPiece 357 = .ok (.bipush 31, 2) := by decide +kernel
theorem dX8_readPiece_359 : decode cX8_readPiece 359 = .ok (.invokevirtual 92, 3) := by decide +kernel
theorem dX8_readPiece_362 : decode cX8_readPiece 362 = .ok (.putfield 200, 3) := by decide +kernel
theorem dX8_readPiece_365 : decode cX8_readPiece 365 = .ok (.goto 100, 3) := by decide +kernel
theorem dX8_readPiece_368 : decode cX8_readPiece 368 = .ok (.aload_n 1, 1) := by decide +kernel
theorem dX8_readPiece_369 : decode cX8_readPiece 369 = .ok (.aload_n 0, 1) := by decide +kernel
theorem dX8_readPiece_370 : decode cX8_readPiece 370 = .ok (.iconst 0, 1) := by decide +kernel
theorem dX8_readPiece_371 : decode cX8_readPiece 371 = .ok (.bipush 9, 2) := by decide +kernel
theorem dX8_readPiece_373 : decode cX8_readPiece 373 = .ok (.invokevirtual 92, 3) := by decide +kernel
theorem dX8_readPiece_376 : decode cX8_readPiece 376 = .ok (.putfield 203, 3) := by decide +kernel
theorem dX8_readPiece_379 : decode cX8_readPiece 379 = .ok (.goto 86, 3) := by decide +kernel
theorem dX8_readPiece_382 : decode cX8_readPiece 382 = .ok (.aload_n 1, 1) := by decide +kernel
theorem dX8_readPiece_383 : decode cX8_readPiece 383 = .ok (.aload_n 0, 1) := by decide +kernel
theorem dX8_readPiece_384 : decode cX8_readPiece 384 = .ok (.bipush 45, 2) := by decide +kernel
theorem dX8_readPiece_386 : decode cX8_readPiece 386 = .ok (.invokevirtual 124, 3) := by decide +kernel
theorem dX8_readPiece_389 : decode cX8_readPiece 389 = .ok (.ifCond .eq 15, 3) := by decide +kernel
theorem dX8_readPiece_392 : decode cX8_readPiece 392 = .ok (.aload_n 0, 1) := by decide +kernel
theorem dX8_readPiece_393 : decode cX8_readPiece 393 = .ok (.iconst 0, 1) := by decide +kernel
theorem dX8_readPiece_394 : decode cX8_readPiece 394 = .ok (.sipush 9999, 3) := by decide +kernel
theorem dX8_readPiece_397 : decode cX8_readPiece 397 = .ok (.invokevirtual 92, 3) := by decide +kernel
theorem dX8_readPiece_400 : decode cX8_readPiece 400 = .ok (.ineg, 1) := by decide +kernel
theorem dX8_readPiece_401 : decode cX8_readPiece 401 = .ok (.goto 11, 3) := by decide +kernel
theorem dX8_readPiece_404 : decode cX8_readPiece 404 = .ok (.aload_n 0, 1) := by decide +kernel
theorem dX8_readPiece_405 : decode cX8_readPiece 405 = .ok (.iconst 0, 1) := by decide +kernel
theorem dX8_readPiece_406 : decode cX8_readPiece 406 = .ok (.sipush 9999, 3) := by decide +kernel
theorem dX8_readPiece_409 : decode cX8_readPiece 409 = .ok (.invokevirtual 92, 3) := by decide +kernel
theorem dX8_readPiece_412 : decode cX8_readPiece 412 = .ok (.putfield 200, 3) := by decide +kernel
theorem dX8_readPiece_415 : decode cX8_readPiece 415 = .ok (.goto 50, 3) := by decide +kernel
theorem dX8_readPiece_418 : decode cX8_readPiece 418 = .ok (.aload_n 1, 1) := by decide +kernel
theorem dX8_readPiece_419 : decode cX8_readPiece 419 = .ok (.aload_n 0, 1) := by decide +kernel
theorem dX8_readPiece_420 : decode cX8_readPiece 420 = .ok (.iconst 0, 1) := by decide +kernel
theorem dX8_readPiece_421 : decode cX8_readPiece 421 = .ok (.bipush 15, 2) := by decide +kernel
theorem dX8_readPiece_423 : decode cX8_readPiece 423 = .ok (.invokevirtual 92, 3) := by decide +kernel
theorem dX8_readPiece_426 : decode cX8_readPiece 426 = .ok (.putfield 200, 3) := by decide +kernel
theorem dX8_readPiece_429 : decode cX8_readPiece 429 = .ok (.goto 36, 3) := by decide +kernel
theorem dX8_readPiece_432 : decode cX8_readPiece 432 = .ok (.aload_n 1, 1) := by decide +kernel
theorem dX8_readPiece_433 : decode cX8_readPiece 433 = .ok (.aload_n 0, 1) := by decide +kernel
theorem dX8_readPiece_434 : decode cX8_readPiece 434 = .ok (.iconst 1, 1) := by decide +kernel
theorem dX8_readPiece_435 : decode cX8_readPiece 435 = .ok (.bipush 8, 2) := by decide +kernel
theorem dX8_readPiece_437 : decode cX8_readPiece 437 = .ok (.invokevirtual 92, 3) := by decide +kernel
theorem dX8_readPiece_440 : decode cX8_readPiece 440 = .ok (.putfield 200, 3) := by decide +kernel
theorem dX8_readPiece_443 : decode cX8_readPiece 443 = .ok (.goto 22, 3) := by decide +kernel
theorem dX8_readPiece_446 : decode cX8_readPiece 446 = .ok (.aload_n 0, 1) := by decide +kernel
theorem dX8_readPiece_447 : decode cX8_readPiece 447 = .ok (.invokevirtual 206, 3) := by decide +kernel
theorem dX8_readPiece_450 : decode cX8_readPiece 450 = .ok (.goto 15, 3) := by decide +kernel
theorem dX8_readPiece_453 : decode cX8_readPiece 453 = .ok (.aload_n 0, 1) := by decide +kernel
theorem dX8_readPiece_454 : decode cX8_readPiece 454 = .ok (.getfield 54, 3) := by decide +kernel
theorem dX8_readPiece_457 : decode cX8_readPiece 457 = .ok (.iconst 1, 1) := by decide +kernel
theorem dX8_readPiece_458 : decode cX8_readPiece 458 = .ok (.if_icmp .ne 7, 3) := by decide +kernel
theorem dX8_readPiece_461 : decode cX8_readPiece 461 = .ok (.aload_n 0, 1) := by decide +kernel
theorem dX8_readPiece_462 : decode cX8_readPiece 462 = .ok (.invokevirtual 206, 3) := by decide +kernel
theorem dX8_readPiece_465 : decode cX8_readPiece 465 = .ok (.return_, 1) := by decide +kernel
theorem dX8_readTarget_0 : decode cX8_readTarget 0 = .ok (.aload_n 0, 1) := by decide +kernel
theorem dX8_readTarget_1 : decode cX8_readTarget 1 = .ok (.invokevirtual 142, 3) := by decide +kernel
theorem dX8_readTarget_4 : decode cX8_readTarget 4 = .ok (.lstore_n 1, 1) := by decide +kernel
theorem dX8_readTarget_5 : decode cX8_readTarget 5 = .ok (.aload_n 0, 1) := by decide +kernel
theorem dX8_readTarget_6 : decode cX8_readTarget 6 = .ok (.getfield 28, 3) := by decide +kernel
theorem dX8_readTarget_9 : decode cX8_readTarget 9 = .ok (.invokevirtual 153, 3) := by decide +kernel
theorem dX8_readTarget_12 : decode cX8_readTarget 12 = .ok (.iconst 1, 1) := by decide +kernel
theorem dX8_readTarget_13 : decode cX8_readTarget 13 = .ok (.isub, 1) := by decide +kernel
theorem dX8_readTarget_14 : decode cX8_readTarget 14 = .ok (.istore_n 3, 1) := by decide +kernel
theorem dX8_readTarget_15 : decode cX8_readTarget 15 = .ok (.aload_n 0, 1) := by decide +kernel
theorem dX8_readTarget_16 : decode cX8_readTarget 16 = .ok (.getfield 45, 3) := by decide +kernel
theorem dX8_readTarget_19 : decode cX8_readTarget 19 = .ok (.ifCond .ne 37, 3) := by decide +kernel
theorem dX8_readTarget_22 : decode cX8_readTarget 22 = .ok (.iload_n 3, 1) := by decide +kernel
theorem dX8_readTarget_23 : decode cX8_readTarget 23 = .ok (.ifCond .lt 33, 3) := by decide +kernel
theorem dX8_readTarget_26 : decode cX8_readTarget 26 = .ok (.iload_n 3, 1) := by decide +kernel
theorem dX8_readTarget_27 : decode cX8_readTarget 27 = .ok (.aload_n 0, 1) := by decide +kernel
theorem dX8_readTarget_28 : decode cX8_readTarget 28 = .ok (.getfield 17, 3) := by decide +kernel
theorem dX8_readTarget_31 : decode cX8_readTarget 31 = .ok (.arraylength, 1) := by decide +kernel
theorem dX8_readTarget_32 : decode cX8_readTarget 32 = .ok (.if_icmp .ge 24, 3) := by decide +kernel
theorem dX8_readTarget_35 : decode cX8_readTarget 35 = .ok (.aload_n 0, 1) := by decide +kernel
theorem dX8_readTarget_36 : decode cX8_readTarget 36 = .ok (.getfield 17, 3) := by decide +kernel
theorem dX8_readTarget_39 : decode cX8_readTarget 39 = .ok (.iload_n 3, 1) := by decide +kernel
theorem dX8_readTarget_40 : decode cX8_readTarget 40 = .ok (.lload_n 1, 1) := by decide +kernel
theorem dX8_readTarget_41 : decode cX8_readTarget 41 = .ok (.lastore, 1) := by decide +kernel
theorem dX8_readTarget_42 : decode cX8_readTarget 42 = .ok (.aload_n 0, 1) := by decide +kernel
theorem dX8_readTarget_43 : decode cX8_readTarget 43 = .ok (.getfield 20, 3) := by decide +kernel
theorem dX8_readTarget_46 : decode cX8_readTarget 46 = .ok (.iload_n 3, 1) := by decide +kernel
theorem dX8_readTarget_47 : decode cX8_readTarget 47 = .ok (.aload_n 0, 1) := by decide +kernel
theorem dX8_readTarget_48 : decode cX8_readTarget 48 = .ok (.getfield 101, 3) := by decide +kernel
theorem dX8_readTarget_51 : decode cX8_readTarget 51 = .ok (.iastore, 1) := by decide +kernel
theorem dX8_readTarget_52 : decode cX8_readTarget 52 = .ok (.aload_n 0, 1) := by decide +kernel
theorem dX8_readTarget_53 : decode cX8_readTarget 53 = .ok (.invokevirtual 51, 3) := by decide +kernel
theorem dX8_readTarget_56 : decode cX8_readTarget 56 = .ok (.return_, 1) := by decide +kernel
theorem dX8_bindNames_0 : decode cX8_bindNames 0 = .ok (.iconst 0, 1) := by decide +kernel
theorem dX8_bindNames_1 : decode cX8_bindNames 1 = .ok (.istore_n 1, 1) := by decide +kernel
theorem dX8_bindNames_2 : decode cX8_bindNames 2 = .ok (.iload_n 1, 1) := by decide +kernel
theorem dX8_bindNames_3 : decode cX8_bindNames 3 = .ok (.aload_n 0, 1) := by decide +kernel
theorem dX8_bindNames_4 : decode cX8_bindNames 4 = .ok (.getfield 28, 3) := by decide +kernel
theorem dX8_bindNames_7 : decode cX8_bindNames 7 = .ok (.invokevirtual 153, 3) := by decide +kernel
theorem dX8_bindNames_10 : decode cX8_bindNames 10 = .ok (.if_icmp .ge 86, 3) := by decide +kernel
theorem dX8_bindNames_13 : decode cX8_bindNames 13 = .ok (.iload_n 1, 1) := by decide +kernel
theorem dX8_bindNames_14 : decode cX8_bindNames 14 = .ok (.aload_n 0, 1) := by decide +kernel
theorem dX8_bindNames_15 : decode cX8_bindNames 15 = .ok (.getfield 17, 3) := by decide +kernel
theorem dX8_bindNames_18 : decode cX8_bindNames 18 = .ok (.arraylength, 1) := by decide +kernel
theorem dX8_bindNames_19 : decode cX8_bindNames 19 = .ok (.if_icmp .ge 77, 3) := by decide +kernel
theorem dX8_bindNames_22 : decode cX8_bindNames 22 = .ok (.aload_n 0, 1) := by decide +kernel
theorem dX8_bindNames_23 : decode cX8_bindNames 23 = .ok (.getfield 45, 3) := by decide +kernel
theorem dX8_bindNames_26 : decode cX8_bindNames 26 = .ok (.ifCond .ne 70, 3) := by decide +kernel
theorem dX8_bindNames_29 : decode cX8_bindNames 29 = .ok (.aload_n 0, 1) := by decide +kernel
theorem dX8_bindNames_30 : decode cX8_bindNames 30 = .ok (.getfield 28, 3) := by decide +kernel
theorem dX8_bindNames_33 : decode cX8_bindNames 33 = .ok (.iload_n 1, 1) := by decide +kernel
theorem dX8_bindNames_34 : decode cX8_bindNames 34 = .ok (.invokevirtual 209, 3) := by decide +kernel
theorem dX8_bindNames_37 : decode cX8_bindNames 37 = .ok (.astore_n 2, 1) := by decide +kernel
theorem dX8_bindNames_38 : decode cX8_bindNames 38 = .ok (.aload_n 2, 1) := by decide +kernel
theorem dX8_bindNames_39 : decode cX8_bindNames 39 = .ok (.ifnull 51, 3) := by decide +kernel
theorem dX8_bindNames_42 : decode cX8_bindNames 42 = .ok (.aload_n 0, 1) := by decide +kernel
theorem dX8_bindNames_43 : decode cX8_bindNames 43 = .ok (.getfield 17, 3) := by decide +kernel
theorem dX8_bindNames_46 : decode cX8_bindNames 46 = .ok (.iload_n 1, 1) := by decide +kernel
theorem dX8_bindNames_47 : decode cX8_bindNames 47 = .ok (.laload, 1) := by decide +kernel
theorem dX8_bindNames_48 : decode cX8_bindNames 48 = .ok (.lconst 0, 1) := by decide +kernel
theorem dX8_bindNames_49 : decode cX8_bindNames 49 = .ok (.lcmp, 1) := by decide +kernel
theorem dX8_bindNames_50 : decode cX8_bindNames 50 = .ok (.ifCond .eq 40, 3) := by decide +kernel
theorem dX8_bindNames_53 : decode cX8_bindNames 53 = .ok (.aload_n 2, 1) := by decide +kernel
theorem dX8_bindNames_54 : decode cX8_bindNames 54 = .ok (.aload_n 0, 1) := by decide +kernel
theorem dX8_bindNames_55 : decode cX8_bindNames 55 = .ok (.aload_n 0, 1) := by decide +kernel
theorem dX8_bindNames_56 : decode cX8_bindNames 56 = .ok (.getfield 17, 3) := by decide +kernel
theorem dX8_bindNames_59 : decode cX8_bindNames 59 = .ok (.iload_n 1, 1) := by decide +kernel
theorem dX8_bindNames_60 : decode cX8_bindNames 60 = .ok (.laload, 1) := by decide +kernel
theorem dX8_bindNames_61 : decode cX8_bindNames 61 = .ok (.invokevirtual 145, 3) := by decide +kernel
theorem dX8_bindNames_64 : decode cX8_bindNames 64 = .ok (.putfield 213, 3) := by decide +kernel
theorem dX8_bindNames_67 : decode cX8_bindNames 67 = .ok (.aload_n 2, 1) := by decide +kernel
theorem dX8_bindNames_68 : decode cX8_bindNames 68 = .ok (.getfield 213, 3) := by decide +kernel
theorem dX8_bindNames_71 : decode cX8_bindNames 71 = .ok (.iconst (-1), 1) := by decide +kernel
theorem dX8_bindNames_72 : decode cX8_bindNames 72 = .ok (.if_icmp .ne 18, 3) := by decide +kernel
theorem dX8_bindNames_75 : decode cX8_bindNames 75 = .ok (.aload_n 0, 1) := by decide +kernel
theorem dX8_bindNames_76 : decode cX8_bindNames 76 = .ok (.iconst 3, 1) := by decide +kernel
theorem dX8_bindNames_77 : decode cX8_bindNames 77 = .ok (.putfield 45, 3) := by decide +kernel
theorem dX8_bindNames_80 : decode cX8_bindNames 80 = .ok (.aload_n 0, 1) := by decide +kernel
theorem dX8_bindNames_81 : decode cX8_bindNames 81 = .ok (.aload_n 0, 1) := by decide +kernel
theorem dX8_bindNames_82 : decode cX8_bindNames 82 = .ok (.getfield 20, 3) := by decide +kernel
theorem dX8_bindNames_85 : decode cX8_bindNames 85 = .ok (.iload_n 1, 1) := by decide +kernel
theorem dX8_bindNames_86 : decode cX8_bindNames 86 = .ok (.iaload, 1) := by decide +kernel
theorem dX8_bindNames_87 : decode cX8_bindNames 87 = .ok (.putfield 63, 3) := by decide +kernel
theorem dX8_bindNames_90 : decode cX8_bindNames 90 = .ok (.iinc 1 1, 3) := by decide +kernel
theorem dX8_bindNames_93 : decode cX8_bindNames 93 = .ok (.goto (-91), 3) := by decide +kernel
theorem dX8_bindNames_96 : decode cX8_bindNames 96 = .ok (.return_, 1) := by decide +kernel
theorem dX8_named_0 : decode cX8_named 0 = .ok (.iconst 0, 1) := by decide +kernel
theorem dX8_named_1 : decode cX8_named 1 = .ok (.istore_n 3, 1) := by decide +kernel
theorem dX8_named_2 : decode cX8_named 2 = .ok (.iload_n 3, 1) := by decide +kernel
theorem dX8_named_3 : decode cX8_named 3 = .ok (.aload_n 0, 1) := by decide +kernel
theorem dX8_named_4 : decode cX8_named 4 = .ok (.getfield 28, 3) := by decide +kernel
theorem dX8_named_7 : decode cX8_named 7 = .ok (.invokevirtual 153, 3) := by decide +kernel
theorem dX8_named_10 : decode cX8_named 10 = .ok (.if_icmp .ge 31, 3) := by decide +kernel
theorem dX8_named_13 : decode cX8_named 13 = .ok (.iload_n 3, 1) := by decide +kernel
theorem dX8_named_14 : decode cX8_named 14 = .ok (.aload_n 0, 1) := by decide +kernel
theorem dX8_named_15 : decode cX8_named 15 = .ok (.getfield 11, 3) := by decide +kernel
theorem dX8_named_18 : decode cX8_named 18 = .ok (.arraylength, 1) := by decide +kernel
theorem dX8_named_19 : decode cX8_named 19 = .ok (.if_icmp .ge 22, 3) := by decide +kernel
theorem dX8_named_22 : decode cX8_named 22 = .ok (.aload_n 0, 1) := by decide +kernel
theorem dX8_named_23 : decode cX8_named 23 = .ok (.getfield 11, 3) := by decide +kernel
theorem dX8_named_26 : decode cX8_named 26 = .ok (.iload_n 3, 1) := by decide +kernel
theorem dX8_named_27 : decode cX8_named 27 = .ok (.laload, 1) := by decide +kernel
theorem dX8_named_28 : decode cX8_named 28 = .ok (.lload_n 1, 1) := by decide +kernel
theorem dX8_named_29 : decode cX8_named 29 = .ok (.lcmp, 1) := by decide +kernel
theorem dX8_named_30 : decode cX8_named 30 = .ok (.ifCond .ne 5, 3) := by decide +kernel
theorem dX8_named_33 : decode cX8_named 33 = .ok (.iload_n 3, 1) := by decide +kernel
theorem dX8_named_34 : decode cX8_named 34 = .ok (.ireturn, 1) := by decide +kernel
theorem dX8_named_35 : decode cX8_named 35 = .ok (.iinc 3 1, 3) := by decide +kernel
theorem dX8_named_38 : decode cX8_named 38 = .ok (.goto (-36), 3) := by decide +kernel
theorem dX8_named_41 : decode cX8_named 41 = .ok (.iconst (-1), 1) := by decide +kernel
theorem dX8_named_42 : decode cX8_named 42 = .ok (.ireturn, 1) := by decide +kernel
theorem dX8_nameHere_0 : decode cX8_nameHere 0 = .ok (.aload_n 0, 1) := by decide +kernel
theorem dX8_nameHere_1 : decode cX8_nameHere 1 = .ok (.getfield 54, 3) := by decide +kernel
theorem dX8_nameHere_4 : decode cX8_nameHere 4 = .ok (.iconst 1, 1) := by decide +kernel
theorem dX8_nameHere_5 : decode cX8_nameHere 5 = .ok (.if_icmp .ne 10, 3) := by decide +kernel
theorem dX8_nameHere_8 : decode cX8_nameHere 8 = .ok (.aload_n 0, 1) := by decide +kernel
theorem dX8_nameHere_9 : decode cX8_nameHere 9 = .ok (.getfield 66, 3) := by decide +kernel
theorem dX8_nameHere_12 : decode cX8_nameHere 12 = .ok (.ifnull 10, 3) := by decide +kernel
theorem dX8_nameHere_15 : decode cX8_nameHere 15 = .ok (.aload_n 0, 1) := by decide +kernel
theorem dX8_nameHere_16 : decode cX8_nameHere 16 = .ok (.iconst 1, 1) := by decide +kernel
theorem dX8_nameHere_17 : decode cX8_nameHere 17 = .ok (.invokevirtual 104, 3) := by decide +kernel
theorem dX8_nameHere_20 : decode cX8_nameHere 20 = .ok (.lconst 0, 1) := by decide +kernel
theorem dX8_nameHere_21 : decode cX8_nameHere 21 = .ok (.lreturn, 1) := by decide +kernel
theorem dX8_nameHere_22 : decode cX8_nameHere 22 = .ok (.aload_n 0, 1) := by decide +kernel
theorem dX8_nameHere_23 : decode cX8_nameHere 23 = .ok (.getfield 48, 3) := by decide +kernel
theorem dX8_nameHere_26 : decode cX8_nameHere 26 = .ok (.aload_n 0, 1) := by decide +kernel
theorem dX8_nameHere_27 : decode cX8_nameHere 27 = .ok (.getfield 101, 3) := by decide +kernel
theorem dX8_nameHere_30 : decode cX8_nameHere 30 = .ok (.isub, 1) := by decide +kernel
theorem dX8_nameHere_31 : decode cX8_nameHere 31 = .ok (.bipush 8, 2) := by decide +kernel
theorem dX8_nameHere_33 : decode cX8_nameHere 33 = .ok (.if_icmp .le 10, 3) := by decide +kernel
theorem dX8_nameHere_36 : decode cX8_nameHere 36 = .ok (.aload_n 0, 1) := by decide +kernel
theorem dX8_nameHere_37 : decode cX8_nameHere 37 = .ok (.iconst 2, 1) := by decide +kernel
theorem dX8_nameHere_38 : decode cX8_nameHere 38 = .ok (.invokevirtual 104, 3) := by decide +kernel
theorem dX8_nameHere_41 : decode cX8_nameHere 41 = .ok (.lconst 0, 1) := by decide +kernel
theorem dX8_nameHere_42 : decode cX8_nameHere 42 = .ok (.lreturn, 1) := by decide +kernel
theorem dX8_nameHere_43 : decode cX8_nameHere 43 = .ok (.lconst 0, 1) := by decide +kernel
theorem dX8_nameHere_44 : decode cX8_nameHere 44 = .ok (.lstore_n 1, 1) := by decide +kernel
theorem dX8_nameHere_45 : decode cX8_nameHere 45 = .ok (.aload_n 0, 1) := by decide +kernel
theorem dX8_nameHere_46 : decode cX8_nameHere 46 = .ok (.getfield 101, 3) := by decide +kernel
theorem dX8_nameHere_49 : decode cX8_nameHere 49 = .ok (.istore_n 3, 1) := by decide +kernel
theorem dX8_nameHere_50 : decode cX8_nameHere 50 = .ok (.iload_n 3, 1) := by decide +kernel
theorem dX8_nameHere_51 : decode cX8_nameHere 51 = .ok (.aload_n 0, 1) := by decide +kernel
theorem dX8_nameHere_52 : decode cX8_nameHere 52 = .ok (.getfield 48, 3) := by decide +kernel
theorem dX8_nameHere_55 : decode cX8_nameHere 55 = .ok (.if_icmp .ge 27, 3) := by decide +kernel
theorem dX8_nameHere_58 : decode cX8_nameHere 58 = .ok (.lload_n 1, 1) := by decide +kernel
theorem dX8_nameHere_59 : decode cX8_nameHere 59 = .ok (.ldc2_w 216, 3) := by decide +kernel
theorem dX8_nameHere_62 : decode cX8_nameHere 62 = .ok (.lmul, 1) := by decide +kernel
theorem dX8_nameHere_63 : decode cX8_nameHere 63 = .ok (.aload_n 0, 1) := by decide +kernel
theorem dX8_nameHere_64 : decode cX8_nameHere 64 = .ok (.iload_n 3, 1) := by decide +kernel
theorem dX8_nameHere_65 : decode cX8_nameHere 65 = .ok (.invokevirtual 107, 3) := by decide +kernel
theorem dX8_nameHere_68 : decode cX8_nameHere 68 = .ok (.bipush 97, 2) := by decide +kernel
theorem dX8_nameHere_70 : decode cX8_nameHere 70 = .ok (.isub, 1) := by decide +kernel
theorem dX8_nameHere_71 : decode cX8_nameHere 71 = .ok (.iconst 1, 1) := by decide +kernel
theorem dX8_nameHere_72 : decode cX8_nameHere 72 = .ok (.iadd, 1) := by decide +kernel
theorem dX8_nameHere_73 : decode cX8_nameHere 73 = .ok (.i2l, 1) := by decide +kernel
theorem dX8_nameHere_74 : decode cX8_nameHere 74 = .ok (.ladd, 1) := by decide +kernel
theorem dX8_nameHere_75 : decode cX8_nameHere 75 = .ok (.lstore_n 1, 1) := by decide +kernel
theorem dX8_nameHere_76 : decode cX8_nameHere 76 = .ok (.iinc 3 1, 3) := by decide +kernel
theorem dX8_nameHere_79 : decode cX8_nameHere 79 = .ok (.goto (-29), 3) := by decide +kernel
theorem dX8_nameHere_82 : decode cX8_nameHere 82 = .ok (.lload_n 1, 1) := by decide +kernel
theorem dX8_nameHere_83 : decode cX8_nameHere 83 = .ok (.lreturn, 1) := by decide +kernel
theorem dX8_isHere_0 : decode cX8_isHere 0 = .ok (.aload_n 0, 1) := by decide +kernel
theorem dX8_isHere_1 : decode cX8_isHere 1 = .ok (.getfield 45, 3) := by decide +kernel
theorem dX8_isHere_4 : decode cX8_isHere 4 = .ok (.ifCond .ne 27, 3) := by decide +kernel
theorem dX8_isHere_7 : decode cX8_isHere 7 = .ok (.aload_n 0, 1) := by decide +kernel
theorem dX8_isHere_8 : decode cX8_isHere 8 = .ok (.getfield 54, 3) := by decide +kernel
theorem dX8_isHere_11 : decode cX8_isHere 11 = .ok (.iconst 4, 1) := by decide +kernel
theorem dX8_isHere_12 : decode cX8_isHere 12 = .ok (.if_icmp .ne 19, 3) := by decide +kernel
theorem dX8_isHere_15 : decode cX8_isHere 15 = .ok (.aload_n 0, 1) := by decide +kernel
theorem dX8_isHere_16 : decode cX8_isHere 16 = .ok (.aload_n 0, 1) := by decide +kernel
theorem dX8_isHere_17 : decode cX8_isHere 17 = .ok (.getfield 101, 3) := by decide +kernel
theorem dX8_isHere_20 : decode cX8_isHere 20 = .ok (.invokevirtual 107, 3) := by decide +kernel
theorem dX8_isHere_23 : decode cX8_isHere 23 = .ok (.iload_n 1, 1) := by decide +kernel
theorem dX8_isHere_24 : decode cX8_isHere 24 = .ok (.if_icmp .ne 7, 3) := by decide +kernel
theorem dX8_isHere_27 : decode cX8_isHere 27 = .ok (.iconst 1, 1) := by decide +kernel
theorem dX8_isHere_28 : decode cX8_isHere 28 = .ok (.goto 4, 3) := by decide +kernel
theorem dX8_isHere_31 : decode cX8_isHere 31 = .ok (.iconst 0, 1) := by decide +kernel
theorem dX8_isHere_32 : decode cX8_isHere 32 = .ok (.ireturn, 1) := by decide +kernel
theorem dX8_passed_0 : decode cX8_passed 0 = .ok (.aload_n 0, 1) := by decide +kernel
theorem dX8_passed_1 : decode cX8_passed 1 = .ok (.iload_n 1, 1) := by decide +kernel
theorem dX8_passed_2 : decode cX8_passed 2 = .ok (.invokevirtual 218, 3) := by decide +kernel
theorem dX8_passed_5 : decode cX8_passed 5 = .ok (.istore_n 2, 1) := by decide +kernel
theorem dX8_passed_6 : decode cX8_passed 6 = .ok (.iload_n 2, 1) := by decide +kernel
theorem dX8_passed_7 : decode cX8_passed 7 = .ok (.ifCond .eq 7, 3) := by decide +kernel
theorem dX8_passed_10 : decode cX8_passed 10 = .ok (.aload_n 0, 1) := by decide +kernel
theorem dX8_passed_11 : decode cX8_passed 11 = .ok (.invokevirtual 51, 3) := by decide +kernel
theorem dX8_passed_14 : decode cX8_passed 14 = .ok (.iload_n 2, 1) := by decide +kernel
theorem dX8_passed_15 : decode cX8_passed 15 = .ok (.ireturn, 1) := by decide +kernel
theorem dX8_passSign_0 : decode cX8_passSign 0 = .ok (.aload_n 0, 1) := by decide +kernel
theorem dX8_passSign_1 : decode cX8_passSign 1 = .ok (.iload_n 1, 1) := by decide +kernel
theorem dX8_passSign_2 : decode cX8_passSign 2 = .ok (.invokevirtual 218, 3) := by decide +kernel
theorem dX8_passSign_5 : decode cX8_passSign 5 = .ok (.ifCond .eq 10, 3) := by decide +kernel
theorem dX8_passSign_8 : decode cX8_passSign 8 = .ok (.aload_n 0, 1) := by decide +kernel
theorem dX8_passSign_9 : decode cX8_passSign 9 = .ok (.invokevirtual 51, 3) := by decide +kernel
theorem dX8_passSign_12 : decode cX8_passSign 12 = .ok (.goto 8, 3) := by decide +kernel
theorem dX8_passSign_15 : decode cX8_passSign 15 = .ok (.aload_n 0, 1) := by decide +kernel
theorem dX8_passSign_16 : decode cX8_passSign 16 = .ok (.iconst 1, 1) := by decide +kernel
theorem dX8_passSign_17 : decode cX8_passSign 17 = .ok (.invokevirtual 104, 3) := by decide +kernel
theorem dX8_passSign_20 : decode cX8_passSign 20 = .ok (.return_, 1) := by decide +kernel
theorem dX8_passNumber_0 : decode cX8_passNumber 0 = .ok (.aload_n 0, 1) := by decide +kernel
theorem dX8_passNumber_1 : decode cX8_passNumber 1 = .ok (.getfield 45, 3) := by decide +kernel
theorem dX8_passNumber_4 : decode cX8_passNumber 4 = .ok (.ifCond .ne 11, 3) := by decide +kernel
theorem dX8_passNumber_7 : decode cX8_passNumber 7 = .ok (.aload_n 0, 1) := by decide +kernel
theorem dX8_passNumber_8 : decode cX8_passNumber 8 = .ok (.getfield 54, 3) := by decide +kernel
theorem dX8_passNumber_11 : decode cX8_passNumber 11 = .ok (.iconst 2, 1) := by decide +kernel
theorem dX8_passNumber_12 : decode cX8_passNumber 12 = .ok (.if_icmp .eq 10, 3) := by decide +kernel
theorem dX8_passNumber_15 : decode cX8_passNumber 15 = .ok (.aload_n 0, 1) := by decide +kernel
theorem dX8_passNumber_16 : decode cX8_passNumber 16 = .ok (.iconst 1, 1) := by decide +kernel
theorem dX8_passNumber_17 : decode cX8_passNumber 17 = .ok (.invokevirtual 104, 3) := by decide +kernel
theorem dX8_passNumber_20 : decode cX8_passNumber 20 = .ok (.iconst 0, 1) := by decide +kernel
theorem dX8_passNumber_21 : decode cX8_passNumber 21 = .ok (.ireturn, 1) := by decide +kernel
theorem dX8_passNumber_22 : decode cX8_passNumber 22 = .ok (.iconst 0, 1) := by decide +kernel
theorem dX8_passNumber_23 : decode cX8_passNumber 23 = .ok (.istore_n 3, 1) := by decide +kernel
theorem dX8_passNumber_24 : decode cX8_passNumber 24 = .ok (.aload_n 0, 1) := by decide +kernel
theorem dX8_passNumber_25 : decode cX8_passNumber 25 = .ok (.getfield 101, 3) := by decide +kernel
theorem dX8_passNumber_28 : decode cX8_passNumber 28 = .ok (.istore 4, 2) := by decide +kernel
theorem dX8_passNumber_30 : decode cX8_passNumber 30 = .ok (.iload 4, 2) := by decide +kernel
theorem dX8_passNumber_32 : decode cX8_passNumber 32 = .ok (.aload_n 0, 1) := by decide +kernel
theorem dX8_passNumber_33 : decode cX8_passNumber 33 = .ok (.getfield 48, 3) := by decide +kernel
theorem dX8_passNumber_36 : decode cX8_passNumber 36 = .ok (.if_icmp .ge 29, 3) := by decide +kernel
theorem dX8_passNumber_39 : decode cX8_passNumber 39 = .ok (.iload_n 3, 1) := by decide +kernel
theorem dX8_passNumber_40 : decode cX8_passNumber 40 = .ok (.bipush 10, 2) := by decide +kernel
theorem dX8_passNumber_42 : decode cX8_passNumber 42 = .ok (.imul, 1) := by decide +kernel
theorem dX8_passNumber_43 : decode cX8_passNumber 43 = .ok (.aload_n 0, 1) := by decide +kernel
theorem dX8_passNumber_44 : decode cX8_passNumber 44 = .ok (.iload 4, 2) := by decide +kernel
theorem dX8_passNumber_46 : decode cX8_passNumber 46 = .ok (.invokevirtual 107, 3) := by decide +kernel
theorem dX8_passNumber_49 : decode cX8_passNumber 49 = .ok (.iadd, 1) := by decide +kernel
theorem dX8_passNumber_50 : decode cX8_passNumber 50 = .ok (.bipush 48, 2) := by decide +kernel
theorem dX8_passNumber_52 : decode cX8_passNumber 52 = .ok (.isub, 1) := by decide +kernel
theorem dX8_passNumber_53 : decode cX8_passNumber 53 = .ok (.ldc 221, 2) := by decide +kernel
theorem dX8_passNumber_55 : decode cX8_passNumber 55 = .ok (.invokestatic 32, 3) := by decide +kernel
theorem dX8_passNumber_58 : decode cX8_passNumber 58 = .ok (.istore_n 3, 1) := by decide +kernel
theorem dX8_passNumber_59 : decode cX8_passNumber 59 = .ok (.iinc 4 1, 3) := by decide +kernel
theorem dX8_passNumber_62 : decode cX8_passNumber 62 = .ok (.goto (-32), 3) := by decide +kernel
theorem dX8_passNumber_65 : decode cX8_passNumber 65 = .ok (.iload_n 3, 1) := by decide +kernel
theorem dX8_passNumber_66 : decode cX8_passNumber 66 = .ok (.iload_n 1, 1) := by decide +kernel
theorem dX8_passNumber_67 : decode cX8_passNumber 67 = .ok (.if_icmp .lt 8, 3) := by decide +kernel
theorem dX8_passNumber_70 : decode cX8_passNumber 70 = .ok (.iload_n 3, 1) := by decide +kernel
theorem dX8_passNumber_71 : decode cX8_passNumber 71 = .ok (.iload_n 2, 1) := by decide +kernel
theorem dX8_passNumber_72 : decode cX8_passNumber 72 = .ok (.if_icmp .le 10, 3) := by decide +kernel
theorem dX8_passNumber_75 : decode cX8_passNumber 75 = .ok (.aload_n 0, 1) := by decide +kernel
theorem dX8_passNumber_76 : decode cX8_passNumber 76 = .ok (.iconst 2, 1) := by decide +kernel
theorem dX8_passNumber_77 : decode cX8_passNumber 77 = .ok (.invokevirtual 104, 3) := by decide +kernel
theorem dX8_passNumber_80 : decode cX8_passNumber 80 = .ok (.iconst 0, 1) := by decide +kernel
theorem dX8_passNumber_81 : decode cX8_passNumber 81 = .ok (.ireturn, 1) := by decide +kernel
theorem dX8_passNumber_82 : decode cX8_passNumber 82 = .ok (.aload_n 0, 1) := by decide +kernel
theorem dX8_passNumber_83 : decode cX8_passNumber 83 = .ok (.invokevirtual 51, 3) := by decide +kernel
theorem dX8_passNumber_86 : decode cX8_passNumber 86 = .ok (.iload_n 3, 1) := by decide +kernel
theorem dX8_passNumber_87 : decode cX8_passNumber 87 = .ok (.ireturn, 1) := by decide +kernel
theorem dX8_fail_0 : decode cX8_fail 0 = .ok (.aload_n 0, 1) := by decide +kernel
theorem dX8_fail_1 : decode cX8_fail 1 = .ok (.getfield 45, 3) := by decide +kernel
theorem dX8_fail_4 : decode cX8_fail 4 = .ok (.ifCond .ne 16, 3) := by decide +kernel
theorem dX8_fail_7 : decode cX8_fail 7 = .ok (.aload_n 0, 1) := by decide +kernel
theorem dX8_fail_8 : decode cX8_fail 8 = .ok (.iload_n 1, 1) := by decide +kernel
theorem dX8_fail_9 : decode cX8_fail 9 = .ok (.putfield 45, 3) := by decide +kernel
theorem dX8_fail_12 : decode cX8_fail 12 = .ok (.aload_n 0, 1) := by decide +kernel
theorem dX8_fail_13 : decode cX8_fail 13 = .ok (.aload_n 0, 1) := by decide +kernel
theorem dX8_fail_14 : decode cX8_fail 14 = .ok (.getfield 101, 3) := by decide +kernel
theorem dX8_fail_17 : decode cX8_fail 17 = .ok (.putfield 63, 3) := by decide +kernel
theorem dX8_fail_20 : decode cX8_fail 20 = .ok (.return_, 1) := by decide +kernel
theorem dX8_advance_0 : decode cX8_advance 0 = .ok (.aload_n 0, 1) := by decide +kernel
theorem dX8_advance_1 : decode cX8_advance 1 = .ok (.aload_n 0, 1) := by decide +kernel
theorem dX8_advance_2 : decode cX8_advance 2 = .ok (.getfield 48, 3) := by decide +kernel
theorem dX8_advance_5 : decode cX8_advance 5 = .ok (.putfield 101, 3) := by decide +kernel
theorem dX8_advance_8 : decode cX8_advance 8 = .ok (.aload_n 0, 1) := by decide +kernel
theorem dX8_advance_9 : decode cX8_advance 9 = .ok (.getfield 101, 3) := by decide +kernel
theorem dX8_advance_12 : decode cX8_advance 12 = .ok (.aload_n 0, 1) := by decide +kernel
theorem dX8_advance_13 : decode cX8_advance 13 = .ok (.getfield 38, 3) := by decide +kernel
theorem dX8_advance_16 : decode cX8_advance 16 = .ok (.if_icmp .ge 42, 3) := by decide +kernel
theorem dX8_advance_19 : decode cX8_advance 19 = .ok (.aload_n 0, 1) := by decide +kernel
theorem dX8_advance_20 : decode cX8_advance 20 = .ok (.aload_n 0, 1) := by decide +kernel
theorem dX8_advance_21 : decode cX8_advance 21 = .ok (.getfield 101, 3) := by decide +kernel
theorem dX8_advance_24 : decode cX8_advance 24 = .ok (.invokevirtual 107, 3) := by decide +kernel
theorem dX8_advance_27 : decode cX8_advance 27 = .ok (.bipush 32, 2) := by decide +kernel
theorem dX8_advance_29 : decode cX8_advance 29 = .ok (.if_icmp .eq 16, 3) := by decide +kernel
theorem dX8_advance_32 : decode cX8_advance 32 = .ok (.aload_n 0, 1) := by decide +kernel
theorem dX8_advance_33 : decode cX8_advance 33 = .ok (.aload_n 0, 1) := by decide +kernel
theorem dX8_advance_34 : decode cX8_advance 34 = .ok (.getfield 101, 3) := by decide +kernel
theorem dX8_advance_37 : decode cX8_advance 37 = .ok (.invokevirtual 107, 3) := by decide +kernel
theorem dX8_advance_40 : decode cX8_advance 40 = .ok (.bipush 10, 2) := by decide +kernel
theorem dX8_advance_42 : decode cX8_advance 42 = .ok (.if_icmp .ne 16, 3) := by decide +kernel
theorem dX8_advance_45 : decode cX8_advance 45 = .ok (.aload_n 0, 1) := by decide +kernel
theorem dX8_advance_46 : decode cX8_advance 46 = .ok (.dup, 1) := by decide +kernel
theorem dX8_advance_47 : decode cX8_advance 47 = .ok (.getfield 101, 3) := by decide +kernel
theorem dX8_advance_50 : decode cX8_advance 50 = .ok (.iconst 1, 1) := by decide +kernel
theorem dX8_advance_51 : decode cX8_advance 51 = .ok (.iadd, 1) := by decide +kernel
theorem dX8_advance_52 : decode cX8_advance 52 = .ok (.putfield 101, 3) := by decide +kernel
theorem dX8_advance_55 : decode cX8_advance 55 = .ok (.goto (-47), 3) := by decide +kernel
theorem dX8_advance_58 : decode cX8_advance 58 = .ok (.aload_n 0, 1) := by decide +kernel
theorem dX8_advance_59 : decode cX8_advance 59 = .ok (.aload_n 0, 1) := by decide +kernel
theorem dX8_advance_60 : decode cX8_advance 60 = .ok (.getfield 101, 3) := by decide +kernel
theorem dX8_advance_63 : decode cX8_advance 63 = .ok (.iconst 1, 1) := by decide +kernel
theorem dX8_advance_64 : decode cX8_advance 64 = .ok (.iadd, 1) := by decide +kernel
theorem dX8_advance_65 : decode cX8_advance 65 = .ok (.putfield 48, 3) := by decide +kernel
theorem dX8_advance_68 : decode cX8_advance 68 = .ok (.aload_n 0, 1) := by decide +kernel
theorem dX8_advance_69 : decode cX8_advance 69 = .ok (.aconst_null, 1) := by decide +kernel
theorem dX8_advance_70 : decode cX8_advance 70 = .ok (.putfield 66, 3) := by decide +kernel
theorem dX8_advance_73 : decode cX8_advance 73 = .ok (.aload_n 0, 1) := by decide +kernel
theorem dX8_advance_74 : decode cX8_advance 74 = .ok (.aload_n 0, 1) := by decide +kernel
theorem dX8_advance_75 : decode cX8_advance 75 = .ok (.getfield 101, 3) := by decide +kernel
theorem dX8_advance_78 : decode cX8_advance 78 = .ok (.invokevirtual 107, 3) := by decide +kernel
theorem dX8_advance_81 : decode cX8_advance 81 = .ok (.istore_n 1, 1) := by decide +kernel
theorem dX8_advance_82 : decode cX8_advance 82 = .ok (.aload_n 0, 1) := by decide +kernel
theorem dX8_advance_83 : decode cX8_advance 83 = .ok (.getfield 101, 3) := by decide +kernel
theorem dX8_advance_86 : decode cX8_advance 86 = .ok (.aload_n 0, 1) := by decide +kernel
theorem dX8_advance_87 : decode cX8_advance 87 = .ok (.getfield 38, 3) := by decide +kernel
theorem dX8_advance_90 : decode cX8_advance 90 = .ok (.if_icmp .lt 19, 3) := by decide +kernel
theorem dX8_advance_93 : decode cX8_advance 93 = .ok (.aload_n 0, 1) := by decide +kernel
theorem dX8_advance_94 : decode cX8_advance 94 = .ok (.iconst 5, 1) := by decide +kernel
theorem dX8_advance_95 : decode cX8_advance 95 = .ok (.putfield 54, 3) := by decide +kernel
theorem dX8_advance_98 : decode cX8_advance 98 = .ok (.aload_n 0, 1) := by decide +kernel
theorem dX8_advance_99 : decode cX8_advance 99 = .ok (.aload_n 0, 1) := by decide +kernel
theorem dX8_advance_100 : decode cX8_advance 100 = .ok (.getfield 101, 3) := by decide +kernel
theorem dX8_advance_103 : decode cX8_advance 103 = .ok (.putfield 48, 3) := by decide +kernel
theorem dX8_advance_106 : decode cX8_advance 106 = .ok (.goto 230, 3) := by decide +kernel
theorem dX8_advance_109 : decode cX8_advance 109 = .ok (.iload_n 1, 1) := by decide +kernel
theorem dX8_advance_110 : decode cX8_advance 110 = .ok (.invokestatic 222, 3) := by decide +kernel
theorem dX8_advance_113 : decode cX8_advance 113 = .ok (.ifCond .eq 68, 3) := by decide +kernel
theorem dX8_advance_116 : decode cX8_advance 116 = .ok (.aload_n 0, 1) := by decide +kernel
theorem dX8_advance_117 : decode cX8_advance 117 = .ok (.iconst 1, 1) := by decide +kernel
theorem dX8_advance_118 : decode cX8_advance 118 = .ok (.putfield 54, 3) := by decide +kernel
theorem dX8_advance_121 : decode cX8_advance 121 = .ok (.aload_n 0, 1) := by decide +kernel
theorem dX8_advance_122 : decode cX8_advance 122 = .ok (.getfield 48, 3) := by decide +kernel
theorem dX8_advance_125 : decode cX8_advance 125 = .ok (.aload_n 0, 1) := by decide +kernel
theorem dX8_advance_126 : decode cX8_advance 126 = .ok (.getfield 38, 3) := by decide +kernel
theorem dX8_advance_129 : decode cX8_advance 129 = .ok (.if_icmp .ge 30, 3) := by decide +kernel
theorem dX8_advance_132 : decode cX8_advance 132 = .ok (.aload_n 0, 1) := by decide +kernel
theorem dX8_advance_133 : decode cX8_advance 133 = .ok (.aload_n 0, 1) := by decide +kernel
theorem dX8_advance_134 : decode cX8_advance 134 = .ok (.getfield 48, 3) := by decide +kernel
theorem dX8_advance_137 : decode cX8_advance 137 = .ok (.invokevirtual 107, 3) := by decide +kernel
theorem dX8_advance_140 : decode cX8_advance 140 = .ok (.invokestatic 222, 3) := by decide +kernel
theorem dX8_advance_143 : decode cX8_advance 143 = .ok (.ifCond .eq 16, 3) := by decide +kernel
theorem dX8_advance_146 : decode cX8_advance 146 = .ok (.aload_n 0, 1) := by decide +kernel
theorem dX8_advance_147 : decode cX8_advance 147 = .ok (.dup, 1) := by decide +kernel
theorem dX8_advance_148 : decode cX8_advance 148 = .ok (.getfield 48, 3) := by decide +kernel
theorem dX8_advance_151 : decode cX8_advance 151 = .ok (.iconst 1, 1) := by decide +kernel
theorem dX8_advance_152 : decode cX8_advance 152 = .ok (.iadd, 1) := by decide +kernel
theorem dX8_advance_153 : decode cX8_advance 153 = .ok (.putfield 48, 3) := by decide +kernel
theorem dX8_advance_156 : decode cX8_advance 156 = .ok (.goto (-35), 3) := by decide +kernel
theorem dX8_advance_159 : decode cX8_advance 159 = .ok (.aload_n 0, 1) := by decide +kernel
theorem dX8_advance_160 : decode cX8_advance 160 = .ok (.aload_n 0, 1) := by decide +kernel
theorem dX8_advance_161 : decode cX8_advance 161 = .ok (.getfield 24, 3) := by decide +kernel
theorem dX8_advance_164 : decode cX8_advance 164 = .ok (.aload_n 0, 1) := by decide +kernel
theorem dX8_advance_165 : decode cX8_advance 165 = .ok (.getfield 101, 3) := by decide +kernel
theorem dX8_advance_168 : decode cX8_advance 168 = .ok (.aload_n 0, 1) := by decide +kernel
theorem dX8_advance_169 : decode cX8_advance 169 = .ok (.getfield 48, 3) := by decide +kernel
theorem dX8_advance_172 : decode cX8_advance 172 = .ok (.invokestatic 225, 3) := by decide +kernel
theorem dX8_advance_175 : decode cX8_advance 175 = .ok (.putfield 66, 3) := by decide +kernel
theorem dX8_advance_178 : decode cX8_advance 178 = .ok (.goto 158, 3) := by decide +kernel
theorem dX8_advance_181 : decode cX8_advance 181 = .ok (.iload_n 1, 1) := by decide +kernel
theorem dX8_advance_182 : decode cX8_advance 182 = .ok (.invokestatic 228, 3) := by decide +kernel
theorem dX8_advance_185 : decode cX8_advance 185 = .ok (.ifCond .eq 46, 3) := by decide +kernel
theorem dX8_advance_188 : decode cX8_advance 188 = .ok (.aload_n 0, 1) := by decide +kernel
theorem dX8_advance_189 : decode cX8_advance 189 = .ok (.iconst 2, 1) := by decide +kernel
theorem dX8_advance_190 : decode cX8_advance 190 = .ok (.putfield 54, 3) := by decide +kernel
theorem dX8_advance_193 : decode cX8_advance 193 = .ok (.aload_n 0, 1) := by decide +kernel
theorem dX8_advance_194 : decode cX8_advance 194 = .ok (.getfield 48, 3) := by decide +kernel
theorem dX8_advance_197 : decode cX8_advance 197 = .ok (.aload_n 0, 1) := by decide +kernel
theorem dX8_advance_198 : decode cX8_advance 198 = .ok (.getfield 38, 3) := by decide +kernel
theorem dX8_advance_201 : decode cX8_advance 201 = .ok (.if_icmp .ge 135, 3) := by decide +kernel
theorem dX8_advance_204 : decode cX8_advance 204 = .ok (.aload_n 0, 1) := by decide +kernel
theorem dX8_advance_205 : decode cX8_advance 205 = .ok (.aload_n 0, 1) := by decide +kernel
theorem dX8_advance_206 : decode cX8_advance 206 = .ok (.getfield 48, 3) := by decide +kernel
theorem dX8_advance_209 : decode cX8_advance 209 = .ok (.invokevirtual 107, 3) := by decide +kernel
theorem dX8_advance_212 : decode cX8_advance 212 = .ok (.invokestatic 228, 3) := by decide +kernel
theorem dX8_advance_215 : decode cX8_advance 215 = .ok (.ifCond .eq 121, 3) := by decide +kernel
theorem dX8_advance_218 : decode cX8_advance 218 = .ok (.aload_n 0, 1) := by decide +kernel
theorem dX8_advance_219 : decode cX8_advance 219 = .ok (.dup, 1) := by decide +kernel
theorem dX8_advance_220 : decode cX8_advance 220 = .ok (.getfield 48, 3) := by decide +kernel
theorem dX8_advance_223 : decode cX8_advance 223 = .ok (.iconst 1, 1) := by decide +kernel
theorem dX8_advance_224 : decode cX8_advance 224 = .ok (.iadd, 1) := by decide +kernel
theorem dX8_advance_225 : decode cX8_advance 225 = .ok (.putfield 48, 3) := by decide +kernel
theorem dX8_advance_228 : decode cX8_advance 228 = .ok (.goto (-35), 3) := by decide +kernel
theorem dX8_advance_231 : decode cX8_advance 231 = .ok (.iload_n 1, 1) := by decide +kernel
theorem dX8_advance_232 : decode cX8_advance 232 = .ok (.bipush 35, 2) := by decide +kernel
theorem dX8_advance_234 : decode cX8_advance 234 = .ok (.if_icmp .ne 68, 3) := by decide +kernel
theorem dX8_advance_237 : decode cX8_advance 237 = .ok (.aload_n 0, 1) := by decide +kernel
theorem dX8_advance_238 : decode cX8_advance 238 = .ok (.getfield 48, 3) := by decide +kernel
theorem dX8_advance_241 : decode cX8_advance 241 = .ok (.aload_n 0, 1) := by decide +kernel
theorem dX8_advance_242 : decode cX8_advance 242 = .ok (.getfield 38, 3) := by decide +kernel
theorem dX8_advance_245 : decode cX8_advance 245 = .ok (.if_icmp .ge 31, 3) := by decide +kernel
theorem dX8_advance_248 : decode cX8_advance 248 = .ok (.aload_n 0, 1) := by decide +kernel
theorem dX8_advance_249 : decode cX8_advance 249 = .ok (.aload_n 0, 1) := by decide +kernel
theorem dX8_advance_250 : decode cX8_advance 250 = .ok (.getfield 48, 3) := by decide +kernel
theorem dX8_advance_253 : decode cX8_advance 253 = .ok (.invokevirtual 107, 3) := by decide +kernel
theorem dX8_advance_256 : decode cX8_advance 256 = .ok (.invokestatic 111, 3) := by decide +kernel
theorem dX8_advance_259 : decode cX8_advance 259 = .ok (.iconst (-1), 1) := by decide +kernel
theorem dX8_advance_260 : decode cX8_advance 260 = .ok (.if_icmp .eq 16, 3) := by decide +kernel
theorem dX8_advance_263 : decode cX8_advance 263 = .ok (.aload_n 0, 1) := by decide +kernel
theorem dX8_advance_264 : decode cX8_advance 264 = .ok (.dup, 1) := by decide +kernel
theorem dX8_advance_265 : decode cX8_advance 265 = .ok (.getfield 48, 3) := by decide +kernel
theorem dX8_advance_268 : decode cX8_advance 268 = .ok (.iconst 1, 1) := by decide +kernel
theorem dX8_advance_269 : decode cX8_advance 269 = .ok (.iadd, 1) := by decide +kernel
theorem dX8_advance_270 : decode cX8_advance 270 = .ok (.putfield 48, 3) := by decide +kernel
theorem dX8_advance_273 : decode cX8_advance 273 = .ok (.goto (-36), 3) := by decide +kernel
theorem dX8_advance_276 : decode cX8_advance 276 = .ok (.aload_n 0, 1) := by decide +kernel
theorem dX8_advance_277 : decode cX8_advance 277 = .ok (.aload_n 0, 1) := by decide +kernel
theorem dX8_advance_278 : decode cX8_advance 278 = .ok (.getfield 48, 3) := by decide +kernel
theorem dX8_advance_281 : decode cX8_advance 281 = .ok (.aload_n 0, 1) := by decide +kernel
theorem dX8_advance_282 : decode cX8_advance 282 = .ok (.getfield 101, 3) := by decide +kernel
theorem dX8_advance_285 : decode cX8_advance 285 = .ok (.isub, 1) := by decide +kernel
theorem dX8_advance_286 : decode cX8_advance 286 = .ok (.iconst 1, 1) := by decide +kernel
theorem dX8_advance_287 : decode cX8_advance 287 = .ok (.if_icmp .le 7, 3) := by decide +kernel
theorem dX8_advance_290 : decode cX8_advance 290 = .ok (.iconst 3, 1) := by decide +kernel
theorem dX8_advance_291 : decode cX8_advance 291 = .ok (.goto 5, 3) := by decide +kernel
theorem dX8_advance_294 : decode cX8_advance 294 = .ok (.bipush 6, 2) := by decide +kernel
theorem dX8_advance_296 : decode cX8_advance 296 = .ok (.putfield 54, 3) := by decide +kernel
theorem dX8_advance_299 : decode cX8_advance 299 = .ok (.goto 37, 3) := by decide +kernel
theorem dX8_advance_302 : decode cX8_advance 302 = .ok (.aload_n 0, 1) := by decide +kernel
theorem dX8_advance_303 : decode cX8_advance 303 = .ok (.iload_n 1, 1) := by decide +kernel
theorem dX8_advance_304 : decode cX8_advance 304 = .ok (.bipush 59, 2) := by decide +kernel
theorem dX8_advance_306 : decode cX8_advance 306 = .ok (.if_icmp .eq 21, 3) := by decide +kernel
theorem dX8_advance_309 : decode cX8_advance 309 = .ok (.iload_n 1, 1) := by decide +kernel
theorem dX8_advance_310 : decode cX8_advance 310 = .ok (.bipush 58, 2) := by decide +kernel
theorem dX8_advance_312 : decode cX8_advance 312 = .ok (.if_icmp .eq 15, 3) := by decide +kernel
theorem dX8_advance_315 : decode cX8_advance 315 = .ok (.iload_n 1, 1) := by decide +kernel
theorem dX8_advance_316 : decode cX8_advance 316 = .ok (.bipush 37, 2) := by decide +kernel
theorem dX8_advance_318 : decode cX8_advance 318 = .ok (.if_icmp .eq 9, 3) := by decide +kernel
theorem dX8_advance_321 : decode cX8_advance 321 = .ok (.iload_n 1, 1) := by decide +kernel
theorem dX8_advance_322 : decode cX8_advance 322 = .ok (.bipush 45, 2) := by decide +kernel
theorem dX8_advance_324 : decode cX8_advance 324 = .ok (.if_icmp .ne 7, 3) := by decide +kernel
theorem dX8_advance_327 : decode cX8_advance 327 = .ok (.iconst 4, 1) := by decide +kernel
theorem dX8_advance_328 : decode cX8_advance 328 = .ok (.goto 5, 3) := by decide +kernel
theorem dX8_advance_331 : decode cX8_advance 331 = .ok (.bipush 6, 2) := by decide +kernel
theorem dX8_advance_333 : decode cX8_advance 333 = .ok (.putfield 54, 3) := by decide +kernel
theorem dX8_advance_336 : decode cX8_advance 336 = .ok (.return_, 1) := by decide +kernel
theorem dX8_byteAt_0 : decode cX8_byteAt 0 = .ok (.iload_n 1, 1) := by decide +kernel
theorem dX8_byteAt_1 : decode cX8_byteAt 1 = .ok (.ifCond .lt 21, 3) := by decide +kernel
theorem dX8_byteAt_4 : decode cX8_byteAt 4 = .ok (.iload_n 1, 1) := by decide +kernel
theorem dX8_byteAt_5 : decode cX8_byteAt 5 = .ok (.aload_n 0, 1) := by decide +kernel
theorem dX8_byteAt_6 : decode cX8_byteAt 6 = .ok (.getfield 24, 3) := by decide +kernel
theorem dX8_byteAt_9 : decode cX8_byteAt 9 = .ok (.arraylength, 1) := by decide +kernel
theorem dX8_byteAt_10 : decode cX8_byteAt 10 = .ok (.if_icmp .ge 12, 3) := by decide +kernel
theorem dX8_byteAt_13 : decode cX8_byteAt 13 = .ok (.aload_n 0, 1) := by decide +kernel
theorem dX8_byteAt_14 : decode cX8_byteAt 14 = .ok (.getfield 24, 3) := by decide +kernel
theorem dX8_byteAt_17 : decode cX8_byteAt 17 = .ok (.iload_n 1, 1) := by decide +kernel
theorem dX8_byteAt_18 : decode cX8_byteAt 18 = .ok (.iaload, 1) := by decide +kernel
theorem dX8_byteAt_19 : decode cX8_byteAt 19 = .ok (.goto 4, 3) := by decide +kernel
theorem dX8_byteAt_22 : decode cX8_byteAt 22 = .ok (.iconst 0, 1) := by decide +kernel
theorem dX8_byteAt_23 : decode cX8_byteAt 23 = .ok (.ireturn, 1) := by decide +kernel
theorem dX8_isLetter_0 : decode cX8_isLetter 0 = .ok (.iload_n 0, 1) := by decide +kernel
theorem dX8_isLetter_1 : decode cX8_isLetter 1 = .ok (.bipush 97, 2) := by decide +kernel
theorem dX8_isLetter_3 : decode cX8_isLetter 3 = .ok (.if_icmp .lt 13, 3) := by decide +kernel
theorem dX8_isLetter_6 : decode cX8_isLetter 6 = .ok (.iload_n 0, 1) := by decide +kernel
theorem dX8_isLetter_7 : decode cX8_isLetter 7 = .ok (.bipush 122, 2) := by decide +kernel
theorem dX8_isLetter_9 : decode cX8_isLetter 9 = .ok (.if_icmp .gt 7, 3) := by decide +kernel
theorem dX8_isLetter_12 : decode cX8_isLetter 12 = .ok (.iconst 1, 1) := by decide +kernel
theorem dX8_isLetter_13 : decode cX8_isLetter 13 = .ok (.goto 4, 3) := by decide +kernel
theorem dX8_isLetter_16 : decode cX8_isLetter 16 = .ok (.iconst 0, 1) := by decide +kernel
theorem dX8_isLetter_17 : decode cX8_isLetter 17 = .ok (.ireturn, 1) := by decide +kernel
theorem dX8_isDigit_0 : decode cX8_isDigit 0 = .ok (.iload_n 0, 1) := by decide +kernel
theorem dX8_isDigit_1 : decode cX8_isDigit 1 = .ok (.bipush 48, 2) := by decide +kernel
theorem dX8_isDigit_3 : decode cX8_isDigit 3 = .ok (.if_icmp .lt 13, 3) := by decide +kernel
theorem dX8_isDigit_6 : decode cX8_isDigit 6 = .ok (.iload_n 0, 1) := by decide +kernel
theorem dX8_isDigit_7 : decode cX8_isDigit 7 = .ok (.bipush 57, 2) := by decide +kernel
theorem dX8_isDigit_9 : decode cX8_isDigit 9 = .ok (.if_icmp .gt 7, 3) := by decide +kernel
theorem dX8_isDigit_12 : decode cX8_isDigit 12 = .ok (.iconst 1, 1) := by decide +kernel
theorem dX8_isDigit_13 : decode cX8_isDigit 13 = .ok (.goto 4, 3) := by decide +kernel
theorem dX8_isDigit_16 : decode cX8_isDigit 16 = .ok (.iconst 0, 1) := by decide +kernel
theorem dX8_isDigit_17 : decode cX8_isDigit 17 = .ok (.ireturn, 1) := by decide +kernel
theorem dX8_hexDigit_0 : decode cX8_hexDigit 0 = .ok (.iload_n 0, 1) := by decide +kernel
theorem dX8_hexDigit_1 : decode cX8_hexDigit 1 = .ok (.bipush 48, 2) := by decide +kernel
theorem dX8_hexDigit_3 : decode cX8_hexDigit 3 = .ok (.if_icmp .lt 14, 3) := by decide +kernel
theorem dX8_hexDigit_6 : decode cX8_hexDigit 6 = .ok (.iload_n 0, 1) := by decide +kernel
theorem dX8_hexDigit_7 : decode cX8_hexDigit 7 = .ok (.bipush 57, 2) := by decide +kernel
theorem dX8_hexDigit_9 : decode cX8_hexDigit 9 = .ok (.if_icmp .gt 8, 3) := by decide +kernel
theorem dX8_hexDigit_12 : decode cX8_hexDigit 12 = .ok (.iload_n 0, 1) := by decide +kernel
theorem dX8_hexDigit_13 : decode cX8_hexDigit 13 = .ok (.bipush 48, 2) := by decide +kernel
theorem dX8_hexDigit_15 : decode cX8_hexDigit 15 = .ok (.isub, 1) := by decide +kernel
theorem dX8_hexDigit_16 : decode cX8_hexDigit 16 = .ok (.ireturn, 1) := by decide +kernel
theorem dX8_hexDigit_17 : decode cX8_hexDigit 17 = .ok (.iload_n 0, 1) := by decide +kernel
theorem dX8_hexDigit_18 : decode cX8_hexDigit 18 = .ok (.bipush 97, 2) := by decide +kernel
theorem dX8_hexDigit_20 : decode cX8_hexDigit 20 = .ok (.if_icmp .lt 19, 3) := by decide +kernel
theorem dX8_hexDigit_23 : decode cX8_hexDigit 23 = .ok (.iload_n 0, 1) := by decide +kernel
theorem dX8_hexDigit_24 : decode cX8_hexDigit 24 = .ok (.bipush 102, 2) := by decide +kernel
theorem dX8_hexDigit_26 : decode cX8_hexDigit 26 = .ok (.if_icmp .gt 13, 3) := by decide +kernel
theorem dX8_hexDigit_29 : decode cX8_hexDigit 29 = .ok (.iload_n 0, 1) := by decide +kernel
theorem dX8_hexDigit_30 : decode cX8_hexDigit 30 = .ok (.bipush 97, 2) := by decide +kernel
theorem dX8_hexDigit_32 : decode cX8_hexDigit 32 = .ok (.isub, 1) := by decide +kernel
theorem dX8_hexDigit_33 : decode cX8_hexDigit 33 = .ok (.bipush 10, 2) := by decide +kernel
theorem dX8_hexDigit_35 : decode cX8_hexDigit 35 = .ok (.iadd, 1) := by decide +kernel
theorem dX8_hexDigit_36 : decode cX8_hexDigit 36 = .ok (.goto 4, 3) := by decide +kernel
theorem dX8_hexDigit_39 : decode cX8_hexDigit 39 = .ok (.iconst (-1), 1) := by decide +kernel
theorem dX8_hexDigit_40 : decode cX8_hexDigit 40 = .ok (.ireturn, 1) := by decide +kernel
theorem dX9_init_0 : decode cX9_init 0 = .ok (.aload_n 0, 1) := by decide +kernel
theorem dX9_init_1 : decode cX9_init 1 = .ok (.invokespecial 3, 3) := by decide +kernel
theorem dX9_init_4 : decode cX9_init 4 = .ok (.aload_n 0, 1) := by decide +kernel
theorem dX9_init_5 : decode cX9_init 5 = .ok (.new 9, 3) := by decide +kernel
theorem dX9_init_8 : decode cX9_init 8 = .ok (.dup, 1) := by decide +kernel
theorem dX9_init_9 : decode cX9_init 9 = .ok (.invokespecial 11, 3) := by decide +kernel
theorem dX9_init_12 : decode cX9_init 12 = .ok (.putfield 12, 3) := by decide +kernel
theorem dX9_init_15 : decode cX9_init 15 = .ok (.aload_n 0, 1) := by decide +kernel
theorem dX9_init_16 : decode cX9_init 16 = .ok (.new 9, 3) := by decide +kernel
theorem dX9_init_19 : decode cX9_init 19 = .ok (.dup, 1) := by decide +kernel
theorem dX9_init_20 : decode cX9_init 20 = .ok (.invokespecial 11, 3) := by decide +kernel
theorem dX9_init_23 : decode cX9_init 23 = .ok (.putfield 18, 3) := by decide +kernel
theorem dX9_init_26 : decode cX9_init 26 = .ok (.aload_n 0, 1) := by decide +kernel
theorem dX9_init_27 : decode cX9_init 27 = .ok (.new 9, 3) := by decide +kernel
theorem dX9_init_30 : decode cX9_init 30 = .ok (.dup, 1) := by decide +kernel
theorem dX9_init_31 : decode cX9_init 31 = .ok (.invokespecial 11, 3) := by decide +kernel
theorem dX9_init_34 : decode cX9_init 34 = .ok (.putfield 21, 3) := by decide +kernel
theorem dX9_init_37 : decode cX9_init 37 = .ok (.aload_n 0, 1) := by decide +kernel
theorem dX9_init_38 : decode cX9_init 38 = .ok (.new 24, 3) := by decide +kernel
theorem dX9_init_41 : decode cX9_init 41 = .ok (.dup, 1) := by decide +kernel
theorem dX9_init_42 : decode cX9_init 42 = .ok (.invokespecial 26, 3) := by decide +kernel
theorem dX9_init_45 : decode cX9_init 45 = .ok (.putfield 27, 3) := by decide +kernel
theorem dX9_init_48 : decode cX9_init 48 = .ok (.aload_n 0, 1) := by decide +kernel
theorem dX9_init_49 : decode cX9_init 49 = .ok (.bipush 9, 2) := by decide +kernel
theorem dX9_init_51 : decode cX9_init 51 = .ok (.newarray .int, 2) := by decide +kernel
theorem dX9_init_53 : decode cX9_init 53 = .ok (.putfield 31, 3) := by decide +kernel
theorem dX9_init_56 : decode cX9_init 56 = .ok (.aload_n 0, 1) := by decide +kernel
theorem dX9_init_57 : decode cX9_init 57 = .ok (.new 35, 3) := by decide +kernel
theorem dX9_init_60 : decode cX9_init 60 = .ok (.dup, 1) := by decide +kernel
theorem dX9_init_61 : decode cX9_init 61 = .ok (.invokespecial 37, 3) := by decide +kernel
theorem dX9_init_64 : decode cX9_init 64 = .ok (.putfield 38, 3) := by decide +kernel
theorem dX9_init_67 : decode cX9_init 67 = .ok (.aload_n 0, 1) := by decide +kernel
theorem dX9_init_68 : decode cX9_init 68 = .ok (.new 42, 3) := by decide +kernel
theorem dX9_init_71 : decode cX9_init 71 = .ok (.dup, 1) := by decide +kernel
theorem dX9_init_72 : decode cX9_init 72 = .ok (.invokespecial 44, 3) := by decide +kernel
theorem dX9_init_75 : decode cX9_init 75 = .ok (.putfield 45, 3) := by decide +kernel
theorem dX9_init_78 : decode cX9_init 78 = .ok (.aload_n 0, 1) := by decide +kernel
theorem dX9_init_79 : decode cX9_init 79 = .ok (.new 49, 3) := by decide +kernel
theorem dX9_init_82 : decode cX9_init 82 = .ok (.dup, 1) := by decide +kernel
theorem dX9_init_83 : decode cX9_init 83 = .ok (.invokespecial 51, 3) := by decide +kernel
theorem dX9_init_86 : decode cX9_init 86 = .ok (.putfield 52, 3) := by decide +kernel
theorem dX9_init_89 : decode cX9_init 89 = .ok (.return_, 1) := by decide +kernel
theorem dX9_instructions_0 : decode cX9_instructions 0 = .ok (.aload_n 0, 1) := by decide +kernel
theorem dX9_instructions_1 : decode cX9_instructions 1 = .ok (.getfield 38, 3) := by decide +kernel
theorem dX9_instructions_4 : decode cX9_instructions 4 = .ok (.invokevirtual 56, 3) := by decide +kernel
theorem dX9_instructions_7 : decode cX9_instructions 7 = .ok (.ireturn, 1) := by decide +kernel
theorem dX9_exchange_0 : decode cX9_exchange 0 = .ok (.aload_n 0, 1) := by decide +kernel
theorem dX9_exchange_1 : decode cX9_exchange 1 = .ok (.getfield 38, 3) := by decide +kernel
theorem dX9_exchange_4 : decode cX9_exchange 4 = .ok (.astore_n 2, 1) := by decide +kernel
theorem dX9_exchange_5 : decode cX9_exchange 5 = .ok (.aload_n 0, 1) := by decide +kernel
theorem dX9_exchange_6 : decode cX9_exchange 6 = .ok (.aload_n 1, 1) := by decide +kernel
theorem dX9_exchange_7 : decode cX9_exchange 7 = .ok (.putfield 38, 3) := by decide +kernel
theorem dX9_exchange_10 : decode cX9_exchange 10 = .ok (.aload_n 2, 1) := by decide +kernel
theorem dX9_exchange_11 : decode cX9_exchange 11 = .ok (.areturn, 1) := by decide +kernel
theorem dX9_restart_0 : decode cX9_restart 0 = .ok (.aload_n 1, 1) := by decide +kernel
theorem dX9_restart_1 : decode cX9_restart 1 = .ok (.aload_n 0, 1) := by decide +kernel
theorem dX9_restart_2 : decode cX9_restart 2 = .ok (.getfield 38, 3) := by decide +kernel
theorem dX9_restart_5 : decode cX9_restart 5 = .ok (.invokevirtual 60, 3) := by decide +kernel
theorem dX9_restart_8 : decode cX9_restart 8 = .ok (.return_, 1) := by decide +kernel
theorem dX9_step_0 : decode cX9_step 0 = .ok (.aload_n 1, 1) := by decide +kernel
theorem dX9_step_1 : decode cX9_step 1 = .ok (.sipush 265, 3) := by decide +kernel
theorem dX9_step_4 : decode cX9_step 4 = .ok (.invokevirtual 64, 3) := by decide +kernel
theorem dX9_step_7 : decode cX9_step 7 = .ok (.istore_n 2, 1) := by decide +kernel
theorem dX9_step_8 : decode cX9_step 8 = .ok (.aload_n 0, 1) := by decide +kernel
theorem dX9_step_9 : decode cX9_step 9 = .ok (.getfield 38, 3) := by decide +kernel
theorem dX9_step_12 : decode cX9_step 12 = .ok (.iload_n 2, 1) := by decide +kernel
theorem dX9_step_13 : decode cX9_step 13 = .ok (.invokevirtual 68, 3) := by decide +kernel
theorem dX9_step_16 : decode cX9_step 16 = .ok (.astore_n 3, 1) := by decide +kernel
theorem dX9_step_17 : decode cX9_step 17 = .ok (.aload_n 3, 1) := by decide +kernel
theorem dX9_step_18 : decode cX9_step 18 = .ok (.ifnonnull 5, 3) := by decide +kernel
theorem dX9_step_21 : decode cX9_step 21 = .ok (.iconst 0, 1) := by decide +kernel
theorem dX9_step_22 : decode cX9_step 22 = .ok (.ireturn, 1) := by decide +kernel
theorem dX9_step_23 : decode cX9_step 23 = .ok (.aload_n 0, 1) := by decide +kernel
theorem dX9_step_24 : decode cX9_step 24 = .ok (.aload_n 1, 1) := by decide +kernel
theorem dX9_step_25 : decode cX9_step 25 = .ok (.putfield 45, 3) := by decide +kernel
theorem dX9_step_28 : decode cX9_step 28 = .ok (.aload_n 0, 1) := by decide +kernel
theorem dX9_step_29 : decode cX9_step 29 = .ok (.aload_n 3, 1) := by decide +kernel
theorem dX9_step_30 : decode cX9_step 30 = .ok (.putfield 52, 3) := by decide +kernel
theorem dX9_step_33 : decode cX9_step 33 = .ok (.aload_n 0, 1) := by decide +kernel
theorem dX9_step_34 : decode cX9_step 34 = .ok (.iload_n 2, 1) := by decide +kernel
theorem dX9_step_35 : decode cX9_step 35 = .ok (.iconst 1, 1) := by decide +kernel
theorem dX9_step_36 : decode cX9_step 36 = .ok (.iadd, 1) := by decide +kernel
theorem dX9_step_37 : decode cX9_step 37 = .ok (.putfield 72, 3) := by decide +kernel
theorem dX9_step_40 : decode cX9_step 40 = .ok (.aload_n 0, 1) := by decide +kernel
theorem dX9_step_41 : decode cX9_step 41 = .ok (.iconst 0, 1) := by decide +kernel
theorem dX9_step_42 : decode cX9_step 42 = .ok (.putfield 76, 3) := by decide +kernel
theorem dX9_step_45 : decode cX9_step 45 = .ok (.aload_n 0, 1) := by decide +kernel
theorem dX9_step_46 : decode cX9_step 46 = .ok (.invokevirtual 80, 3) := by decide +kernel
theorem dX9_step_49 : decode cX9_step 49 = .ok (.istore 4, 2) := by decide +kernel
theorem dX9_step_51 : decode cX9_step 51 = .ok (.iload 4, 2) := by decide +kernel
theorem dX9_step_53 : decode cX9_step 53 = .ok (.ifCond .ne 9, 3) := by decide +kernel
theorem dX9_step_56 : decode cX9_step 56 = .ok (.aload_n 0, 1) := by decide +kernel
theorem dX9_step_57 : decode cX9_step 57 = .ok (.invokevirtual 83, 3) := by decide +kernel
theorem dX9_step_60 : decode cX9_step 60 = .ok (.istore 4, 2) := by decide +kernel
theorem dX9_step_62 : decode cX9_step 62 = .ok (.iload 4, 2) := by decide +kernel
theorem dX9_step_64 : decode cX9_step 64 = .ok (.bipush 6, 2) := by decide +kernel
theorem dX9_step_66 : decode cX9_step 66 = .ok (.if_icmp .ne 20, 3) := by decide +kernel
theorem dX9_step_69 : decode cX9_step 69 = .ok (.aload_n 0, 1) := by decide +kernel
theorem dX9_step_70 : decode cX9_step 70 = .ok (.getfield 45, 3) := by decide +kernel
theorem dX9_step_73 : decode cX9_step 73 = .ok (.sipush 273, 3) := by decide +kernel
theorem dX9_step_76 : decode cX9_step 76 = .ok (.invokevirtual 64, 3) := by decide +kernel
theorem dX9_step_79 : decode cX9_step 79 = .ok (.iconst (-1), 1) := by decide +kernel
theorem dX9_step_80 : decode cX9_step 80 = .ok (.if_icmp .ne 6, 3) := by decide +kernel
theorem dX9_step_83 : decode cX9_step 83 = .ok (.iconst 0, 1) := by decide +kernel
theorem dX9_step_84 : decode cX9_step 84 = .ok (.istore 4, 2) := by decide +kernel
theorem dX9_step_86 : decode cX9_step 86 = .ok (.iload 4, 2) := by decide +kernel
theorem dX9_step_88 : decode cX9_step 88 = .ok (.ifCond .eq 10, 3) := by decide +kernel
theorem dX9_step_91 : decode cX9_step 91 = .ok (.aload_n 0, 1) := by decide +kernel
theorem dX9_step_92 : decode cX9_step 92 = .ok (.iload 4, 2) := by decide +kernel
theorem dX9_step_94 : decode cX9_step 94 = .ok (.iload_n 2, 1) := by decide +kernel
theorem dX9_step_95 : decode cX9_step 95 = .ok (.invokevirtual 86, 3) := by decide +kernel
theorem dX9_step_98 : decode cX9_step 98 = .ok (.aload_n 0, 1) := by decide +kernel
theorem dX9_step_99 : decode cX9_step 99 = .ok (.getfield 45, 3) := by decide +kernel
theorem dX9_step_102 : decode cX9_step 102 = .ok (.iload_n 2, 1) := by decide +kernel
theorem dX9_step_103 : decode cX9_step 103 = .ok (.invokevirtual 90, 3) := by decide +kernel
theorem dX9_step_106 : decode cX9_step 106 = .ok (.aload_n 0, 1) := by decide +kernel
theorem dX9_step_107 : decode cX9_step 107 = .ok (.iload 4, 2) := by decide +kernel
theorem dX9_step_109 : decode cX9_step 109 = .ok (.iload_n 2, 1) := by decide +kernel
theorem dX9_step_110 : decode cX9_step 110 = .ok (.invokevirtual 94, 3) := by decide +kernel
theorem dX9_step_113 : decode cX9_step 113 = .ok (.iload 4, 2) := by decide +kernel
theorem dX9_step_115 : decode cX9_step 115 = .ok (.ireturn, 1) := by decide +kernel
theorem dX9_checked_0 : decode cX9_checked 0 = .ok (.aload_n 0, 1) := by decide +kernel
theorem dX9_checked_1 : decode cX9_checked 1 = .ok (.aload_n 0, 1) := by decide +kernel
theorem dX9_checked_2 : decode cX9_checked 2 = .ok (.getfield 52, 3) := by decide +kernel
theorem dX9_checked_5 : decode cX9_checked 5 = .ok (.getfield 97, 3) := by decide +kernel
theorem dX9_checked_8 : decode cX9_checked 8 = .ok (.aload_n 0, 1) := by decide +kernel
theorem dX9_checked_9 : decode cX9_checked 9 = .ok (.aload_n 0, 1) := by decide +kernel
theorem dX9_checked_10 : decode cX9_checked 10 = .ok (.getfield 52, 3) := by decide +kernel
theorem dX9_checked_13 : decode cX9_checked 13 = .ok (.getfield 100, 3) := by decide +kernel
theorem dX9_checked_16 : decode cX9_checked 16 = .ok (.invokevirtual 103, 3) := by decide +kernel
theorem dX9_checked_19 : decode cX9_checked 19 = .ok (.iadd, 1) := by decide +kernel
theorem dX9_checked_20 : decode cX9_checked 20 = .ok (.putfield 106, 3) := by decide +kernel
theorem dX9_checked_23 : decode cX9_checked 23 = .ok (.aload_n 0, 1) := by decide +kernel
theorem dX9_checked_24 : decode cX9_checked 24 = .ok (.aload_n 0, 1) := by decide +kernel
theorem dX9_checked_25 : decode cX9_checked 25 = .ok (.getfield 52, 3) := by decide +kernel
theorem dX9_checked_28 : decode cX9_checked 28 = .ok (.getfield 109, 3) := by decide +kernel
theorem dX9_checked_31 : decode cX9_checked 31 = .ok (.aload_n 0, 1) := by decide +kernel
theorem dX9_checked_32 : decode cX9_checked 32 = .ok (.aload_n 0, 1) := by decide +kernel
theorem dX9_checked_33 : decode cX9_checked 33 = .ok (.getfield 52, 3) := by decide +kernel
theorem dX9_checked_36 : decode cX9_checked 36 = .ok (.getfield 112, 3) := by decide +kernel
theorem dX9_checked_39 : decode cX9_checked 39 = .ok (.invokevirtual 103, 3) := by decide +kernel
theorem dX9_checked_42 : decode cX9_checked 42 = .ok (.iadd, 1) := by decide +kernel
theorem dX9_checked_43 : decode cX9_checked 43 = .ok (.putfield 115, 3) := by decide +kernel
theorem dX9_checked_46 : decode cX9_checked 46 = .ok (.aload_n 0, 1) := by decide +kernel
theorem dX9_checked_47 : decode cX9_checked 47 = .ok (.aload_n 0, 1) := by decide +kernel
theorem dX9_checked_48 : decode cX9_checked 48 = .ok (.getfield 106, 3) := by decide +kernel
theorem dX9_checked_51 : decode cX9_checked 51 = .ok (.aload_n 0, 1) := by decide +kernel
theorem dX9_checked_52 : decode cX9_checked 52 = .ok (.getfield 52, 3) := by decide +kernel
theorem dX9_checked_55 : decode cX9_checked 55 = .ok (.getfield 118, 3) := by decide +kernel
theorem dX9_checked_58 : decode cX9_checked 58 = .ok (.iadd, 1) := by decide +kernel
theorem dX9_checked_59 : decode cX9_checked 59 = .ok (.putfield 121, 3) := by decide +kernel
theorem dX9_checked_62 : decode cX9_checked 62 = .ok (.aload_n 0, 1) := by decide +kernel
theorem dX9_checked_63 : decode cX9_checked 63 = .ok (.aload_n 0, 1) := by decide +kernel
theorem dX9_checked_64 : decode cX9_checked 64 = .ok (.getfield 115, 3) := by decide +kernel
theorem dX9_checked_67 : decode cX9_checked 67 = .ok (.aload_n 0, 1) := by decide +kernel
theorem dX9_checked_68 : decode cX9_checked 68 = .ok (.getfield 52, 3) := by decide +kernel
theorem dX9_checked_71 : decode cX9_checked 71 = .ok (.getfield 124, 3) := by decide +kernel
theorem dX9_checked_74 : decode cX9_checked 74 = .ok (.iadd, 1) := by decide +kernel
theorem dX9_checked_75 : decode cX9_checked 75 = .ok (.putfield 127, 3) := by decide +kernel
theorem dX9_checked_78 : decode cX9_checked 78 = .ok (.aload_n 0, 1) := by decide +kernel
theorem dX9_checked_79 : decode cX9_checked 79 = .ok (.getfield 52, 3) := by decide +kernel
theorem dX9_checked_82 : decode cX9_checked 82 = .ok (.getfield 118, 3) := by decide +kernel
theorem dX9_checked_85 : decode cX9_checked 85 = .ok (.ifCond .le 27, 3) := by decide +kernel
theorem dX9_checked_88 : decode cX9_checked 88 = .ok (.aload_n 0, 1) := by decide +kernel
theorem dX9_checked_89 : decode cX9_checked 89 = .ok (.getfield 106, 3) := by decide +kernel
theorem dX9_checked_92 : decode cX9_checked 92 = .ok (.aload_n 0, 1) := by decide +kernel
theorem dX9_checked_93 : decode cX9_checked 93 = .ok (.getfield 52, 3) := by decide +kernel
theorem dX9_checked_96 : decode cX9_checked 96 = .ok (.getfield 118, 3) := by decide +kernel
theorem dX9_checked_99 : decode cX9_checked 99 = .ok (.invokestatic 130, 3) := by decide +kernel
theorem dX9_checked_102 : decode cX9_checked 102 = .ok (.ifCond .ne 10, 3) := by decide +kernel
theorem dX9_checked_105 : decode cX9_checked 105 = .ok (.aload_n 0, 1) := by decide +kernel
theorem dX9_checked_106 : decode cX9_checked 106 = .ok (.iconst 1, 1) := by decide +kernel
theorem dX9_checked_107 : decode cX9_checked 107 = .ok (.iconst 0, 1) := by decide +kernel
theorem dX9_checked_108 : decode cX9_checked 108 = .ok (.invokevirtual 134, 3) := by decide +kernel
theorem dX9_checked_111 : decode cX9_checked 111 = .ok (.ireturn, 1) := by decide +kernel
theorem dX9_checked_112 : decode cX9_checked 112 = .ok (.aload_n 0, 1) := by decide +kernel
theorem dX9_checked_113 : decode cX9_checked 113 = .ok (.getfield 52, 3) := by decide +kernel
theorem dX9_checked_116 : decode cX9_checked 116 = .ok (.getfield 124, 3) := by decide +kernel
theorem dX9_checked_119 : decode cX9_checked 119 = .ok (.ifCond .le 27, 3) := by decide +kernel
theorem dX9_checked_122 : decode cX9_checked 122 = .ok (.aload_n 0, 1) := by decide +kernel
theorem dX9_checked_123 : decode cX9_checked 123 = .ok (.getfield 115, 3) := by decide +kernel
theorem dX9_checked_126 : decode cX9_checked 126 = .ok (.aload_n 0, 1) := by decide +kernel
theorem dX9_checked_127 : decode cX9_checked 127 = .ok (.getfield 52, 3) := by decide +kernel
theorem dX9_checked_130 : decode cX9_checked 130 = .ok (.getfield 124, 3) := by decide +kernel
theorem dX9_checked_133 : decode cX9_checked 133 = .ok (.invokestatic 130, 3) := by decide +kernel
theorem dX9_checked_136 : decode cX9_checked 136 = .ok (.ifCond .ne 10, 3) := by decide +kernel
theorem dX9_checked_139 : decode cX9_checked 139 = .ok (.aload_n 0, 1) := by decide +kernel
theorem dX9_checked_140 : decode cX9_checked 140 = .ok (.iconst 1, 1) := by decide +kernel
theorem dX9_checked_141 : decode cX9_checked 141 = .ok (.iconst 1, 1) := by decide +kernel
theorem dX9_checked_142 : decode cX9_checked 142 = .ok (.invokevirtual 134, 3) := by decide +kernel
theorem dX9_checked_145 : decode cX9_checked 145 = .ok (.ireturn, 1) := by decide +kernel
theorem dX9_checked_146 : decode cX9_checked 146 = .ok (.aload_n 0, 1) := by decide +kernel
theorem dX9_checked_147 : decode cX9_checked 147 = .ok (.invokevirtual 138, 3) := by decide +kernel
theorem dX9_checked_150 : decode cX9_checked 150 = .ok (.istore_n 1, 1) := by decide +kernel
theorem dX9_checked_151 : decode cX9_checked 151 = .ok (.iload_n 1, 1) := by decide +kernel
theorem dX9_checked_152 : decode cX9_checked 152 = .ok (.ifCond .ne 24, 3) := by decide +kernel
theorem dX9_checked_155 : decode cX9_checked 155 = .ok (.aload_n 0, 1) := by decide +kernel
theorem dX9_checked_156 : decode cX9_checked 156 = .ok (.getfield 52, 3) := by decide +kernel
theorem dX9_checked_159 : decode cX9_checked 159 = .ok (.getfield 141, 3) := by decide +kernel
theorem dX9_checked_162 : decode cX9_checked 162 = .ok (.getfield 145, 3) := by decide +kernel
theorem dX9_checked_165 : decode cX9_checked 165 = .ok (.iconst 1, 1) := by decide +kernel
theorem dX9_checked_166 : decode cX9_checked 166 = .ok (.iand, 1) := by decide +kernel
theorem dX9_checked_167 : decode cX9_checked 167 = .ok (.ifCond .eq 9, 3) := by decide +kernel
theorem dX9_checked_170 : decode cX9_checked 170 = .ok (.aload_n 0, 1) := by decide +kernel
theorem dX9_checked_171 : decode cX9_checked 171 = .ok (.iconst 0, 1) := by decide +kernel
theorem dX9_checked_172 : decode cX9_checked 172 = .ok (.invokevirtual 150, 3) := by decide +kernel
theorem dX9_checked_175 : decode cX9_checked 175 = .ok (.istore_n 1, 1) := by decide +kernel
theorem dX9_checked_176 : decode cX9_checked 176 = .ok (.iload_n 1, 1) := by decide +kernel
theorem dX9_checked_177 : decode cX9_checked 177 = .ok (.ifCond .ne 24, 3) := by decide +kernel
theorem dX9_checked_180 : decode cX9_checked 180 = .ok (.aload_n 0, 1) := by decide +kernel
theorem dX9_checked_181 : decode cX9_checked 181 = .ok (.getfield 52, 3) := by decide +kernel
theorem dX9_checked_184 : decode cX9_checked 184 = .ok (.getfield 141, 3) := by decide +kernel
theorem dX9_checked_187 : decode cX9_checked 187 = .ok (.getfield 145, 3) := by decide +kernel
theorem dX9_checked_190 : decode cX9_checked 190 = .ok (.iconst 2, 1) := by decide +kernel
theorem dX9_checked_191 : decode cX9_checked 191 = .ok (.iand, 1) := by decide +kernel
theorem dX9_checked_192 : decode cX9_checked 192 = .ok (.ifCond .eq 9, 3) := by decide +kernel
theorem dX9_checked_195 : decode cX9_checked 195 = .ok (.aload_n 0, 1) := by decide +kernel
theorem dX9_checked_196 : decode cX9_checked 196 = .ok (.iconst 1, 1) := by decide +kernel
theorem dX9_checked_197 : decode cX9_checked 197 = .ok (.invokevirtual 150, 3) := by decide +kernel
theorem dX9_checked_200 : decode cX9_checked 200 = .ok (.istore_n 1, 1) := by decide +kernel
theorem dX9_checked_201 : decode cX9_checked 201 = .ok (.iload_n 1, 1) := by decide +kernel
theorem dX9_checked_202 : decode cX9_checked 202 = .ok (.ireturn, 1) := by decide +kernel
theorem dX9_misfit_0 : decode cX9_misfit 0 = .ok (.aload_n 0, 1) := by decide +kernel
theorem dX9_misfit_1 : decode cX9_misfit 1 = .ok (.getfield 106, 3) := by decide +kernel
theorem dX9_misfit_4 : decode cX9_misfit 4 = .ok (.aload_n 0, 1) := by decide +kernel
theorem dX9_misfit_5 : decode cX9_misfit 5 = .ok (.getfield 127, 3) := by decide +kernel
theorem dX9_misfit_8 : decode cX9_misfit 8 = .ok (.if_icmp .ge 18, 3) := by decide +kernel
theorem dX9_misfit_11 : decode cX9_misfit 11 = .ok (.aload_n 0, 1) := by decide +kernel
theorem dX9_misfit_12 : decode cX9_misfit 12 = .ok (.getfield 115, 3) := by decide +kernel
theorem dX9_misfit_15 : decode cX9_misfit 15 = .ok (.aload_n 0, 1) := by decide +kernel
theorem dX9_misfit_16 : decode cX9_misfit 16 = .ok (.getfield 121, 3) := by decide +kernel
theorem dX9_misfit_19 : decode cX9_misfit 19 = .ok (.if_icmp .ge 7, 3) := by decide +kernel
theorem dX9_misfit_22 : decode cX9_misfit 22 = .ok (.iconst 1, 1) := by decide +kernel
theorem dX9_misfit_23 : decode cX9_misfit 23 = .ok (.goto 4, 3) := by decide +kernel
theorem dX9_misfit_26 : decode cX9_misfit 26 = .ok (.iconst 0, 1) := by decide +kernel
theorem dX9_misfit_27 : decode cX9_misfit 27 = .ok (.istore_n 1, 1) := by decide +kernel
theorem dX9_misfit_28 : decode cX9_misfit 28 = .ok (.getstatic 153, 3) := by decide +kernel
theorem dX9_misfit_31 : decode cX9_misfit 31 = .ok (.aload_n 0, 1) := by decide +kernel
theorem dX9_misfit_32 : decode cX9_misfit 32 = .ok (.getfield 52, 3) := by decide +kernel
theorem dX9_misfit_35 : decode cX9_misfit 35 = .ok (.getfield 141, 3) := by decide +kernel
theorem dX9_misfit_38 : decode cX9_misfit 38 = .ok (.invokevirtual 158, 3) := by decide +kernel
theorem dX9_misfit_41 : decode cX9_misfit 41 = .ok (.iaload, 1) := by decide +kernel
theorem dX9_misfit_42 : decode cX9_misfit 42 = .ok (.tableswitch 148 1 5 #[34, 60, 60, 86, 86], 34) := by decide +kernel
theorem dX9_misfit_76 : decode cX9_misfit 76 = .ok (.iload_n 1, 1) := by decide +kernel
theorem dX9_misfit_77 : decode cX9_misfit 77 = .ok (.ifCond .eq 23, 3) := by decide +kernel
theorem dX9_misfit_80 : decode cX9_misfit 80 = .ok (.aload_n 0, 1) := by decide +kernel
theorem dX9_misfit_81 : decode cX9_misfit 81 = .ok (.getfield 121, 3) := by decide +kernel
theorem dX9_misfit_84 : decode cX9_misfit 84 = .ok (.aload_n 0, 1) := by decide +kernel
theorem dX9_misfit_85 : decode cX9_misfit 85 = .ok (.getfield 127, 3) := by decide +kernel
theorem dX9_misfit_88 : decode cX9_misfit 88 = .ok (.if_icmp .ge 12, 3) := by decide +kernel
theorem dX9_misfit_91 : decode cX9_misfit 91 = .ok (.aload_n 0, 1) := by decide +kernel
theorem dX9_misfit_92 : decode cX9_misfit 92 = .ok (.iconst 3, 1) := by decide +kernel
theorem dX9_misfit_93 : decode cX9_misfit 93 = .ok (.iconst 1, 1) := by decide +kernel
theorem dX9_misfit_94 : decode cX9_misfit 94 = .ok (.invokevirtual 134, 3) := by decide +kernel
theorem dX9_misfit_97 : decode cX9_misfit 97 = .ok (.goto 4, 3) := by decide +kernel
theorem dX9_misfit_100 : decode cX9_misfit 100 = .ok (.iconst 0, 1) := by decide +kernel
theorem dX9_misfit_101 : decode cX9_misfit 101 = .ok (.ireturn, 1) := by decide +kernel
theorem dX9_misfit_102 : decode cX9_misfit 102 = .ok (.iload_n 1, 1) := by decide +kernel
theorem dX9_misfit_103 : decode cX9_misfit 103 = .ok (.ifCond .eq 23, 3) := by decide +kernel
theorem dX9_misfit_106 : decode cX9_misfit 106 = .ok (.aload_n 0, 1) := by decide +kernel
theorem dX9_misfit_107 : decode cX9_misfit 107 = .ok (.getfield 121, 3) := by decide +kernel
theorem dX9_misfit_110 : decode cX9_misfit 110 = .ok (.aload_n 0, 1) := by decide +kernel
theorem dX9_misfit_111 : decode cX9_misfit 111 = .ok (.getfield 127, 3) := by decide +kernel
theorem dX9_misfit_114 : decode cX9_misfit 114 = .ok (.if_icmp .eq 12, 3) := by decide +kernel
theorem dX9_misfit_117 : decode cX9_misfit 117 = .ok (.aload_n 0, 1) := by decide +kernel
theorem dX9_misfit_118 : decode cX9_misfit 118 = .ok (.iconst 3, 1) := by decide +kernel
theorem dX9_misfit_119 : decode cX9_misfit 119 = .ok (.iconst 1, 1) := by decide +kernel
theorem dX9_misfit_120 : decode cX9_misfit 120 = .ok (.invokevirtual 134, 3) := by decide +kernel
theorem dX9_misfit_123 : decode cX9_misfit 123 = .ok (.goto 4, 3) := by decide +kernel
theorem dX9_misfit_126 : decode cX9_misfit 126 = .ok (.iconst 0, 1) := by decide +kernel
theorem dX9_misfit_127 : decode cX9_misfit 127 = .ok (.ireturn, 1) := by decide +kernel
theorem dX9_misfit_128 : decode cX9_misfit 128 = .ok (.aload_n 0, 1) := by decide +kernel
theorem dX9_misfit_129 : decode cX9_misfit 129 = .ok (.getfield 52, 3) := by decide +kernel
theorem dX9_misfit_132 : decode cX9_misfit 132 = .ok (.getfield 124, 3) := by decide +kernel
theorem dX9_misfit_135 : decode cX9_misfit 135 = .ok (.bipush 8, 2) := by decide +kernel
theorem dX9_misfit_137 : decode cX9_misfit 137 = .ok (.if_icmp .gt 20, 3) := by decide +kernel
theorem dX9_misfit_140 : decode cX9_misfit 140 = .ok (.aload_n 0, 1) := by decide +kernel
theorem dX9_misfit_141 : decode cX9_misfit 141 = .ok (.getfield 52, 3) := by decide +kernel
theorem dX9_misfit_144 : decode cX9_misfit 144 = .ok (.getfield 124, 3) := by decide +kernel
theorem dX9_misfit_147 : decode cX9_misfit 147 = .ok (.aload_n 0, 1) := by decide +kernel
theorem dX9_misfit_148 : decode cX9_misfit 148 = .ok (.getfield 52, 3) := by decide +kernel
theorem dX9_misfit_151 : decode cX9_misfit 151 = .ok (.getfield 118, 3) := by decide +kernel
theorem dX9_misfit_154 : decode cX9_misfit 154 = .ok (.if_icmp .lt 10, 3) := by decide +kernel
theorem dX9_misfit_157 : decode cX9_misfit 157 = .ok (.aload_n 0, 1) := by decide +kernel
theorem dX9_misfit_158 : decode cX9_misfit 158 = .ok (.iconst 2, 1) := by decide +kernel
theorem dX9_misfit_159 : decode cX9_misfit 159 = .ok (.iconst 1, 1) := by decide +kernel
theorem dX9_misfit_160 : decode cX9_misfit 160 = .ok (.invokevirtual 134, 3) := by decide +kernel
theorem dX9_misfit_163 : decode cX9_misfit 163 = .ok (.ireturn, 1) := by decide +kernel
theorem dX9_misfit_164 : decode cX9_misfit 164 = .ok (.iload_n 1, 1) := by decide +kernel
theorem dX9_misfit_165 : decode cX9_misfit 165 = .ok (.ifCond .eq 23, 3) := by decide +kernel
theorem dX9_misfit_168 : decode cX9_misfit 168 = .ok (.aload_n 0, 1) := by decide +kernel
theorem dX9_misfit_169 : decode cX9_misfit 169 = .ok (.getfield 121, 3) := by decide +kernel
theorem dX9_misfit_172 : decode cX9_misfit 172 = .ok (.aload_n 0, 1) := by decide +kernel
theorem dX9_misfit_173 : decode cX9_misfit 173 = .ok (.getfield 127, 3) := by decide +kernel
theorem dX9_misfit_176 : decode cX9_misfit 176 = .ok (.if_icmp .eq 12, 3) := by decide +kernel
theorem dX9_misfit_179 : decode cX9_misfit 179 = .ok (.aload_n 0, 1) := by decide +kernel
theorem dX9_misfit_180 : decode cX9_misfit 180 = .ok (.iconst 3, 1) := by decide +kernel
theorem dX9_misfit_181 : decode cX9_misfit 181 = .ok (.iconst 1, 1) := by decide +kernel
theorem dX9_misfit_182 : decode cX9_misfit 182 = .ok (.invokevirtual 134, 3) := by decide +kernel
theorem dX9_misfit_185 : decode cX9_misfit 185 = .ok (.goto 4, 3) := by decide +kernel
theorem dX9_misfit_188 : decode cX9_misfit 188 = .ok (.iconst 0, 1) := by decide +kernel
theorem dX9_misfit_189 : decode cX9_misfit 189 = .ok (.ireturn, 1) := by decide +kernel
theorem dX9_misfit_190 : decode cX9_misfit 190 = .ok (.iconst 0, 1) := by decide +kernel
theorem dX9_misfit_191 : decode cX9_misfit 191 = .ok (.ireturn, 1) := by decide +kernel
theorem dX9_flawed_0 : decode cX9_flawed 0 = .ok (.iload_n 1, 1) := by decide +kernel
theorem dX9_flawed_1 : decode cX9_flawed 1 = .ok (.ifCond .ne 10, 3) := by decide +kernel
theorem dX9_flawed_4 : decode cX9_flawed 4 = .ok (.aload_n 0, 1) := by decide +kernel
theorem dX9_flawed_5 : decode cX9_flawed 5 = .ok (.getfield 106, 3) := by decide +kernel
theorem dX9_flawed_8 : decode cX9_flawed 8 = .ok (.goto 7, 3) := by decide +kernel
theorem dX9_flawed_11 : decode cX9_flawed 11 = .ok (.aload_n 0, 1) := by decide +kernel
theorem dX9_flawed_12 : decode cX9_flawed 12 = .ok (.getfield 115, 3) := by decide +kernel
theorem dX9_flawed_15 : decode cX9_flawed 15 = .ok (.istore_n 2, 1) := by decide +kernel
theorem dX9_flawed_16 : decode cX9_flawed 16 = .ok (.iload_n 1, 1) := by decide +kernel
theorem dX9_flawed_17 : decode cX9_flawed 17 = .ok (.ifCond .ne 13, 3) := by decide +kernel
theorem dX9_flawed_20 : decode cX9_flawed 20 = .ok (.aload_n 0, 1) := by decide +kernel
theorem dX9_flawed_21 : decode cX9_flawed 21 = .ok (.getfield 52, 3) := by decide +kernel
theorem dX9_flawed_24 : decode cX9_flawed 24 = .ok (.getfield 118, 3) := by decide +kernel
theorem dX9_flawed_27 : decode cX9_flawed 27 = .ok (.goto 10, 3) := by decide +kernel
theorem dX9_flawed_30 : decode cX9_flawed 30 = .ok (.aload_n 0, 1) := by decide +kernel
theorem dX9_flawed_31 : decode cX9_flawed 31 = .ok (.getfield 52, 3) := by decide +kernel
theorem dX9_flawed_34 : decode cX9_flawed 34 = .ok (.getfield 124, 3) := by decide +kernel
theorem dX9_flawed_37 : decode cX9_flawed 37 = .ok (.istore_n 3, 1) := by decide +kernel
theorem dX9_flawed_38 : decode cX9_flawed 38 = .ok (.aload_n 0, 1) := by decide +kernel
theorem dX9_flawed_39 : decode cX9_flawed 39 = .ok (.getfield 45, 3) := by decide +kernel
theorem dX9_flawed_42 : decode cX9_flawed 42 = .ok (.iload_n 2, 1) := by decide +kernel
theorem dX9_flawed_43 : decode cX9_flawed 43 = .ok (.iload_n 3, 1) := by decide +kernel
theorem dX9_flawed_44 : decode cX9_flawed 44 = .ok (.iconst 0, 1) := by decide +kernel
theorem dX9_flawed_45 : decode cX9_flawed 45 = .ok (.iconst 2, 1) := by decide +kernel
theorem dX9_flawed_46 : decode cX9_flawed 46 = .ok (.iload_n 2, 1) := by decide +kernel
theorem dX9_flawed_47 : decode cX9_flawed 47 = .ok (.imul, 1) := by decide +kernel
theorem dX9_flawed_48 : decode cX9_flawed 48 = .ok (.invokevirtual 161, 3) := by decide +kernel
theorem dX9_flawed_51 : decode cX9_flawed 51 = .ok (.istore 4, 2) := by decide +kernel
theorem dX9_flawed_53 : decode cX9_flawed 53 = .ok (.iload 4, 2) := by decide +kernel
theorem dX9_flawed_55 : decode cX9_flawed 55 = .ok (.iconst (-1), 1) := by decide +kernel
theorem dX9_flawed_56 : decode cX9_flawed 56 = .ok (.if_icmp .ne 5, 3) := by decide +kernel
theorem dX9_flawed_59 : decode cX9_flawed 59 = .ok (.iconst 0, 1) := by decide +kernel
theorem dX9_flawed_60 : decode cX9_flawed 60 = .ok (.ireturn, 1) := by decide +kernel
theorem dX9_flawed_61 : decode cX9_flawed 61 = .ok (.aload_n 0, 1) := by decide +kernel
theorem dX9_flawed_62 : decode cX9_flawed 62 = .ok (.iload 4, 2) := by decide +kernel
theorem dX9_flawed_64 : decode cX9_flawed 64 = .ok (.aload_n 0, 1) := by decide +kernel
theorem dX9_flawed_65 : decode cX9_flawed 65 = .ok (.getfield 45, 3) := by decide +kernel
theorem dX9_flawed_68 : decode cX9_flawed 68 = .ok (.iload 4, 2) := by decide +kernel
theorem dX9_flawed_70 : decode cX9_flawed 70 = .ok (.invokevirtual 165, 3) := by decide +kernel
theorem dX9_flawed_73 : decode cX9_flawed 73 = .ok (.invokevirtual 168, 3) := by decide +kernel
theorem dX9_flawed_76 : decode cX9_flawed 76 = .ok (.aload_n 0, 1) := by decide +kernel
theorem dX9_flawed_77 : decode cX9_flawed 77 = .ok (.iconst 4, 1) := by decide +kernel
theorem dX9_flawed_78 : decode cX9_flawed 78 = .ok (.iload_n 1, 1) := by decide +kernel
theorem dX9_flawed_79 : decode cX9_flawed 79 = .ok (.invokevirtual 134, 3) := by decide +kernel
theorem dX9_flawed_82 : decode cX9_flawed 82 = .ok (.ireturn, 1) := by decide +kernel
theorem dX9_perform_0 : decode cX9_perform 0 = .ok (.aload_n 0, 1) := by decide +kernel
theorem dX9_perform_1 : decode cX9_perform 1 = .ok (.getfield 52, 3) := by decide +kernel
theorem dX9_perform_4 : decode cX9_perform 4 = .ok (.getfield 118, 3) := by decide +kernel
theorem dX9_perform_7 : decode cX9_perform 7 = .ok (.istore_n 1, 1) := by decide +kernel
theorem dX9_perform_8 : decode cX9_perform 8 = .ok (.aload_n 0, 1) := by decide +kernel
theorem dX9_perform_9 : decode cX9_perform 9 = .ok (.getfield 52, 3) := by decide +kernel
theorem dX9_perform_12 : decode cX9_perform 12 = .ok (.getfield 124, 3) := by decide +kernel
theorem dX9_perform_15 : decode cX9_perform 15 = .ok (.istore_n 2, 1) := by decide +kernel
theorem dX9_perform_16 : decode cX9_perform 16 = .ok (.getstatic 153, 3) := by decide +kernel
theorem dX9_perform_19 : decode cX9_perform 19 = .ok (.aload_n 0, 1) := by decide +kernel
theorem dX9_perform_20 : decode cX9_perform 20 = .ok (.getfield 52, 3) := by decide +kernel
theorem dX9_perform_23 : decode cX9_perform 23 = .ok (.getfield 141, 3) := by decide +kernel
theorem dX9_perform_26 : decode cX9_perform 26 = .ok (.invokevirtual 158, 3) := by decide +kernel
theorem dX9_perform_29 : decode cX9_perform 29 = .ok (.iaload, 1) := by decide +kernel
theorem dX9_perform_30 : decode cX9_perform 30 = .ok (.tableswitch 291 1 16 #[197, 202, 208, 219, 224, 78, 97, 116, 135, 156, 176, 214, 229, 234, 260, 286], 78) := by decide +kernel
theorem dX9_perform_108 : decode cX9_perform 108 = .ok (.aload_n 0, 1) := by decide +kernel
theorem dX9_perform_109 : decode cX9_perform 109 = .ok (.getfield 45, 3) := by decide +kernel
theorem dX9_perform_112 : decode cX9_perform 112 = .ok (.aload_n 0, 1) := by decide +kernel
theorem dX9_perform_113 : decode cX9_perform 113 = .ok (.getfield 106, 3) := by decide +kernel
theorem dX9_perform_116 : decode cX9_perform 116 = .ok (.iload_n 1, 1) := by decide +kernel
theorem dX9_perform_117 : decode cX9_perform 117 = .ok (.aload_n 0, 1) := by decide +kernel
theorem dX9_perform_118 : decode cX9_perform 118 = .ok (.getfield 115, 3) := by decide +kernel
theorem dX9_perform_121 : decode cX9_perform 121 = .ok (.iload_n 2, 1) := by decide +kernel
theorem dX9_perform_122 : decode cX9_perform 122 = .ok (.invokestatic 171, 3) := by decide +kernel
theorem dX9_perform_125 : decode cX9_perform 125 = .ok (.iconst 0, 1) := by decide +kernel
theorem dX9_perform_126 : decode cX9_perform 126 = .ok (.ireturn, 1) := by decide +kernel
theorem dX9_perform_127 : decode cX9_perform 127 = .ok (.aload_n 0, 1) := by decide +kernel
theorem dX9_perform_128 : decode cX9_perform 128 = .ok (.getfield 45, 3) := by decide +kernel
theorem dX9_perform_131 : decode cX9_perform 131 = .ok (.aload_n 0, 1) := by decide +kernel
theorem dX9_perform_132 : decode cX9_perform 132 = .ok (.getfield 106, 3) := by decide +kernel
theorem dX9_perform_135 : decode cX9_perform 135 = .ok (.iload_n 1, 1) := by decide +kernel
theorem dX9_perform_136 : decode cX9_perform 136 = .ok (.aload_n 0, 1) := by decide +kernel
theorem dX9_perform_137 : decode cX9_perform 137 = .ok (.getfield 115, 3) := by decide +kernel
theorem dX9_perform_140 : decode cX9_perform 140 = .ok (.iload_n 2, 1) := by decide +kernel
theorem dX9_perform_141 : decode cX9_perform 141 = .ok (.invokestatic 177, 3) := by decide +kernel
theorem dX9_perform_144 : decode cX9_perform 144 = .ok (.iconst 0, 1) := by decide +kernel
theorem dX9_perform_145 : decode cX9_perform 145 = .ok (.ireturn, 1) := by decide +kernel
theorem dX9_perform_146 : decode cX9_perform 146 = .ok (.aload_n 0, 1) := by decide +kernel
theorem dX9_perform_147 : decode cX9_perform 147 = .ok (.getfield 45, 3) := by decide +kernel
theorem dX9_perform_150 : decode cX9_perform 150 = .ok (.aload_n 0, 1) := by decide +kernel
theorem dX9_perform_151 : decode cX9_perform 151 = .ok (.getfield 106, 3) := by decide +kernel
theorem dX9_perform_154 : decode cX9_perform 154 = .ok (.iload_n 1, 1) := by decide +kernel
theorem dX9_perform_155 : decode cX9_perform 155 = .ok (.aload_n 0, 1) := by decide +kernel
theorem dX9_perform_156 : decode cX9_perform 156 = .ok (.getfield 115, 3) := by decide +kernel
theorem dX9_perform_159 : decode cX9_perform 159 = .ok (.iload_n 2, 1) := by decide +kernel
theorem dX9_perform_160 : decode cX9_perform 160 = .ok (.invokestatic 180, 3) := by decide +kernel
theorem dX9_perform_163 : decode cX9_perform 163 = .ok (.iconst 0, 1) := by decide +kernel
theorem dX9_perform_164 : decode cX9_perform 164 = .ok (.ireturn, 1) := by decide +kernel
theorem dX9_perform_165 : decode cX9_perform 165 = .ok (.aload_n 0, 1) := by decide +kernel
theorem dX9_perform_166 : decode cX9_perform 166 = .ok (.getfield 45, 3) := by decide +kernel
theorem dX9_perform_169 : decode cX9_perform 169 = .ok (.aload_n 0, 1) := by decide +kernel
theorem dX9_perform_170 : decode cX9_perform 170 = .ok (.getfield 106, 3) := by decide +kernel
theorem dX9_perform_173 : decode cX9_perform 173 = .ok (.iload_n 1, 1) := by decide +kernel
theorem dX9_perform_174 : decode cX9_perform 174 = .ok (.aload_n 0, 1) := by decide +kernel
theorem dX9_perform_175 : decode cX9_perform 175 = .ok (.getfield 115, 3) := by decide +kernel
theorem dX9_perform_178 : decode cX9_perform 178 = .ok (.sipush 255, 3) := by decide +kernel
theorem dX9_perform_181 : decode cX9_perform 181 = .ok (.invokestatic 183, 3) := by decide +kernel
theorem dX9_perform_184 : decode cX9_perform 184 = .ok (.iconst 0, 1) := by decide +kernel
theorem dX9_perform_185 : decode cX9_perform 185 = .ok (.ireturn, 1) := by decide +kernel
theorem dX9_perform_186 : decode cX9_perform 186 = .ok (.aload_n 0, 1) := by decide +kernel
theorem dX9_perform_187 : decode cX9_perform 187 = .ok (.getfield 45, 3) := by decide +kernel
theorem dX9_perform_190 : decode cX9_perform 190 = .ok (.aload_n 0, 1) := by decide +kernel
theorem dX9_perform_191 : decode cX9_perform 191 = .ok (.getfield 106, 3) := by decide +kernel
theorem dX9_perform_194 : decode cX9_perform 194 = .ok (.iload_n 1, 1) := by decide +kernel
theorem dX9_perform_195 : decode cX9_perform 195 = .ok (.aload_n 0, 1) := by decide +kernel
theorem dX9_perform_196 : decode cX9_perform 196 = .ok (.getfield 115, 3) := by decide +kernel
theorem dX9_perform_199 : decode cX9_perform 199 = .ok (.bipush 15, 2) := by decide +kernel
theorem dX9_perform_201 : decode cX9_perform 201 = .ok (.invokestatic 183, 3) := by decide +kernel
theorem dX9_perform_204 : decode cX9_perform 204 = .ok (.iconst 0, 1) := by decide +kernel
theorem dX9_perform_205 : decode cX9_perform 205 = .ok (.ireturn, 1) := by decide +kernel
theorem dX9_perform_206 : decode cX9_perform 206 = .ok (.aload_n 0, 1) := by decide +kernel
theorem dX9_perform_207 : decode cX9_perform 207 = .ok (.getfield 45, 3) := by decide +kernel
theorem dX9_perform_210 : decode cX9_perform 210 = .ok (.aload_n 0, 1) := by decide +kernel
theorem dX9_perform_211 : decode cX9_perform 211 = .ok (.getfield 106, 3) := by decide +kernel
theorem dX9_perform_214 : decode cX9_perform 214 = .ok (.iload_n 1, 1) := by decide +kernel
theorem dX9_perform_215 : decode cX9_perform 215 = .ok (.aload_n 0, 1) := by decide +kernel
theorem dX9_perform_216 : decode cX9_perform 216 = .ok (.getfield 115, 3) := by decide +kernel
theorem dX9_perform_219 : decode cX9_perform 219 = .ok (.sipush 240, 3) := by decide +kernel
theorem dX9_perform_222 : decode cX9_perform 222 = .ok (.invokestatic 183, 3) := by decide +kernel
theorem dX9_perform_225 : decode cX9_perform 225 = .ok (.iconst 0, 1) := by decide +kernel
theorem dX9_perform_226 : decode cX9_perform 226 = .ok (.ireturn, 1) := by decide +kernel
theorem dX9_perform_227 : decode cX9_perform 227 = .ok (.aload_n 0, 1) := by decide +kernel
theorem dX9_perform_228 : decode cX9_perform 228 = .ok (.invokevirtual 186, 3) := by decide +kernel
theorem dX9_perform_231 : decode cX9_perform 231 = .ok (.ireturn, 1) := by decide +kernel
theorem dX9_perform_232 : decode cX9_perform 232 = .ok (.aload_n 0, 1) := by decide +kernel
theorem dX9_perform_233 : decode cX9_perform 233 = .ok (.iconst 0, 1) := by decide +kernel
theorem dX9_perform_234 : decode cX9_perform 234 = .ok (.invokevirtual 189, 3) := by decide +kernel
theorem dX9_perform_237 : decode cX9_perform 237 = .ok (.ireturn, 1) := by decide +kernel
theorem dX9_perform_238 : decode cX9_perform 238 = .ok (.aload_n 0, 1) := by decide +kernel
theorem dX9_perform_239 : decode cX9_perform 239 = .ok (.iconst 1, 1) := by decide +kernel
theorem dX9_perform_240 : decode cX9_perform 240 = .ok (.invokevirtual 189, 3) := by decide +kernel
theorem dX9_perform_243 : decode cX9_perform 243 = .ok (.ireturn, 1) := by decide +kernel
theorem dX9_perform_244 : decode cX9_perform 244 = .ok (.aload_n 0, 1) := by decide +kernel
theorem dX9_perform_245 : decode cX9_perform 245 = .ok (.invokevirtual 193, 3) := by decide +kernel
theorem dX9_perform_248 : decode cX9_perform 248 = .ok (.ireturn, 1) := by decide +kernel
theorem dX9_perform_249 : decode cX9_perform 249 = .ok (.aload_n 0, 1) := by decide +kernel
theorem dX9_perform_250 : decode cX9_perform 250 = .ok (.invokevirtual 196, 3) := by decide +kernel
theorem dX9_perform_253 : decode cX9_perform 253 = .ok (.ireturn, 1) := by decide +kernel
theorem dX9_perform_254 : decode cX9_perform 254 = .ok (.aload_n 0, 1) := by decide +kernel
theorem dX9_perform_255 : decode cX9_perform 255 = .ok (.invokevirtual 199, 3) := by decide +kernel
theorem dX9_perform_258 : decode cX9_perform 258 = .ok (.ireturn, 1) := by decide +kernel
theorem dX9_perform_259 : decode cX9_perform 259 = .ok (.aload_n 0, 1) := by decide +kernel
theorem dX9_perform_260 : decode cX9_perform 260 = .ok (.invokevirtual 202, 3) := by decide +kernel
theorem dX9_perform_263 : decode cX9_perform 263 = .ok (.ireturn, 1) := by decide +kernel
theorem dX9_perform_264 : decode cX9_perform 264 = .ok (.aload_n 0, 1) := by decide +kernel
theorem dX9_perform_265 : decode cX9_perform 265 = .ok (.aload_n 0, 1) := by decide +kernel
theorem dX9_perform_266 : decode cX9_perform 266 = .ok (.getfield 27, 3) := by decide +kernel
theorem dX9_perform_269 : decode cX9_perform 269 = .ok (.aload_n 0, 1) := by decide +kernel
theorem dX9_perform_270 : decode cX9_perform 270 = .ok (.getfield 45, 3) := by decide +kernel
theorem dX9_perform_273 : decode cX9_perform 273 = .ok (.aload_n 0, 1) := by decide +kernel
theorem dX9_perform_274 : decode cX9_perform 274 = .ok (.getfield 106, 3) := by decide +kernel
theorem dX9_perform_277 : decode cX9_perform 277 = .ok (.iload_n 1, 1) := by decide +kernel
theorem dX9_perform_278 : decode cX9_perform 278 = .ok (.aload_n 0, 1) := by decide +kernel
theorem dX9_perform_279 : decode cX9_perform 279 = .ok (.getfield 115, 3) := by decide +kernel
theorem dX9_perform_282 : decode cX9_perform 282 = .ok (.invokevirtual 205, 3) := by decide +kernel
theorem dX9_perform_285 : decode cX9_perform 285 = .ok (.iconst 0, 1) := by decide +kernel
theorem dX9_perform_286 : decode cX9_perform 286 = .ok (.invokevirtual 209, 3) := by decide +kernel
theorem dX9_perform_289 : decode cX9_perform 289 = .ok (.ireturn, 1) := by decide +kernel
theorem dX9_perform_290 : decode cX9_perform 290 = .ok (.aload_n 0, 1) := by decide +kernel
theorem dX9_perform_291 : decode cX9_perform 291 = .ok (.aload_n 0, 1) := by decide +kernel
theorem dX9_perform_292 : decode cX9_perform 292 = .ok (.getfield 27, 3) := by decide +kernel
theorem dX9_perform_295 : decode cX9_perform 295 = .ok (.aload_n 0, 1) := by decide +kernel
theorem dX9_perform_296 : decode cX9_perform 296 = .ok (.getfield 45, 3) := by decide +kernel
theorem dX9_perform_299 : decode cX9_perform 299 = .ok (.aload_n 0, 1) := by decide +kernel
theorem dX9_perform_300 : decode cX9_perform 300 = .ok (.getfield 106, 3) := by decide +kernel
theorem dX9_perform_303 : decode cX9_perform 303 = .ok (.iload_n 1, 1) := by decide +kernel
theorem dX9_perform_304 : decode cX9_perform 304 = .ok (.aload_n 0, 1) := by decide +kernel
theorem dX9_perform_305 : decode cX9_perform 305 = .ok (.getfield 115, 3) := by decide +kernel
theorem dX9_perform_308 : decode cX9_perform 308 = .ok (.invokevirtual 205, 3) := by decide +kernel
theorem dX9_perform_311 : decode cX9_perform 311 = .ok (.iconst 1, 1) := by decide +kernel
theorem dX9_perform_312 : decode cX9_perform 312 = .ok (.invokevirtual 209, 3) := by decide +kernel
theorem dX9_perform_315 : decode cX9_perform 315 = .ok (.ireturn, 1) := by decide +kernel
theorem dX9_perform_316 : decode cX9_perform 316 = .ok (.aload_n 0, 1) := by decide +kernel
theorem dX9_perform_317 : decode cX9_perform 317 = .ok (.invokevirtual 213, 3) := by decide +kernel
theorem dX9_perform_320 : decode cX9_perform 320 = .ok (.ireturn, 1) := by decide +kernel
theorem dX9_perform_321 : decode cX9_perform 321 = .ok (.aload_n 0, 1) := by decide +kernel
theorem dX9_perform_322 : decode cX9_perform 322 = .ok (.invokevirtual 216, 3) := by decide +kernel
theorem dX9_perform_325 : decode cX9_perform 325 = .ok (.ireturn, 1) := by decide +kernel
theorem dX9_performPlain_0 : decode cX9_performPlain 0 = .ok (.sipush 256, 3) := by decide +kernel
theorem dX9_performPlain_3 : decode cX9_performPlain 3 = .ok (.aload_n 0, 1) := by decide +kernel
theorem dX9_performPlain_4 : decode cX9_performPlain 4 = .ok (.getfield 52, 3) := by decide +kernel
theorem dX9_performPlain_7 : decode cX9_performPlain 7 = .ok (.getfield 219, 3) := by decide +kernel
theorem dX9_performPlain_10 : decode cX9_performPlain 10 = .ok (.iadd, 1) := by decide +kernel
theorem dX9_performPlain_11 : decode cX9_performPlain 11 = .ok (.istore_n 1, 1) := by decide +kernel
theorem dX9_performPlain_12 : decode cX9_performPlain 12 = .ok (.aload_n 0, 1) := by decide +kernel
theorem dX9_performPlain_13 : decode cX9_performPlain 13 = .ok (.getfield 45, 3) := by decide +kernel
theorem dX9_performPlain_16 : decode cX9_performPlain 16 = .ok (.iload_n 1, 1) := by decide +kernel
theorem dX9_performPlain_17 : decode cX9_performPlain 17 = .ok (.invokevirtual 64, 3) := by decide +kernel
theorem dX9_performPlain_20 : decode cX9_performPlain 20 = .ok (.istore_n 2, 1) := by decide +kernel
theorem dX9_performPlain_21 : decode cX9_performPlain 21 = .ok (.getstatic 153, 3) := by decide +kernel
theorem dX9_performPlain_24 : decode cX9_performPlain 24 = .ok (.aload_n 0, 1) := by decide +kernel
theorem dX9_performPlain_25 : decode cX9_performPlain 25 = .ok (.getfield 52, 3) := by decide +kernel
theorem dX9_performPlain_28 : decode cX9_performPlain 28 = .ok (.getfield 141, 3) := by decide +kernel
theorem dX9_performPlain_31 : decode cX9_performPlain 31 = .ok (.invokevirtual 158, 3) := by decide +kernel
theorem dX9_performPlain_34 : decode cX9_performPlain 34 = .ok (.iaload, 1) := by decide +kernel
theorem dX9_performPlain_35 : decode cX9_performPlain 35 = .ok (.tableswitch 291 17 24 #[45, 86, 101, 121, 138, 176, 221, 251], 45) := by decide +kernel
theorem dX9_performPlain_80 : decode cX9_performPlain 80 = .ok (.aload_n 0, 1) := by decide +kernel
theorem dX9_performPlain_81 : decode cX9_performPlain 81 = .ok (.getfield 21, 3) := by decide +kernel
theorem dX9_performPlain_84 : decode cX9_performPlain 84 = .ok (.iload_n 2, 1) := by decide +kernel
theorem dX9_performPlain_85 : decode cX9_performPlain 85 = .ok (.i2l, 1) := by decide +kernel
theorem dX9_performPlain_86 : decode cX9_performPlain 86 = .ok (.invokevirtual 222, 3) := by decide +kernel
theorem dX9_performPlain_89 : decode cX9_performPlain 89 = .ok (.aload_n 0, 1) := by decide +kernel
theorem dX9_performPlain_90 : decode cX9_performPlain 90 = .ok (.getfield 21, 3) := by decide +kernel
theorem dX9_performPlain_93 : decode cX9_performPlain 93 = .ok (.aload_n 0, 1) := by decide +kernel
theorem dX9_performPlain_94 : decode cX9_performPlain 94 = .ok (.getfield 45, 3) := by decide +kernel
theorem dX9_performPlain_97 : decode cX9_performPlain 97 = .ok (.aload_n 0, 1) := by decide +kernel
theorem dX9_performPlain_98 : decode cX9_performPlain 98 = .ok (.getfield 106, 3) := by decide +kernel
theorem dX9_performPlain_101 : decode cX9_performPlain 101 = .ok (.aload_n 0, 1) := by decide +kernel
theorem dX9_performPlain_102 : decode cX9_performPlain 102 = .ok (.getfield 52, 3) := by decide +kernel
theorem dX9_performPlain_105 : decode cX9_performPlain 105 = .ok (.getfield 118, 3) := by decide +kernel
theorem dX9_performPlain_108 : decode cX9_performPlain 108 = .ok (.aload_n 0, 1) := by decide +kernel
theorem dX9_performPlain_109 : decode cX9_performPlain 109 = .ok (.getfield 21, 3) := by decide +kernel
theorem dX9_performPlain_112 : decode cX9_performPlain 112 = .ok (.invokevirtual 226, 3) := by decide +kernel
theorem dX9_performPlain_115 : decode cX9_performPlain 115 = .ok (.invokevirtual 229, 3) := by decide +kernel
theorem dX9_performPlain_118 : decode cX9_performPlain 118 = .ok (.goto 213, 3) := by decide +kernel
theorem dX9_performPlain_121 : decode cX9_performPlain 121 = .ok (.aload_n 0, 1) := by decide +kernel
theorem dX9_performPlain_122 : decode cX9_performPlain 122 = .ok (.getfield 45, 3) := by decide +kernel
theorem dX9_performPlain_125 : decode cX9_performPlain 125 = .ok (.iload_n 1, 1) := by decide +kernel
theorem dX9_performPlain_126 : decode cX9_performPlain 126 = .ok (.aload_n 0, 1) := by decide +kernel
theorem dX9_performPlain_127 : decode cX9_performPlain 127 = .ok (.getfield 106, 3) := by decide +kernel
theorem dX9_performPlain_130 : decode cX9_performPlain 130 = .ok (.invokevirtual 233, 3) := by decide +kernel
theorem dX9_performPlain_133 : decode cX9_performPlain 133 = .ok (.goto 198, 3) := by decide +kernel
theorem dX9_performPlain_136 : decode cX9_performPlain 136 = .ok (.aload_n 0, 1) := by decide +kernel
theorem dX9_performPlain_137 : decode cX9_performPlain 137 = .ok (.getfield 45, 3) := by decide +kernel
theorem dX9_performPlain_140 : decode cX9_performPlain 140 = .ok (.iload_n 1, 1) := by decide +kernel
theorem dX9_performPlain_141 : decode cX9_performPlain 141 = .ok (.iload_n 2, 1) := by decide +kernel
theorem dX9_performPlain_142 : decode cX9_performPlain 142 = .ok (.aload_n 0, 1) := by decide +kernel
theorem dX9_performPlain_143 : decode cX9_performPlain 143 = .ok (.getfield 52, 3) := by decide +kernel
theorem dX9_performPlain_146 : decode cX9_performPlain 146 = .ok (.getfield 235, 3) := by decide +kernel
theorem dX9_performPlain_149 : decode cX9_performPlain 149 = .ok (.iadd, 1) := by decide +kernel
theorem dX9_performPlain_150 : decode cX9_performPlain 150 = .ok (.invokevirtual 233, 3) := by decide +kernel
theorem dX9_performPlain_153 : decode cX9_performPlain 153 = .ok (.goto 178, 3) := by decide +kernel
theorem dX9_performPlain_156 : decode cX9_performPlain 156 = .ok (.aload_n 0, 1) := by decide +kernel
theorem dX9_performPlain_157 : decode cX9_performPlain 157 = .ok (.getfield 45, 3) := by decide +kernel
theorem dX9_performPlain_160 : decode cX9_performPlain 160 = .ok (.sipush 264, 3) := by decide +kernel
theorem dX9_performPlain_163 : decode cX9_performPlain 163 = .ok (.aload_n 0, 1) := by decide +kernel
theorem dX9_performPlain_164 : decode cX9_performPlain 164 = .ok (.invokevirtual 238, 3) := by decide +kernel
theorem dX9_performPlain_167 : decode cX9_performPlain 167 = .ok (.invokevirtual 233, 3) := by decide +kernel
theorem dX9_performPlain_170 : decode cX9_performPlain 170 = .ok (.goto 161, 3) := by decide +kernel
theorem dX9_performPlain_173 : decode cX9_performPlain 173 = .ok (.aload_n 0, 1) := by decide +kernel
theorem dX9_performPlain_174 : decode cX9_performPlain 174 = .ok (.getfield 45, 3) := by decide +kernel
theorem dX9_performPlain_177 : decode cX9_performPlain 177 = .ok (.iload_n 1, 1) := by decide +kernel
theorem dX9_performPlain_178 : decode cX9_performPlain 178 = .ok (.iload_n 2, 1) := by decide +kernel
theorem dX9_performPlain_179 : decode cX9_performPlain 179 = .ok (.iconst 1, 1) := by decide +kernel
theorem dX9_performPlain_180 : decode cX9_performPlain 180 = .ok (.isub, 1) := by decide +kernel
theorem dX9_performPlain_181 : decode cX9_performPlain 181 = .ok (.invokevirtual 233, 3) := by decide +kernel
theorem dX9_performPlain_184 : decode cX9_performPlain 184 = .ok (.aload_n 0, 1) := by decide +kernel
theorem dX9_performPlain_185 : decode cX9_performPlain 185 = .ok (.iload_n 2, 1) := by decide +kernel
theorem dX9_performPlain_186 : decode cX9_performPlain 186 = .ok (.iconst 1, 1) := by decide +kernel
theorem dX9_performPlain_187 : decode cX9_performPlain 187 = .ok (.isub, 1) := by decide +kernel
theorem dX9_performPlain_188 : decode cX9_performPlain 188 = .ok (.ifCond .eq 13, 3) := by decide +kernel
theorem dX9_performPlain_191 : decode cX9_performPlain 191 = .ok (.aload_n 0, 1) := by decide +kernel
theorem dX9_performPlain_192 : decode cX9_performPlain 192 = .ok (.getfield 52, 3) := by decide +kernel
theorem dX9_performPlain_195 : decode cX9_performPlain 195 = .ok (.getfield 241, 3) := by decide +kernel
theorem dX9_performPlain_198 : decode cX9_performPlain 198 = .ok (.goto 7, 3) := by decide +kernel
theorem dX9_performPlain_201 : decode cX9_performPlain 201 = .ok (.aload_n 0, 1) := by decide +kernel
theorem dX9_performPlain_202 : decode cX9_performPlain 202 = .ok (.getfield 72, 3) := by decide +kernel
theorem dX9_performPlain_205 : decode cX9_performPlain 205 = .ok (.putfield 72, 3) := by decide +kernel
theorem dX9_performPlain_208 : decode cX9_performPlain 208 = .ok (.goto 123, 3) := by decide +kernel
theorem dX9_performPlain_211 : decode cX9_performPlain 211 = .ok (.aload_n 0, 1) := by decide +kernel
theorem dX9_performPlain_212 : decode cX9_performPlain 212 = .ok (.aload_n 0, 1) := by decide +kernel
theorem dX9_performPlain_213 : decode cX9_performPlain 213 = .ok (.getfield 52, 3) := by decide +kernel
theorem dX9_performPlain_216 : decode cX9_performPlain 216 = .ok (.getfield 235, 3) := by decide +kernel
theorem dX9_performPlain_219 : decode cX9_performPlain 219 = .ok (.bipush 8, 2) := by decide +kernel
theorem dX9_performPlain_221 : decode cX9_performPlain 221 = .ok (.aload_n 0, 1) := by decide +kernel
theorem dX9_performPlain_222 : decode cX9_performPlain 222 = .ok (.getfield 45, 3) := by decide +kernel
theorem dX9_performPlain_225 : decode cX9_performPlain 225 = .ok (.sipush 264, 3) := by decide +kernel
theorem dX9_performPlain_228 : decode cX9_performPlain 228 = .ok (.invokevirtual 64, 3) := by decide +kernel
theorem dX9_performPlain_231 : decode cX9_performPlain 231 = .ok (.ishr, 1) := by decide +kernel
theorem dX9_performPlain_232 : decode cX9_performPlain 232 = .ok (.iand, 1) := by decide +kernel
theorem dX9_performPlain_233 : decode cX9_performPlain 233 = .ok (.ifCond .eq 13, 3) := by decide +kernel
theorem dX9_performPlain_236 : decode cX9_performPlain 236 = .ok (.aload_n 0, 1) := by decide +kernel
theorem dX9_performPlain_237 : decode cX9_performPlain 237 = .ok (.getfield 52, 3) := by decide +kernel
theorem dX9_performPlain_240 : decode cX9_performPlain 240 = .ok (.getfield 241, 3) := by decide +kernel
theorem dX9_performPlain_243 : decode cX9_performPlain 243 = .ok (.goto 7, 3) := by decide +kernel
theorem dX9_performPlain_246 : decode cX9_performPlain 246 = .ok (.aload_n 0, 1) := by decide +kernel
theorem dX9_performPlain_247 : decode cX9_performPlain 247 = .ok (.getfield 72, 3) := by decide +kernel
theorem dX9_performPlain_250 : decode cX9_performPlain 250 = .ok (.putfield 72, 3) := by decide +kernel
theorem dX9_performPlain_253 : decode cX9_performPlain 253 = .ok (.goto 78, 3) := by decide +kernel
theorem dX9_performPlain_256 : decode cX9_performPlain 256 = .ok (.aload_n 0, 1) := by decide +kernel
theorem dX9_performPlain_257 : decode cX9_performPlain 257 = .ok (.getfield 45, 3) := by decide +kernel
theorem dX9_performPlain_260 : decode cX9_performPlain 260 = .ok (.sipush 268, 3) := by decide +kernel
theorem dX9_performPlain_263 : decode cX9_performPlain 263 = .ok (.aload_n 0, 1) := by decide +kernel
theorem dX9_performPlain_264 : decode cX9_performPlain 264 = .ok (.getfield 52, 3) := by decide +kernel
theorem dX9_performPlain_267 : decode cX9_performPlain 267 = .ok (.getfield 235, 3) := by decide +kernel
theorem dX9_performPlain_270 : decode cX9_performPlain 270 = .ok (.iadd, 1) := by decide +kernel
theorem dX9_performPlain_271 : decode cX9_performPlain 271 = .ok (.iconst 1, 1) := by decide +kernel
theorem dX9_performPlain_272 : decode cX9_performPlain 272 = .ok (.isub, 1) := by decide +kernel
theorem dX9_performPlain_273 : decode cX9_performPlain 273 = .ok (.aload_n 0, 1) := by decide +kernel
theorem dX9_performPlain_274 : decode cX9_performPlain 274 = .ok (.getfield 52, 3) := by decide +kernel
theorem dX9_performPlain_277 : decode cX9_performPlain 277 = .ok (.getfield 241, 3) := by decide +kernel
theorem dX9_performPlain_280 : decode cX9_performPlain 280 = .ok (.invokevirtual 233, 3) := by decide +kernel
theorem dX9_performPlain_283 : decode cX9_performPlain 283 = .ok (.goto 48, 3) := by decide +kernel
theorem dX9_performPlain_286 : decode cX9_performPlain 286 = .ok (.aload_n 0, 1) := by decide +kernel
theorem dX9_performPlain_287 : decode cX9_performPlain 287 = .ok (.aload_n 0, 1) := by decide +kernel
theorem dX9_performPlain_288 : decode cX9_performPlain 288 = .ok (.getfield 45, 3) := by decide +kernel
theorem dX9_performPlain_291 : decode cX9_performPlain 291 = .ok (.sipush 266, 3) := by decide +kernel
theorem dX9_performPlain_294 : decode cX9_performPlain 294 = .ok (.invokevirtual 64, 3) := by decide +kernel
theorem dX9_performPlain_297 : decode cX9_performPlain 297 = .ok (.iconst (-1), 1) := by decide +kernel
theorem dX9_performPlain_298 : decode cX9_performPlain 298 = .ok (.if_icmp .eq 18, 3) := by decide +kernel
theorem dX9_performPlain_301 : decode cX9_performPlain 301 = .ok (.aload_n 0, 1) := by decide +kernel
theorem dX9_performPlain_302 : decode cX9_performPlain 302 = .ok (.getfield 45, 3) := by decide +kernel
theorem dX9_performPlain_305 : decode cX9_performPlain 305 = .ok (.sipush 266, 3) := by decide +kernel
theorem dX9_performPlain_308 : decode cX9_performPlain 308 = .ok (.invokevirtual 64, 3) := by decide +kernel
theorem dX9_performPlain_311 : decode cX9_performPlain 311 = .ok (.iconst 1, 1) := by decide +kernel
theorem dX9_performPlain_312 : decode cX9_performPlain 312 = .ok (.iadd, 1) := by decide +kernel
theorem dX9_performPlain_313 : decode cX9_performPlain 313 = .ok (.goto 7, 3) := by decide +kernel
theorem dX9_performPlain_316 : decode cX9_performPlain 316 = .ok (.aload_n 0, 1) := by decide +kernel
theorem dX9_performPlain_317 : decode cX9_performPlain 317 = .ok (.getfield 72, 3) := by decide +kernel
theorem dX9_performPlain_320 : decode cX9_performPlain 320 = .ok (.putfield 72, 3) := by decide +kernel
theorem dX9_performPlain_323 : decode cX9_performPlain 323 = .ok (.goto 8, 3) := by decide +kernel
theorem dX9_performPlain_326 : decode cX9_performPlain 326 = .ok (.aload_n 0, 1) := by decide +kernel
theorem dX9_performPlain_327 : decode cX9_performPlain 327 = .ok (.iconst 1, 1) := by decide +kernel
theorem dX9_performPlain_328 : decode cX9_performPlain 328 = .ok (.putfield 76, 3) := by decide +kernel
theorem dX9_performPlain_331 : decode cX9_performPlain 331 = .ok (.iconst 0, 1) := by decide +kernel
theorem dX9_performPlain_332 : decode cX9_performPlain 332 = .ok (.ireturn, 1) := by decide +kernel
theorem dX9_tested_0 : decode cX9_tested 0 = .ok (.iconst 2, 1) := by decide +kernel
theorem dX9_tested_1 : decode cX9_tested 1 = .ok (.aload_n 0, 1) := by decide +kernel
theorem dX9_tested_2 : decode cX9_tested 2 = .ok (.getfield 121, 3) := by decide +kernel
theorem dX9_tested_5 : decode cX9_tested 5 = .ok (.imul, 1) := by decide +kernel
theorem dX9_tested_6 : decode cX9_tested 6 = .ok (.iconst 1, 1) := by decide +kernel
theorem dX9_tested_7 : decode cX9_tested 7 = .ok (.isub, 1) := by decide +kernel
theorem dX9_tested_8 : decode cX9_tested 8 = .ok (.istore_n 1, 1) := by decide +kernel
theorem dX9_tested_9 : decode cX9_tested 9 = .ok (.aload_n 0, 1) := by decide +kernel
theorem dX9_tested_10 : decode cX9_tested 10 = .ok (.getfield 45, 3) := by decide +kernel
theorem dX9_tested_13 : decode cX9_tested 13 = .ok (.aload_n 0, 1) := by decide +kernel
theorem dX9_tested_14 : decode cX9_tested 14 = .ok (.getfield 106, 3) := by decide +kernel
theorem dX9_tested_17 : decode cX9_tested 17 = .ok (.aload_n 0, 1) := by decide +kernel
theorem dX9_tested_18 : decode cX9_tested 18 = .ok (.getfield 52, 3) := by decide +kernel
theorem dX9_tested_21 : decode cX9_tested 21 = .ok (.getfield 118, 3) := by decide +kernel
theorem dX9_tested_24 : decode cX9_tested 24 = .ok (.iconst 0, 1) := by decide +kernel
theorem dX9_tested_25 : decode cX9_tested 25 = .ok (.iconst 2, 1) := by decide +kernel
theorem dX9_tested_26 : decode cX9_tested 26 = .ok (.aload_n 0, 1) := by decide +kernel
theorem dX9_tested_27 : decode cX9_tested 27 = .ok (.getfield 106, 3) := by decide +kernel
theorem dX9_tested_30 : decode cX9_tested 30 = .ok (.imul, 1) := by decide +kernel
theorem dX9_tested_31 : decode cX9_tested 31 = .ok (.invokevirtual 161, 3) := by decide +kernel
theorem dX9_tested_34 : decode cX9_tested 34 = .ok (.istore_n 2, 1) := by decide +kernel
theorem dX9_tested_35 : decode cX9_tested 35 = .ok (.iload_n 2, 1) := by decide +kernel
theorem dX9_tested_36 : decode cX9_tested 36 = .ok (.iconst (-1), 1) := by decide +kernel
theorem dX9_tested_37 : decode cX9_tested 37 = .ok (.if_icmp .eq 12, 3) := by decide +kernel
theorem dX9_tested_40 : decode cX9_tested 40 = .ok (.iload_n 2, 1) := by decide +kernel
theorem dX9_tested_41 : decode cX9_tested 41 = .ok (.iload_n 1, 1) := by decide +kernel
theorem dX9_tested_42 : decode cX9_tested 42 = .ok (.if_icmp .eq 7, 3) := by decide +kernel
theorem dX9_tested_45 : decode cX9_tested 45 = .ok (.iconst 2, 1) := by decide +kernel
theorem dX9_tested_46 : decode cX9_tested 46 = .ok (.goto 4, 3) := by decide +kernel
theorem dX9_tested_49 : decode cX9_tested 49 = .ok (.iconst 0, 1) := by decide +kernel
theorem dX9_tested_50 : decode cX9_tested 50 = .ok (.istore_n 3, 1) := by decide +kernel
theorem dX9_tested_51 : decode cX9_tested 51 = .ok (.aload_n 0, 1) := by decide +kernel
theorem dX9_tested_52 : decode cX9_tested 52 = .ok (.getfield 45, 3) := by decide +kernel
theorem dX9_tested_55 : decode cX9_tested 55 = .ok (.iload_n 1, 1) := by decide +kernel
theorem dX9_tested_56 : decode cX9_tested 56 = .ok (.invokevirtual 165, 3) := by decide +kernel
theorem dX9_tested_59 : decode cX9_tested 59 = .ok (.bipush 9, 2) := by decide +kernel
theorem dX9_tested_61 : decode cX9_tested 61 = .ok (.if_icmp .le 7, 3) := by decide +kernel
theorem dX9_tested_64 : decode cX9_tested 64 = .ok (.iload_n 3, 1) := by decide +kernel
theorem dX9_tested_65 : decode cX9_tested 65 = .ok (.goto 6, 3) := by decide +kernel
theorem dX9_tested_68 : decode cX9_tested 68 = .ok (.iload_n 3, 1) := by decide +kernel
theorem dX9_tested_69 : decode cX9_tested 69 = .ok (.iconst 1, 1) := by decide +kernel
theorem dX9_tested_70 : decode cX9_tested 70 = .ok (.iadd, 1) := by decide +kernel
theorem dX9_tested_71 : decode cX9_tested 71 = .ok (.ireturn, 1) := by decide +kernel
theorem dX9_moveNumber_0 : decode cX9_moveNumber 0 = .ok (.aload_n 0, 1) := by decide +kernel
theorem dX9_moveNumber_1 : decode cX9_moveNumber 1 = .ok (.getfield 21, 3) := by decide +kernel
theorem dX9_moveNumber_4 : decode cX9_moveNumber 4 = .ok (.aload_n 0, 1) := by decide +kernel
theorem dX9_moveNumber_5 : decode cX9_moveNumber 5 = .ok (.getfield 45, 3) := by decide +kernel
theorem dX9_moveNumber_8 : decode cX9_moveNumber 8 = .ok (.aload_n 0, 1) := by decide +kernel
theorem dX9_moveNumber_9 : decode cX9_moveNumber 9 = .ok (.getfield 115, 3) := by decide +kernel
theorem dX9_moveNumber_12 : decode cX9_moveNumber 12 = .ok (.aload_n 0, 1) := by decide +kernel
theorem dX9_moveNumber_13 : decode cX9_moveNumber 13 = .ok (.getfield 52, 3) := by decide +kernel
theorem dX9_moveNumber_16 : decode cX9_moveNumber 16 = .ok (.getfield 124, 3) := by decide +kernel
theorem dX9_moveNumber_19 : decode cX9_moveNumber 19 = .ok (.invokevirtual 244, 3) := by decide +kernel
theorem dX9_moveNumber_22 : decode cX9_moveNumber 22 = .ok (.aload_n 0, 1) := by decide +kernel
theorem dX9_moveNumber_23 : decode cX9_moveNumber 23 = .ok (.invokevirtual 248, 3) := by decide +kernel
theorem dX9_moveNumber_26 : decode cX9_moveNumber 26 = .ok (.ireturn, 1) := by decide +kernel
theorem dX9_addNumbers_0 : decode cX9_addNumbers 0 = .ok (.aload_n 0, 1) := by decide +kernel
theorem dX9_addNumbers_1 : decode cX9_addNumbers 1 = .ok (.getfield 12, 3) := by decide +kernel
theorem dX9_addNumbers_4 : decode cX9_addNumbers 4 = .ok (.aload_n 0, 1) := by decide +kernel
theorem dX9_addNumbers_5 : decode cX9_addNumbers 5 = .ok (.getfield 45, 3) := by decide +kernel
theorem dX9_addNumbers_8 : decode cX9_addNumbers 8 = .ok (.aload_n 0, 1) := by decide +kernel
theorem dX9_addNumbers_9 : decode cX9_addNumbers 9 = .ok (.getfield 106, 3) := by decide +kernel
theorem dX9_addNumbers_12 : decode cX9_addNumbers 12 = .ok (.aload_n 0, 1) := by decide +kernel
theorem dX9_addNumbers_13 : decode cX9_addNumbers 13 = .ok (.getfield 52, 3) := by decide +kernel
theorem dX9_addNumbers_16 : decode cX9_addNumbers 16 = .ok (.getfield 118, 3) := by decide +kernel
theorem dX9_addNumbers_19 : decode cX9_addNumbers 19 = .ok (.invokevirtual 244, 3) := by decide +kernel
theorem dX9_addNumbers_22 : decode cX9_addNumbers 22 = .ok (.aload_n 0, 1) := by decide +kernel
theorem dX9_addNumbers_23 : decode cX9_addNumbers 23 = .ok (.getfield 18, 3) := by decide +kernel
theorem dX9_addNumbers_26 : decode cX9_addNumbers 26 = .ok (.aload_n 0, 1) := by decide +kernel
theorem dX9_addNumbers_27 : decode cX9_addNumbers 27 = .ok (.getfield 45, 3) := by decide +kernel
theorem dX9_addNumbers_30 : decode cX9_addNumbers 30 = .ok (.aload_n 0, 1) := by decide +kernel
theorem dX9_addNumbers_31 : decode cX9_addNumbers 31 = .ok (.getfield 115, 3) := by decide +kernel
theorem dX9_addNumbers_34 : decode cX9_addNumbers 34 = .ok (.aload_n 0, 1) := by decide +kernel
theorem dX9_addNumbers_35 : decode cX9_addNumbers 35 = .ok (.getfield 52, 3) := by decide +kernel
theorem dX9_addNumbers_38 : decode cX9_addNumbers 38 = .ok (.getfield 124, 3) := by decide +kernel
theorem dX9_addNumbers_41 : decode cX9_addNumbers 41 = .ok (.invokevirtual 244, 3) := by decide +kernel
theorem dX9_addNumbers_44 : decode cX9_addNumbers 44 = .ok (.aload_n 0, 1) := by decide +kernel
theorem dX9_addNumbers_45 : decode cX9_addNumbers 45 = .ok (.getfield 21, 3) := by decide +kernel
theorem dX9_addNumbers_48 : decode cX9_addNumbers 48 = .ok (.aload_n 0, 1) := by decide +kernel
theorem dX9_addNumbers_49 : decode cX9_addNumbers 49 = .ok (.getfield 12, 3) := by decide +kernel
theorem dX9_addNumbers_52 : decode cX9_addNumbers 52 = .ok (.aload_n 0, 1) := by decide +kernel
theorem dX9_addNumbers_53 : decode cX9_addNumbers 53 = .ok (.getfield 18, 3) := by decide +kernel
theorem dX9_addNumbers_56 : decode cX9_addNumbers 56 = .ok (.iload_n 1, 1) := by decide +kernel
theorem dX9_addNumbers_57 : decode cX9_addNumbers 57 = .ok (.invokevirtual 251, 3) := by decide +kernel
theorem dX9_addNumbers_60 : decode cX9_addNumbers 60 = .ok (.aload_n 0, 1) := by decide +kernel
theorem dX9_addNumbers_61 : decode cX9_addNumbers 61 = .ok (.invokevirtual 248, 3) := by decide +kernel
theorem dX9_addNumbers_64 : decode cX9_addNumbers 64 = .ok (.ireturn, 1) := by decide +kernel
theorem dX9_compareNumbers_0 : decode cX9_compareNumbers 0 = .ok (.aload_n 0, 1) := by decide +kernel
theorem dX9_compareNumbers_1 : decode cX9_compareNumbers 1 = .ok (.getfield 12, 3) := by decide +kernel
theorem dX9_compareNumbers_4 : decode cX9_compareNumbers 4 = .ok (.aload_n 0, 1) := by decide +kernel
theorem dX9_compareNumbers_5 : decode cX9_compareNumbers 5 = .ok (.getfield 45, 3) := by decide +kernel
theorem dX9_compareNumbers_8 : decode cX9_compareNumbers 8 = .ok (.aload_n 0, 1) := by decide +kernel
theorem dX9_compareNumbers_9 : decode cX9_compareNumbers 9 = .ok (.getfield 106, 3) := by decide +kernel
theorem dX9_compareNumbers_12 : decode cX9_compareNumbers 12 = .ok (.aload_n 0, 1) := by decide +kernel
theorem dX9_compareNumbers_13 : decode cX9_compareNumbers 13 = .ok (.getfield 52, 3) := by decide +kernel
theorem dX9_compareNumbers_16 : decode cX9_compareNumbers 16 = .ok (.getfield 118, 3) := by decide +kernel
theorem dX9_compareNumbers_19 : decode cX9_compareNumbers 19 = .ok (.invokevirtual 244, 3) := by decide +kernel
theorem dX9_compareNumbers_22 : decode cX9_compareNumbers 22 = .ok (.aload_n 0, 1) := by decide +kernel
theorem dX9_compareNumbers_23 : decode cX9_compareNumbers 23 = .ok (.getfield 18, 3) := by decide +kernel
theorem dX9_compareNumbers_26 : decode cX9_compareNumbers 26 = .ok (.aload_n 0, 1) := by decide +kernel
theorem dX9_compareNumbers_27 : decode cX9_compareNumbers 27 = .ok (.getfield 45, 3) := by decide +kernel
theorem dX9_compareNumbers_30 : decode cX9_compareNumbers 30 = .ok (.aload_n 0, 1) := by decide +kernel
theorem dX9_compareNumbers_31 : decode cX9_compareNumbers 31 = .ok (.getfield 115, 3) := by decide +kernel
theorem dX9_compareNumbers_34 : decode cX9_compareNumbers 34 = .ok (.aload_n 0, 1) := by decide +kernel
theorem dX9_compareNumbers_35 : decode cX9_compareNumbers 35 = .ok (.getfield 52, 3) := by decide +kernel
theorem dX9_compareNumbers_38 : decode cX9_compareNumbers 38 = .ok (.getfield 124, 3) := by decide +kernel
theorem dX9_compareNumbers_41 : decode cX9_compareNumbers 41 = .ok (.invokevirtual 244, 3) := by decide +kernel
theorem dX9_compareNumbers_44 : decode cX9_compareNumbers 44 = .ok (.aload_n 0, 1) := by decide +kernel
theorem dX9_compareNumbers_45 : decode cX9_compareNumbers 45 = .ok (.getfield 21, 3) := by decide +kernel
theorem dX9_compareNumbers_48 : decode cX9_compareNumbers 48 = .ok (.aload_n 0, 1) := by decide +kernel
theorem dX9_compareNumbers_49 : decode cX9_compareNumbers 49 = .ok (.getfield 12, 3) := by decide +kernel
theorem dX9_compareNumbers_52 : decode cX9_compareNumbers 52 = .ok (.aload_n 0, 1) := by decide +kernel
theorem dX9_compareNumbers_53 : decode cX9_compareNumbers 53 = .ok (.getfield 18, 3) := by decide +kernel
theorem dX9_compareNumbers_56 : decode cX9_compareNumbers 56 = .ok (.iconst 1, 1) := by decide +kernel
theorem dX9_compareNumbers_57 : decode cX9_compareNumbers 57 = .ok (.invokevirtual 251, 3) := by decide +kernel
theorem dX9_compareNumbers_60 : decode cX9_compareNumbers 60 = .ok (.aload_n 0, 1) := by decide +kernel
theorem dX9_compareNumbers_61 : decode cX9_compareNumbers 61 = .ok (.getfield 45, 3) := by decide +kernel
theorem dX9_compareNumbers_64 : decode cX9_compareNumbers 64 = .ok (.sipush 264, 3) := by decide +kernel
theorem dX9_compareNumbers_67 : decode cX9_compareNumbers 67 = .ok (.aload_n 0, 1) := by decide +kernel
theorem dX9_compareNumbers_68 : decode cX9_compareNumbers 68 = .ok (.getfield 21, 3) := by decide +kernel
theorem dX9_compareNumbers_71 : decode cX9_compareNumbers 71 = .ok (.invokevirtual 255, 3) := by decide +kernel
theorem dX9_compareNumbers_74 : decode cX9_compareNumbers 74 = .ok (.invokevirtual 233, 3) := by decide +kernel
theorem dX9_compareNumbers_77 : decode cX9_compareNumbers 77 = .ok (.iconst 0, 1) := by decide +kernel
theorem dX9_compareNumbers_78 : decode cX9_compareNumbers 78 = .ok (.ireturn, 1) := by decide +kernel
theorem dX9_multiplyNumbers_0 : decode cX9_multiplyNumbers 0 = .ok (.iconst 2, 1) := by decide +kernel
theorem dX9_multiplyNumbers_1 : decode cX9_multiplyNumbers 1 = .ok (.aload_n 0, 1) := by decide +kernel
theorem dX9_multiplyNumbers_2 : decode cX9_multiplyNumbers 2 = .ok (.getfield 106, 3) := by decide +kernel
theorem dX9_multiplyNumbers_5 : decode cX9_multiplyNumbers 5 = .ok (.imul, 1) := by decide +kernel
theorem dX9_multiplyNumbers_6 : decode cX9_multiplyNumbers 6 = .ok (.istore_n 1, 1) := by decide +kernel
theorem dX9_multiplyNumbers_7 : decode cX9_multiplyNumbers 7 = .ok (.iload_n 1, 1) := by decide +kernel
theorem dX9_multiplyNumbers_8 : decode cX9_multiplyNumbers 8 = .ok (.iconst 2, 1) := by decide +kernel
theorem dX9_multiplyNumbers_9 : decode cX9_multiplyNumbers 9 = .ok (.aload_n 0, 1) := by decide +kernel
theorem dX9_multiplyNumbers_10 : decode cX9_multiplyNumbers 10 = .ok (.getfield 106, 3) := by decide +kernel
theorem dX9_multiplyNumbers_13 : decode cX9_multiplyNumbers 13 = .ok (.aload_n 0, 1) := by decide +kernel
theorem dX9_multiplyNumbers_14 : decode cX9_multiplyNumbers 14 = .ok (.getfield 52, 3) := by decide +kernel
theorem dX9_multiplyNumbers_17 : decode cX9_multiplyNumbers 17 = .ok (.getfield 124, 3) := by decide +kernel
theorem dX9_multiplyNumbers_20 : decode cX9_multiplyNumbers 20 = .ok (.iadd, 1) := by decide +kernel
theorem dX9_multiplyNumbers_21 : decode cX9_multiplyNumbers 21 = .ok (.imul, 1) := by decide +kernel
theorem dX9_multiplyNumbers_22 : decode cX9_multiplyNumbers 22 = .ok (.if_icmp .ge 40, 3) := by decide +kernel
theorem dX9_multiplyNumbers_25 : decode cX9_multiplyNumbers 25 = .ok (.aload_n 0, 1) := by decide +kernel
theorem dX9_multiplyNumbers_26 : decode cX9_multiplyNumbers 26 = .ok (.getfield 45, 3) := by decide +kernel
theorem dX9_multiplyNumbers_29 : decode cX9_multiplyNumbers 29 = .ok (.iload_n 1, 1) := by decide +kernel
theorem dX9_multiplyNumbers_30 : decode cX9_multiplyNumbers 30 = .ok (.invokevirtual 165, 3) := by decide +kernel
theorem dX9_multiplyNumbers_33 : decode cX9_multiplyNumbers 33 = .ok (.ifCond .eq 23, 3) := by decide +kernel
theorem dX9_multiplyNumbers_36 : decode cX9_multiplyNumbers 36 = .ok (.aload_n 0, 1) := by decide +kernel
theorem dX9_multiplyNumbers_37 : decode cX9_multiplyNumbers 37 = .ok (.iload_n 1, 1) := by decide +kernel
theorem dX9_multiplyNumbers_38 : decode cX9_multiplyNumbers 38 = .ok (.aload_n 0, 1) := by decide +kernel
theorem dX9_multiplyNumbers_39 : decode cX9_multiplyNumbers 39 = .ok (.getfield 45, 3) := by decide +kernel
theorem dX9_multiplyNumbers_42 : decode cX9_multiplyNumbers 42 = .ok (.iload_n 1, 1) := by decide +kernel
theorem dX9_multiplyNumbers_43 : decode cX9_multiplyNumbers 43 = .ok (.invokevirtual 165, 3) := by decide +kernel
theorem dX9_multiplyNumbers_46 : decode cX9_multiplyNumbers 46 = .ok (.invokevirtual 168, 3) := by decide +kernel
theorem dX9_multiplyNumbers_49 : decode cX9_multiplyNumbers 49 = .ok (.aload_n 0, 1) := by decide +kernel
theorem dX9_multiplyNumbers_50 : decode cX9_multiplyNumbers 50 = .ok (.iconst 5, 1) := by decide +kernel
theorem dX9_multiplyNumbers_51 : decode cX9_multiplyNumbers 51 = .ok (.iconst 0, 1) := by decide +kernel
theorem dX9_multiplyNumbers_52 : decode cX9_multiplyNumbers 52 = .ok (.invokevirtual 134, 3) := by decide +kernel
theorem dX9_multiplyNumbers_55 : decode cX9_multiplyNumbers 55 = .ok (.ireturn, 1) := by decide +kernel
theorem dX9_multiplyNumbers_56 : decode cX9_multiplyNumbers 56 = .ok (.iinc 1 1, 3) := by decide +kernel
theorem dX9_multiplyNumbers_59 : decode cX9_multiplyNumbers 59 = .ok (.goto (-52), 3) := by decide +kernel
theorem dX9_multiplyNumbers_62 : decode cX9_multiplyNumbers 62 = .ok (.aload_n 0, 1) := by decide +kernel
theorem dX9_multiplyNumbers_63 : decode cX9_multiplyNumbers 63 = .ok (.getfield 12, 3) := by decide +kernel
theorem dX9_multiplyNumbers_66 : decode cX9_multiplyNumbers 66 = .ok (.aload_n 0, 1) := by decide +kernel
theorem dX9_multiplyNumbers_67 : decode cX9_multiplyNumbers 67 = .ok (.getfield 45, 3) := by decide +kernel
theorem dX9_multiplyNumbers_70 : decode cX9_multiplyNumbers 70 = .ok (.aload_n 0, 1) := by decide +kernel
theorem dX9_multiplyNumbers_71 : decode cX9_multiplyNumbers 71 = .ok (.getfield 106, 3) := by decide +kernel
theorem dX9_multiplyNumbers_74 : decode cX9_multiplyNumbers 74 = .ok (.aload_n 0, 1) := by decide +kernel
theorem dX9_multiplyNumbers_75 : decode cX9_multiplyNumbers 75 = .ok (.getfield 52, 3) := by decide +kernel
theorem dX9_multiplyNumbers_78 : decode cX9_multiplyNumbers 78 = .ok (.getfield 118, 3) := by decide +kernel
theorem dX9_multiplyNumbers_81 : decode cX9_multiplyNumbers 81 = .ok (.invokevirtual 244, 3) := by decide +kernel
theorem dX9_multiplyNumbers_84 : decode cX9_multiplyNumbers 84 = .ok (.aload_n 0, 1) := by decide +kernel
theorem dX9_multiplyNumbers_85 : decode cX9_multiplyNumbers 85 = .ok (.getfield 18, 3) := by decide +kernel
theorem dX9_multiplyNumbers_88 : decode cX9_multiplyNumbers 88 = .ok (.aload_n 0, 1) := by decide +kernel
theorem dX9_multiplyNumbers_89 : decode cX9_multiplyNumbers 89 = .ok (.getfield 45, 3) := by decide +kernel
theorem dX9_multiplyNumbers_92 : decode cX9_multiplyNumbers 92 = .ok (.aload_n 0, 1) := by decide +kernel
theorem dX9_multiplyNumbers_93 : decode cX9_multiplyNumbers 93 = .ok (.getfield 115, 3) := by decide +kernel
theorem dX9_multiplyNumbers_96 : decode cX9_multiplyNumbers 96 = .ok (.aload_n 0, 1) := by decide +kernel
theorem dX9_multiplyNumbers_97 : decode cX9_multiplyNumbers 97 = .ok (.getfield 52, 3) := by decide +kernel
theorem dX9_multiplyNumbers_100 : decode cX9_multiplyNumbers 100 = .ok (.getfield 124, 3) := by decide +kernel
