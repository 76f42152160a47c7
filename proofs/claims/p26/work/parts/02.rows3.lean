theorem dL_refusesAny_35 : decode cL_refusesAny 35 = .ok (.bipush 74, 2) := by decide +kernel
theorem dL_refusesAny_37 : decode cL_refusesAny 37 = .ok (.goto 5, 3) := by decide +kernel
theorem dL_refusesAny_40 : decode cL_refusesAny 40 = .ok (.bipush 100, 2) := by decide +kernel
theorem dL_refusesAny_42 : decode cL_refusesAny 42 = .ok (.invokevirtual 35, 3) := by decide +kernel
theorem dL_refusesAny_45 : decode cL_refusesAny 45 = .ok (.bipush (-2), 2) := by decide +kernel
theorem dL_refusesAny_47 : decode cL_refusesAny 47 = .ok (.if_icmp .ne 151, 3) := by decide +kernel
theorem dL_refusesAny_50 : decode cL_refusesAny 50 = .ok (.aload_n 0, 1) := by decide +kernel
theorem dL_refusesAny_51 : decode cL_refusesAny 51 = .ok (.iconst 1, 1) := by decide +kernel
theorem dL_refusesAny_52 : decode cL_refusesAny 52 = .ok (.iload_n 1, 1) := by decide +kernel
theorem dL_refusesAny_53 : decode cL_refusesAny 53 = .ok (.ifCond .ne 7, 3) := by decide +kernel
theorem dL_refusesAny_56 : decode cL_refusesAny 56 = .ok (.iconst 0, 1) := by decide +kernel
theorem dL_refusesAny_57 : decode cL_refusesAny 57 = .ok (.goto 5, 3) := by decide +kernel
theorem dL_refusesAny_60 : decode cL_refusesAny 60 = .ok (.bipush 6, 2) := by decide +kernel
theorem dL_refusesAny_62 : decode cL_refusesAny 62 = .ok (.invokevirtual 35, 3) := by decide +kernel
theorem dL_refusesAny_65 : decode cL_refusesAny 65 = .ok (.bipush (-2), 2) := by decide +kernel
theorem dL_refusesAny_67 : decode cL_refusesAny 67 = .ok (.if_icmp .ne 131, 3) := by decide +kernel
theorem dL_refusesAny_70 : decode cL_refusesAny 70 = .ok (.aload_n 0, 1) := by decide +kernel
theorem dL_refusesAny_71 : decode cL_refusesAny 71 = .ok (.iconst 2, 1) := by decide +kernel
theorem dL_refusesAny_72 : decode cL_refusesAny 72 = .ok (.iload_n 1, 1) := by decide +kernel
theorem dL_refusesAny_73 : decode cL_refusesAny 73 = .ok (.ifCond .ne 7, 3) := by decide +kernel
theorem dL_refusesAny_76 : decode cL_refusesAny 76 = .ok (.iconst 0, 1) := by decide +kernel
theorem dL_refusesAny_77 : decode cL_refusesAny 77 = .ok (.goto 5, 3) := by decide +kernel
theorem dL_refusesAny_80 : decode cL_refusesAny 80 = .ok (.bipush 6, 2) := by decide +kernel
theorem dL_refusesAny_82 : decode cL_refusesAny 82 = .ok (.invokevirtual 35, 3) := by decide +kernel
theorem dL_refusesAny_85 : decode cL_refusesAny 85 = .ok (.bipush (-2), 2) := by decide +kernel
theorem dL_refusesAny_87 : decode cL_refusesAny 87 = .ok (.if_icmp .ne 111, 3) := by decide +kernel
theorem dL_refusesAny_90 : decode cL_refusesAny 90 = .ok (.aload_n 0, 1) := by decide +kernel
theorem dL_refusesAny_91 : decode cL_refusesAny 91 = .ok (.iconst 3, 1) := by decide +kernel
theorem dL_refusesAny_92 : decode cL_refusesAny 92 = .ok (.iload_n 1, 1) := by decide +kernel
theorem dL_refusesAny_93 : decode cL_refusesAny 93 = .ok (.ifCond .ne 7, 3) := by decide +kernel
theorem dL_refusesAny_96 : decode cL_refusesAny 96 = .ok (.iconst (-1), 1) := by decide +kernel
theorem dL_refusesAny_97 : decode cL_refusesAny 97 = .ok (.goto 4, 3) := by decide +kernel
theorem dL_refusesAny_100 : decode cL_refusesAny 100 = .ok (.iconst 2, 1) := by decide +kernel
theorem dL_refusesAny_101 : decode cL_refusesAny 101 = .ok (.invokevirtual 35, 3) := by decide +kernel
theorem dL_refusesAny_104 : decode cL_refusesAny 104 = .ok (.bipush (-2), 2) := by decide +kernel
theorem dL_refusesAny_106 : decode cL_refusesAny 106 = .ok (.if_icmp .ne 92, 3) := by decide +kernel
theorem dL_refusesAny_109 : decode cL_refusesAny 109 = .ok (.aload_n 0, 1) := by decide +kernel
theorem dL_refusesAny_110 : decode cL_refusesAny 110 = .ok (.iload_n 1, 1) := by decide +kernel
theorem dL_refusesAny_111 : decode cL_refusesAny 111 = .ok (.aload_n 0, 1) := by decide +kernel
theorem dL_refusesAny_112 : decode cL_refusesAny 112 = .ok (.iload_n 1, 1) := by decide +kernel
theorem dL_refusesAny_113 : decode cL_refusesAny 113 = .ok (.invokevirtual 32, 3) := by decide +kernel
theorem dL_refusesAny_116 : decode cL_refusesAny 116 = .ok (.invokevirtual 35, 3) := by decide +kernel
theorem dL_refusesAny_119 : decode cL_refusesAny 119 = .ok (.bipush (-5), 2) := by decide +kernel
theorem dL_refusesAny_121 : decode cL_refusesAny 121 = .ok (.if_icmp .ne 77, 3) := by decide +kernel
theorem dL_refusesAny_124 : decode cL_refusesAny 124 = .ok (.aload_n 0, 1) := by decide +kernel
theorem dL_refusesAny_125 : decode cL_refusesAny 125 = .ok (.iload_n 1, 1) := by decide +kernel
theorem dL_refusesAny_126 : decode cL_refusesAny 126 = .ok (.ifCond .ne 7, 3) := by decide +kernel
theorem dL_refusesAny_129 : decode cL_refusesAny 129 = .ok (.iconst (-1), 1) := by decide +kernel
theorem dL_refusesAny_130 : decode cL_refusesAny 130 = .ok (.goto 5, 3) := by decide +kernel
theorem dL_refusesAny_133 : decode cL_refusesAny 133 = .ok (.bipush 48, 2) := by decide +kernel
theorem dL_refusesAny_135 : decode cL_refusesAny 135 = .ok (.iconst 3, 1) := by decide +kernel
theorem dL_refusesAny_136 : decode cL_refusesAny 136 = .ok (.invokevirtual 40, 3) := by decide +kernel
theorem dL_refusesAny_139 : decode cL_refusesAny 139 = .ok (.bipush (-2), 2) := by decide +kernel
theorem dL_refusesAny_141 : decode cL_refusesAny 141 = .ok (.if_icmp .ne 57, 3) := by decide +kernel
theorem dL_refusesAny_144 : decode cL_refusesAny 144 = .ok (.aload_n 0, 1) := by decide +kernel
theorem dL_refusesAny_145 : decode cL_refusesAny 145 = .ok (.iconst 3, 1) := by decide +kernel
theorem dL_refusesAny_146 : decode cL_refusesAny 146 = .ok (.iload_n 1, 1) := by decide +kernel
theorem dL_refusesAny_147 : decode cL_refusesAny 147 = .ok (.ifCond .ne 7, 3) := by decide +kernel
theorem dL_refusesAny_150 : decode cL_refusesAny 150 = .ok (.iconst (-1), 1) := by decide +kernel
theorem dL_refusesAny_151 : decode cL_refusesAny 151 = .ok (.goto 5, 3) := by decide +kernel
theorem dL_refusesAny_154 : decode cL_refusesAny 154 = .ok (.bipush 48, 2) := by decide +kernel
theorem dL_refusesAny_156 : decode cL_refusesAny 156 = .ok (.invokevirtual 40, 3) := by decide +kernel
theorem dL_refusesAny_159 : decode cL_refusesAny 159 = .ok (.bipush (-2), 2) := by decide +kernel
theorem dL_refusesAny_161 : decode cL_refusesAny 161 = .ok (.if_icmp .ne 37, 3) := by decide +kernel
theorem dL_refusesAny_164 : decode cL_refusesAny 164 = .ok (.aload_n 0, 1) := by decide +kernel
theorem dL_refusesAny_165 : decode cL_refusesAny 165 = .ok (.bipush 7, 2) := by decide +kernel
theorem dL_refusesAny_167 : decode cL_refusesAny 167 = .ok (.bipush 7, 2) := by decide +kernel
theorem dL_refusesAny_169 : decode cL_refusesAny 169 = .ok (.invokevirtual 40, 3) := by decide +kernel
theorem dL_refusesAny_172 : decode cL_refusesAny 172 = .ok (.bipush (-2), 2) := by decide +kernel
theorem dL_refusesAny_174 : decode cL_refusesAny 174 = .ok (.if_icmp .ne 24, 3) := by decide +kernel
theorem dL_refusesAny_177 : decode cL_refusesAny 177 = .ok (.aload_n 0, 1) := by decide +kernel
theorem dL_refusesAny_178 : decode cL_refusesAny 178 = .ok (.aload_n 0, 1) := by decide +kernel
theorem dL_refusesAny_179 : decode cL_refusesAny 179 = .ok (.bipush 6, 2) := by decide +kernel
theorem dL_refusesAny_181 : decode cL_refusesAny 181 = .ok (.invokevirtual 19, 3) := by decide +kernel
theorem dL_refusesAny_184 : decode cL_refusesAny 184 = .ok (.aload_n 0, 1) := by decide +kernel
theorem dL_refusesAny_185 : decode cL_refusesAny 185 = .ok (.bipush 7, 2) := by decide +kernel
theorem dL_refusesAny_187 : decode cL_refusesAny 187 = .ok (.invokevirtual 19, 3) := by decide +kernel
theorem dL_refusesAny_190 : decode cL_refusesAny 190 = .ok (.invokevirtual 40, 3) := by decide +kernel
theorem dL_refusesAny_193 : decode cL_refusesAny 193 = .ok (.bipush (-5), 2) := by decide +kernel
theorem dL_refusesAny_195 : decode cL_refusesAny 195 = .ok (.if_icmp .eq 5, 3) := by decide +kernel
theorem dL_refusesAny_198 : decode cL_refusesAny 198 = .ok (.iconst 0, 1) := by decide +kernel
theorem dL_refusesAny_199 : decode cL_refusesAny 199 = .ok (.ireturn, 1) := by decide +kernel
theorem dL_refusesAny_200 : decode cL_refusesAny 200 = .ok (.aload_n 0, 1) := by decide +kernel
theorem dL_refusesAny_201 : decode cL_refusesAny 201 = .ok (.iload_n 2, 1) := by decide +kernel
theorem dL_refusesAny_202 : decode cL_refusesAny 202 = .ok (.bipush 9, 2) := by decide +kernel
theorem dL_refusesAny_204 : decode cL_refusesAny 204 = .ok (.bipush 9, 2) := by decide +kernel
theorem dL_refusesAny_206 : decode cL_refusesAny 206 = .ok (.invokevirtual 43, 3) := by decide +kernel
theorem dL_refusesAny_209 : decode cL_refusesAny 209 = .ok (.iconst (-1), 1) := by decide +kernel
theorem dL_refusesAny_210 : decode cL_refusesAny 210 = .ok (.if_icmp .ne 216, 3) := by decide +kernel
theorem dL_refusesAny_213 : decode cL_refusesAny 213 = .ok (.aload_n 0, 1) := by decide +kernel
theorem dL_refusesAny_214 : decode cL_refusesAny 214 = .ok (.iconst 0, 1) := by decide +kernel
theorem dL_refusesAny_215 : decode cL_refusesAny 215 = .ok (.iload_n 1, 1) := by decide +kernel
theorem dL_refusesAny_216 : decode cL_refusesAny 216 = .ok (.ifCond .ne 7, 3) := by decide +kernel
theorem dL_refusesAny_219 : decode cL_refusesAny 219 = .ok (.iconst (-1), 1) := by decide +kernel
theorem dL_refusesAny_220 : decode cL_refusesAny 220 = .ok (.goto 4, 3) := by decide +kernel
theorem dL_refusesAny_223 : decode cL_refusesAny 223 = .ok (.iconst 3, 1) := by decide +kernel
theorem dL_refusesAny_224 : decode cL_refusesAny 224 = .ok (.bipush 100, 2) := by decide +kernel
theorem dL_refusesAny_226 : decode cL_refusesAny 226 = .ok (.invokevirtual 43, 3) := by decide +kernel
theorem dL_refusesAny_229 : decode cL_refusesAny 229 = .ok (.bipush (-2), 2) := by decide +kernel
theorem dL_refusesAny_231 : decode cL_refusesAny 231 = .ok (.if_icmp .ne 195, 3) := by decide +kernel
theorem dL_refusesAny_234 : decode cL_refusesAny 234 = .ok (.aload_n 0, 1) := by decide +kernel
theorem dL_refusesAny_235 : decode cL_refusesAny 235 = .ok (.iconst 0, 1) := by decide +kernel
theorem dL_refusesAny_236 : decode cL_refusesAny 236 = .ok (.iconst 0, 1) := by decide +kernel
theorem dL_refusesAny_237 : decode cL_refusesAny 237 = .ok (.iload_n 1, 1) := by decide +kernel
theorem dL_refusesAny_238 : decode cL_refusesAny 238 = .ok (.ifCond .ne 8, 3) := by decide +kernel
theorem dL_refusesAny_241 : decode cL_refusesAny 241 = .ok (.bipush 49, 2) := by decide +kernel
theorem dL_refusesAny_243 : decode cL_refusesAny 243 = .ok (.goto 6, 3) := by decide +kernel
theorem dL_refusesAny_246 : decode cL_refusesAny 246 = .ok (.sipush 151, 3) := by decide +kernel
theorem dL_refusesAny_249 : decode cL_refusesAny 249 = .ok (.invokevirtual 43, 3) := by decide +kernel
theorem dL_refusesAny_252 : decode cL_refusesAny 252 = .ok (.bipush (-2), 2) := by decide +kernel
theorem dL_refusesAny_254 : decode cL_refusesAny 254 = .ok (.if_icmp .ne 172, 3) := by decide +kernel
theorem dL_refusesAny_257 : decode cL_refusesAny 257 = .ok (.aload_n 0, 1) := by decide +kernel
theorem dL_refusesAny_258 : decode cL_refusesAny 258 = .ok (.iload_n 2, 1) := by decide +kernel
theorem dL_refusesAny_259 : decode cL_refusesAny 259 = .ok (.invokevirtual 47, 3) := by decide +kernel
theorem dL_refusesAny_262 : decode cL_refusesAny 262 = .ok (.iconst (-1), 1) := by decide +kernel
theorem dL_refusesAny_263 : decode cL_refusesAny 263 = .ok (.if_icmp .ne 163, 3) := by decide +kernel
theorem dL_refusesAny_266 : decode cL_refusesAny 266 = .ok (.aload_n 0, 1) := by decide +kernel
theorem dL_refusesAny_267 : decode cL_refusesAny 267 = .ok (.iload_n 2, 1) := by decide +kernel
theorem dL_refusesAny_268 : decode cL_refusesAny 268 = .ok (.invokevirtual 50, 3) := by decide +kernel
theorem dL_refusesAny_271 : decode cL_refusesAny 271 = .ok (.iconst (-1), 1) := by decide +kernel
theorem dL_refusesAny_272 : decode cL_refusesAny 272 = .ok (.if_icmp .ne 154, 3) := by decide +kernel
theorem dL_refusesAny_275 : decode cL_refusesAny 275 = .ok (.aload_n 0, 1) := by decide +kernel
theorem dL_refusesAny_276 : decode cL_refusesAny 276 = .ok (.aload_n 0, 1) := by decide +kernel
theorem dL_refusesAny_277 : decode cL_refusesAny 277 = .ok (.iconst 0, 1) := by decide +kernel
theorem dL_refusesAny_278 : decode cL_refusesAny 278 = .ok (.invokevirtual 19, 3) := by decide +kernel
theorem dL_refusesAny_281 : decode cL_refusesAny 281 = .ok (.invokevirtual 50, 3) := by decide +kernel
theorem dL_refusesAny_284 : decode cL_refusesAny 284 = .ok (.aload_n 0, 1) := by decide +kernel
theorem dL_refusesAny_285 : decode cL_refusesAny 285 = .ok (.iconst 1, 1) := by decide +kernel
theorem dL_refusesAny_286 : decode cL_refusesAny 286 = .ok (.invokevirtual 19, 3) := by decide +kernel
theorem dL_refusesAny_289 : decode cL_refusesAny 289 = .ok (.bipush (-5), 2) := by decide +kernel
theorem dL_refusesAny_291 : decode cL_refusesAny 291 = .ok (.if_icmp .ne 8, 3) := by decide +kernel
theorem dL_refusesAny_294 : decode cL_refusesAny 294 = .ok (.bipush (-5), 2) := by decide +kernel
theorem dL_refusesAny_296 : decode cL_refusesAny 296 = .ok (.goto 5, 3) := by decide +kernel
theorem dL_refusesAny_299 : decode cL_refusesAny 299 = .ok (.bipush (-4), 2) := by decide +kernel
theorem dL_refusesAny_301 : decode cL_refusesAny 301 = .ok (.if_icmp .ne 125, 3) := by decide +kernel
theorem dL_refusesAny_304 : decode cL_refusesAny 304 = .ok (.aload_n 0, 1) := by decide +kernel
theorem dL_refusesAny_305 : decode cL_refusesAny 305 = .ok (.iload_n 1, 1) := by decide +kernel
theorem dL_refusesAny_306 : decode cL_refusesAny 306 = .ok (.ifCond .ne 7, 3) := by decide +kernel
theorem dL_refusesAny_309 : decode cL_refusesAny 309 = .ok (.iconst (-1), 1) := by decide +kernel
theorem dL_refusesAny_310 : decode cL_refusesAny 310 = .ok (.goto 4, 3) := by decide +kernel
theorem dL_refusesAny_313 : decode cL_refusesAny 313 = .ok (.iconst 3, 1) := by decide +kernel
theorem dL_refusesAny_314 : decode cL_refusesAny 314 = .ok (.iconst 1, 1) := by decide +kernel
theorem dL_refusesAny_315 : decode cL_refusesAny 315 = .ok (.invokevirtual 53, 3) := by decide +kernel
theorem dL_refusesAny_318 : decode cL_refusesAny 318 = .ok (.bipush (-2), 2) := by decide +kernel
theorem dL_refusesAny_320 : decode cL_refusesAny 320 = .ok (.if_icmp .ne 106, 3) := by decide +kernel
theorem dL_refusesAny_323 : decode cL_refusesAny 323 = .ok (.aload_n 0, 1) := by decide +kernel
theorem dL_refusesAny_324 : decode cL_refusesAny 324 = .ok (.iconst 0, 1) := by decide +kernel
theorem dL_refusesAny_325 : decode cL_refusesAny 325 = .ok (.iload_n 1, 1) := by decide +kernel
theorem dL_refusesAny_326 : decode cL_refusesAny 326 = .ok (.ifCond .ne 7, 3) := by decide +kernel
theorem dL_refusesAny_329 : decode cL_refusesAny 329 = .ok (.iconst 0, 1) := by decide +kernel
theorem dL_refusesAny_330 : decode cL_refusesAny 330 = .ok (.goto 5, 3) := by decide +kernel
theorem dL_refusesAny_333 : decode cL_refusesAny 333 = .ok (.bipush 7, 2) := by decide +kernel
theorem dL_refusesAny_335 : decode cL_refusesAny 335 = .ok (.invokevirtual 53, 3) := by decide +kernel
theorem dL_refusesAny_338 : decode cL_refusesAny 338 = .ok (.bipush (-2), 2) := by decide +kernel
theorem dL_refusesAny_340 : decode cL_refusesAny 340 = .ok (.if_icmp .ne 86, 3) := by decide +kernel
theorem dL_refusesAny_343 : decode cL_refusesAny 343 = .ok (.aload_n 0, 1) := by decide +kernel
theorem dL_refusesAny_344 : decode cL_refusesAny 344 = .ok (.iload_n 1, 1) := by decide +kernel
theorem dL_refusesAny_345 : decode cL_refusesAny 345 = .ok (.ifCond .ne 7, 3) := by decide +kernel
theorem dL_refusesAny_348 : decode cL_refusesAny 348 = .ok (.iconst (-1), 1) := by decide +kernel
theorem dL_refusesAny_349 : decode cL_refusesAny 349 = .ok (.goto 6, 3) := by decide +kernel
theorem dL_refusesAny_352 : decode cL_refusesAny 352 = .ok (.sipush 10000, 3) := by decide +kernel
theorem dL_refusesAny_355 : decode cL_refusesAny 355 = .ok (.iconst 0, 1) := by decide +kernel
theorem dL_refusesAny_356 : decode cL_refusesAny 356 = .ok (.iconst 1, 1) := by decide +kernel
theorem dL_refusesAny_357 : decode cL_refusesAny 357 = .ok (.invokevirtual 56, 3) := by decide +kernel
theorem dL_refusesAny_360 : decode cL_refusesAny 360 = .ok (.bipush (-2), 2) := by decide +kernel
theorem dL_refusesAny_362 : decode cL_refusesAny 362 = .ok (.if_icmp .ne 64, 3) := by decide +kernel
theorem dL_refusesAny_365 : decode cL_refusesAny 365 = .ok (.aload_n 0, 1) := by decide +kernel
theorem dL_refusesAny_366 : decode cL_refusesAny 366 = .ok (.iconst 1, 1) := by decide +kernel
theorem dL_refusesAny_367 : decode cL_refusesAny 367 = .ok (.iload_n 1, 1) := by decide +kernel
theorem dL_refusesAny_368 : decode cL_refusesAny 368 = .ok (.ifCond .ne 7, 3) := by decide +kernel
theorem dL_refusesAny_371 : decode cL_refusesAny 371 = .ok (.iconst (-1), 1) := by decide +kernel
theorem dL_refusesAny_372 : decode cL_refusesAny 372 = .ok (.goto 4, 3) := by decide +kernel
theorem dL_refusesAny_375 : decode cL_refusesAny 375 = .ok (.iconst 3, 1) := by decide +kernel
theorem dL_refusesAny_376 : decode cL_refusesAny 376 = .ok (.iconst 1, 1) := by decide +kernel
theorem dL_refusesAny_377 : decode cL_refusesAny 377 = .ok (.invokevirtual 56, 3) := by decide +kernel
theorem dL_refusesAny_380 : decode cL_refusesAny 380 = .ok (.bipush (-2), 2) := by decide +kernel
theorem dL_refusesAny_382 : decode cL_refusesAny 382 = .ok (.if_icmp .ne 44, 3) := by decide +kernel
theorem dL_refusesAny_385 : decode cL_refusesAny 385 = .ok (.aload_n 0, 1) := by decide +kernel
theorem dL_refusesAny_386 : decode cL_refusesAny 386 = .ok (.iconst 1, 1) := by decide +kernel
theorem dL_refusesAny_387 : decode cL_refusesAny 387 = .ok (.iconst 1, 1) := by decide +kernel
theorem dL_refusesAny_388 : decode cL_refusesAny 388 = .ok (.iload_n 1, 1) := by decide +kernel
theorem dL_refusesAny_389 : decode cL_refusesAny 389 = .ok (.ifCond .ne 7, 3) := by decide +kernel
theorem dL_refusesAny_392 : decode cL_refusesAny 392 = .ok (.iconst 0, 1) := by decide +kernel
theorem dL_refusesAny_393 : decode cL_refusesAny 393 = .ok (.goto 5, 3) := by decide +kernel
theorem dL_refusesAny_396 : decode cL_refusesAny 396 = .ok (.bipush 7, 2) := by decide +kernel
theorem dL_refusesAny_398 : decode cL_refusesAny 398 = .ok (.invokevirtual 56, 3) := by decide +kernel
theorem dL_refusesAny_401 : decode cL_refusesAny 401 = .ok (.bipush (-2), 2) := by decide +kernel
theorem dL_refusesAny_403 : decode cL_refusesAny 403 = .ok (.if_icmp .ne 23, 3) := by decide +kernel
theorem dL_refusesAny_406 : decode cL_refusesAny 406 = .ok (.aload_n 0, 1) := by decide +kernel
theorem dL_refusesAny_407 : decode cL_refusesAny 407 = .ok (.iload_n 1, 1) := by decide +kernel
theorem dL_refusesAny_408 : decode cL_refusesAny 408 = .ok (.ifCond .ne 7, 3) := by decide +kernel
theorem dL_refusesAny_411 : decode cL_refusesAny 411 = .ok (.iconst 0, 1) := by decide +kernel
theorem dL_refusesAny_412 : decode cL_refusesAny 412 = .ok (.goto 6, 3) := by decide +kernel
theorem dL_refusesAny_415 : decode cL_refusesAny 415 = .ok (.sipush 201, 3) := by decide +kernel
theorem dL_refusesAny_418 : decode cL_refusesAny 418 = .ok (.invokevirtual 59, 3) := by decide +kernel
theorem dL_refusesAny_421 : decode cL_refusesAny 421 = .ok (.bipush (-2), 2) := by decide +kernel
theorem dL_refusesAny_423 : decode cL_refusesAny 423 = .ok (.if_icmp .eq 5, 3) := by decide +kernel
theorem dL_refusesAny_426 : decode cL_refusesAny 426 = .ok (.iconst 0, 1) := by decide +kernel
theorem dL_refusesAny_427 : decode cL_refusesAny 427 = .ok (.ireturn, 1) := by decide +kernel
theorem dL_refusesAny_428 : decode cL_refusesAny 428 = .ok (.aload_n 0, 1) := by decide +kernel
theorem dL_refusesAny_429 : decode cL_refusesAny 429 = .ok (.iload_n 2, 1) := by decide +kernel
theorem dL_refusesAny_430 : decode cL_refusesAny 430 = .ok (.bipush 9, 2) := by decide +kernel
theorem dL_refusesAny_432 : decode cL_refusesAny 432 = .ok (.invokevirtual 22, 3) := by decide +kernel
theorem dL_refusesAny_435 : decode cL_refusesAny 435 = .ok (.iconst (-1), 1) := by decide +kernel
theorem dL_refusesAny_436 : decode cL_refusesAny 436 = .ok (.if_icmp .ne 198, 3) := by decide +kernel
theorem dL_refusesAny_439 : decode cL_refusesAny 439 = .ok (.aload_n 0, 1) := by decide +kernel
theorem dL_refusesAny_440 : decode cL_refusesAny 440 = .ok (.iconst 0, 1) := by decide +kernel
theorem dL_refusesAny_441 : decode cL_refusesAny 441 = .ok (.iload_n 1, 1) := by decide +kernel
theorem dL_refusesAny_442 : decode cL_refusesAny 442 = .ok (.ifCond .ne 7, 3) := by decide +kernel
theorem dL_refusesAny_445 : decode cL_refusesAny 445 = .ok (.iconst (-1), 1) := by decide +kernel
theorem dL_refusesAny_446 : decode cL_refusesAny 446 = .ok (.goto 5, 3) := by decide +kernel
theorem dL_refusesAny_449 : decode cL_refusesAny 449 = .ok (.bipush 8, 2) := by decide +kernel
theorem dL_refusesAny_451 : decode cL_refusesAny 451 = .ok (.invokevirtual 22, 3) := by decide +kernel
theorem dL_refusesAny_454 : decode cL_refusesAny 454 = .ok (.bipush (-2), 2) := by decide +kernel
theorem dL_refusesAny_456 : decode cL_refusesAny 456 = .ok (.if_icmp .ne 178, 3) := by decide +kernel
theorem dL_refusesAny_459 : decode cL_refusesAny 459 = .ok (.aload_n 0, 1) := by decide +kernel
theorem dL_refusesAny_460 : decode cL_refusesAny 460 = .ok (.iload_n 1, 1) := by decide +kernel
theorem dL_refusesAny_461 : decode cL_refusesAny 461 = .ok (.ifCond .ne 7, 3) := by decide +kernel
theorem dL_refusesAny_464 : decode cL_refusesAny 464 = .ok (.iconst (-1), 1) := by decide +kernel
theorem dL_refusesAny_465 : decode cL_refusesAny 465 = .ok (.goto 5, 3) := by decide +kernel
theorem dL_refusesAny_468 : decode cL_refusesAny 468 = .ok (.bipush 8, 2) := by decide +kernel
theorem dL_refusesAny_470 : decode cL_refusesAny 470 = .ok (.invokevirtual 19, 3) := by decide +kernel
theorem dL_refusesAny_473 : decode cL_refusesAny 473 = .ok (.bipush (-2), 2) := by decide +kernel
theorem dL_refusesAny_475 : decode cL_refusesAny 475 = .ok (.if_icmp .ne 159, 3) := by decide +kernel
theorem dL_refusesAny_478 : decode cL_refusesAny 478 = .ok (.aload_n 0, 1) := by decide +kernel
theorem dL_refusesAny_479 : decode cL_refusesAny 479 = .ok (.iload_n 2, 1) := by decide +kernel
theorem dL_refusesAny_480 : decode cL_refusesAny 480 = .ok (.invokevirtual 62, 3) := by decide +kernel
theorem dL_refusesAny_483 : decode cL_refusesAny 483 = .ok (.iconst (-1), 1) := by decide +kernel
theorem dL_refusesAny_484 : decode cL_refusesAny 484 = .ok (.if_icmp .ne 150, 3) := by decide +kernel
theorem dL_refusesAny_487 : decode cL_refusesAny 487 = .ok (.aload_n 0, 1) := by decide +kernel
theorem dL_refusesAny_488 : decode cL_refusesAny 488 = .ok (.iconst (-1), 1) := by decide +kernel
theorem dL_refusesAny_489 : decode cL_refusesAny 489 = .ok (.iload_n 1, 1) := by decide +kernel
theorem dL_refusesAny_490 : decode cL_refusesAny 490 = .ok (.isub, 1) := by decide +kernel
theorem dL_refusesAny_491 : decode cL_refusesAny 491 = .ok (.invokevirtual 65, 3) := by decide +kernel
theorem dL_refusesAny_494 : decode cL_refusesAny 494 = .ok (.bipush (-2), 2) := by decide +kernel
theorem dL_refusesAny_496 : decode cL_refusesAny 496 = .ok (.if_icmp .ne 138, 3) := by decide +kernel
theorem dL_refusesAny_499 : decode cL_refusesAny 499 = .ok (.aload_n 0, 1) := by decide +kernel
theorem dL_refusesAny_500 : decode cL_refusesAny 500 = .ok (.bipush 6, 2) := by decide +kernel
theorem dL_refusesAny_502 : decode cL_refusesAny 502 = .ok (.invokevirtual 65, 3) := by decide +kernel
theorem dL_refusesAny_505 : decode cL_refusesAny 505 = .ok (.bipush (-5), 2) := by decide +kernel
theorem dL_refusesAny_507 : decode cL_refusesAny 507 = .ok (.if_icmp .ne 127, 3) := by decide +kernel
theorem dL_refusesAny_510 : decode cL_refusesAny 510 = .ok (.aload_n 0, 1) := by decide +kernel
theorem dL_refusesAny_511 : decode cL_refusesAny 511 = .ok (.iconst (-1), 1) := by decide +kernel
theorem dL_refusesAny_512 : decode cL_refusesAny 512 = .ok (.iconst 0, 1) := by decide +kernel
theorem dL_refusesAny_513 : decode cL_refusesAny 513 = .ok (.invokevirtual 26, 3) := by decide +kernel
theorem dL_refusesAny_516 : decode cL_refusesAny 516 = .ok (.bipush (-2), 2) := by decide +kernel
theorem dL_refusesAny_518 : decode cL_refusesAny 518 = .ok (.if_icmp .ne 116, 3) := by decide +kernel
theorem dL_refusesAny_521 : decode cL_refusesAny 521 = .ok (.aload_n 0, 1) := by decide +kernel
theorem dL_refusesAny_522 : decode cL_refusesAny 522 = .ok (.iconst 0, 1) := by decide +kernel
theorem dL_refusesAny_523 : decode cL_refusesAny 523 = .ok (.iload_n 1, 1) := by decide +kernel
theorem dL_refusesAny_524 : decode cL_refusesAny 524 = .ok (.ifCond .ne 7, 3) := by decide +kernel
theorem dL_refusesAny_527 : decode cL_refusesAny 527 = .ok (.iconst (-1), 1) := by decide +kernel
theorem dL_refusesAny_528 : decode cL_refusesAny 528 = .ok (.goto 4, 3) := by decide +kernel
theorem dL_refusesAny_531 : decode cL_refusesAny 531 = .ok (.iconst 3, 1) := by decide +kernel
theorem dL_refusesAny_532 : decode cL_refusesAny 532 = .ok (.invokevirtual 26, 3) := by decide +kernel
theorem dL_refusesAny_535 : decode cL_refusesAny 535 = .ok (.bipush (-2), 2) := by decide +kernel
theorem dL_refusesAny_537 : decode cL_refusesAny 537 = .ok (.if_icmp .ne 97, 3) := by decide +kernel
theorem dL_refusesAny_540 : decode cL_refusesAny 540 = .ok (.aload_n 0, 1) := by decide +kernel
theorem dL_refusesAny_541 : decode cL_refusesAny 541 = .ok (.bipush 10, 2) := by decide +kernel
theorem dL_refusesAny_543 : decode cL_refusesAny 543 = .ok (.iconst 0, 1) := by decide +kernel
theorem dL_refusesAny_544 : decode cL_refusesAny 544 = .ok (.invokevirtual 26, 3) := by decide +kernel
theorem dL_refusesAny_547 : decode cL_refusesAny 547 = .ok (.bipush (-5), 2) := by decide +kernel
theorem dL_refusesAny_549 : decode cL_refusesAny 549 = .ok (.if_icmp .ne 85, 3) := by decide +kernel
theorem dL_refusesAny_552 : decode cL_refusesAny 552 = .ok (.aload_n 0, 1) := by decide +kernel
theorem dL_refusesAny_553 : decode cL_refusesAny 553 = .ok (.iconst (-1), 1) := by decide +kernel
theorem dL_refusesAny_554 : decode cL_refusesAny 554 = .ok (.iconst 0, 1) := by decide +kernel
theorem dL_refusesAny_555 : decode cL_refusesAny 555 = .ok (.invokevirtual 29, 3) := by decide +kernel
theorem dL_refusesAny_558 : decode cL_refusesAny 558 = .ok (.bipush (-2), 2) := by decide +kernel
theorem dL_refusesAny_560 : decode cL_refusesAny 560 = .ok (.if_icmp .ne 74, 3) := by decide +kernel
theorem dL_refusesAny_563 : decode cL_refusesAny 563 = .ok (.aload_n 0, 1) := by decide +kernel
theorem dL_refusesAny_564 : decode cL_refusesAny 564 = .ok (.iconst 0, 1) := by decide +kernel
theorem dL_refusesAny_565 : decode cL_refusesAny 565 = .ok (.iload_n 1, 1) := by decide +kernel
theorem dL_refusesAny_566 : decode cL_refusesAny 566 = .ok (.ifCond .ne 7, 3) := by decide +kernel
theorem dL_refusesAny_569 : decode cL_refusesAny 569 = .ok (.iconst (-1), 1) := by decide +kernel
theorem dL_refusesAny_570 : decode cL_refusesAny 570 = .ok (.goto 4, 3) := by decide +kernel
theorem dL_refusesAny_573 : decode cL_refusesAny 573 = .ok (.iconst 3, 1) := by decide +kernel
theorem dL_refusesAny_574 : decode cL_refusesAny 574 = .ok (.invokevirtual 29, 3) := by decide +kernel
theorem dL_refusesAny_577 : decode cL_refusesAny 577 = .ok (.bipush (-2), 2) := by decide +kernel
theorem dL_refusesAny_579 : decode cL_refusesAny 579 = .ok (.if_icmp .ne 55, 3) := by decide +kernel
theorem dL_refusesAny_582 : decode cL_refusesAny 582 = .ok (.aload_n 0, 1) := by decide +kernel
theorem dL_refusesAny_583 : decode cL_refusesAny 583 = .ok (.bipush 10, 2) := by decide +kernel
theorem dL_refusesAny_585 : decode cL_refusesAny 585 = .ok (.iconst 0, 1) := by decide +kernel
theorem dL_refusesAny_586 : decode cL_refusesAny 586 = .ok (.invokevirtual 29, 3) := by decide +kernel
theorem dL_refusesAny_589 : decode cL_refusesAny 589 = .ok (.bipush (-5), 2) := by decide +kernel
theorem dL_refusesAny_591 : decode cL_refusesAny 591 = .ok (.if_icmp .ne 43, 3) := by decide +kernel
theorem dL_refusesAny_594 : decode cL_refusesAny 594 = .ok (.aload_n 0, 1) := by decide +kernel
theorem dL_refusesAny_595 : decode cL_refusesAny 595 = .ok (.iload_n 1, 1) := by decide +kernel
theorem dL_refusesAny_596 : decode cL_refusesAny 596 = .ok (.ifCond .ne 7, 3) := by decide +kernel
theorem dL_refusesAny_599 : decode cL_refusesAny 599 = .ok (.iconst (-1), 1) := by decide +kernel
theorem dL_refusesAny_600 : decode cL_refusesAny 600 = .ok (.goto 5, 3) := by decide +kernel
theorem dL_refusesAny_603 : decode cL_refusesAny 603 = .ok (.bipush 14, 2) := by decide +kernel
theorem dL_refusesAny_605 : decode cL_refusesAny 605 = .ok (.invokevirtual 13, 3) := by decide +kernel
theorem dL_refusesAny_608 : decode cL_refusesAny 608 = .ok (.bipush (-2), 2) := by decide +kernel
theorem dL_refusesAny_610 : decode cL_refusesAny 610 = .ok (.if_icmp .ne 24, 3) := by decide +kernel
theorem dL_refusesAny_613 : decode cL_refusesAny 613 = .ok (.aload_n 0, 1) := by decide +kernel
theorem dL_refusesAny_614 : decode cL_refusesAny 614 = .ok (.iload_n 1, 1) := by decide +kernel
theorem dL_refusesAny_615 : decode cL_refusesAny 615 = .ok (.ifCond .ne 7, 3) := by decide +kernel
theorem dL_refusesAny_618 : decode cL_refusesAny 618 = .ok (.iconst (-1), 1) := by decide +kernel
theorem dL_refusesAny_619 : decode cL_refusesAny 619 = .ok (.goto 4, 3) := by decide +kernel
theorem dL_refusesAny_622 : decode cL_refusesAny 622 = .ok (.iconst 4, 1) := by decide +kernel
theorem dL_refusesAny_623 : decode cL_refusesAny 623 = .ok (.invokevirtual 32, 3) := by decide +kernel
theorem dL_refusesAny_626 : decode cL_refusesAny 626 = .ok (.iconst (-1), 1) := by decide +kernel
theorem dL_refusesAny_627 : decode cL_refusesAny 627 = .ok (.if_icmp .ne 7, 3) := by decide +kernel
theorem dL_refusesAny_630 : decode cL_refusesAny 630 = .ok (.iconst 1, 1) := by decide +kernel
theorem dL_refusesAny_631 : decode cL_refusesAny 631 = .ok (.goto 4, 3) := by decide +kernel
theorem dL_refusesAny_634 : decode cL_refusesAny 634 = .ok (.iconst 0, 1) := by decide +kernel
theorem dL_refusesAny_635 : decode cL_refusesAny 635 = .ok (.ireturn, 1) := by decide +kernel
theorem dL_refused_0 : decode cL_refused 0 = .ok (.aload_n 0, 1) := by decide +kernel
theorem dL_refused_1 : decode cL_refused 1 = .ok (.invokestatic 68, 3) := by decide +kernel
theorem dL_refused_4 : decode cL_refused 4 = .ok (.lstore_n 1, 1) := by decide +kernel
theorem dL_refused_5 : decode cL_refused 5 = .ok (.aload_n 0, 1) := by decide +kernel
theorem dL_refused_6 : decode cL_refused 6 = .ok (.bipush 12, 2) := by decide +kernel
theorem dL_refused_8 : decode cL_refused 8 = .ok (.invokevirtual 13, 3) := by decide +kernel
theorem dL_refused_11 : decode cL_refused 11 = .ok (.istore_n 3, 1) := by decide +kernel
theorem dL_refused_12 : decode cL_refused 12 = .ok (.aload_n 0, 1) := by decide +kernel
theorem dL_refused_13 : decode cL_refused 13 = .ok (.iconst 0, 1) := by decide +kernel
theorem dL_refused_14 : decode cL_refused 14 = .ok (.invokestatic 72, 3) := by decide +kernel
theorem dL_refused_17 : decode cL_refused 17 = .ok (.ifCond .eq 34, 3) := by decide +kernel
theorem dL_refused_20 : decode cL_refused 20 = .ok (.aload_n 0, 1) := by decide +kernel
theorem dL_refused_21 : decode cL_refused 21 = .ok (.iconst 1, 1) := by decide +kernel
theorem dL_refused_22 : decode cL_refused 22 = .ok (.invokestatic 72, 3) := by decide +kernel
theorem dL_refused_25 : decode cL_refused 25 = .ok (.ifCond .eq 26, 3) := by decide +kernel
theorem dL_refused_28 : decode cL_refused 28 = .ok (.aload_n 0, 1) := by decide +kernel
theorem dL_refused_29 : decode cL_refused 29 = .ok (.invokestatic 68, 3) := by decide +kernel
theorem dL_refused_32 : decode cL_refused 32 = .ok (.lload_n 1, 1) := by decide +kernel
theorem dL_refused_33 : decode cL_refused 33 = .ok (.lcmp, 1) := by decide +kernel
theorem dL_refused_34 : decode cL_refused 34 = .ok (.ifCond .ne 17, 3) := by decide +kernel
theorem dL_refused_37 : decode cL_refused 37 = .ok (.aload_n 0, 1) := by decide +kernel
theorem dL_refused_38 : decode cL_refused 38 = .ok (.bipush 12, 2) := by decide +kernel
theorem dL_refused_40 : decode cL_refused 40 = .ok (.invokevirtual 13, 3) := by decide +kernel
theorem dL_refused_43 : decode cL_refused 43 = .ok (.iload_n 3, 1) := by decide +kernel
theorem dL_refused_44 : decode cL_refused 44 = .ok (.if_icmp .ne 7, 3) := by decide +kernel
theorem dL_refused_47 : decode cL_refused 47 = .ok (.iconst 1, 1) := by decide +kernel
theorem dL_refused_48 : decode cL_refused 48 = .ok (.goto 4, 3) := by decide +kernel
theorem dL_refused_51 : decode cL_refused 51 = .ok (.iconst 0, 1) := by decide +kernel
theorem dL_refused_52 : decode cL_refused 52 = .ok (.ireturn, 1) := by decide +kernel
theorem dL_isEvent_0 : decode cL_isEvent 0 = .ok (.aload_n 0, 1) := by decide +kernel
theorem dL_isEvent_1 : decode cL_isEvent 1 = .ok (.iload_n 1, 1) := by decide +kernel
theorem dL_isEvent_2 : decode cL_isEvent 2 = .ok (.iconst 0, 1) := by decide +kernel
theorem dL_isEvent_3 : decode cL_isEvent 3 = .ok (.invokevirtual 29, 3) := by decide +kernel
theorem dL_isEvent_6 : decode cL_isEvent 6 = .ok (.iload_n 2, 1) := by decide +kernel
theorem dL_isEvent_7 : decode cL_isEvent 7 = .ok (.if_icmp .ne 28, 3) := by decide +kernel
theorem dL_isEvent_10 : decode cL_isEvent 10 = .ok (.aload_n 0, 1) := by decide +kernel
theorem dL_isEvent_11 : decode cL_isEvent 11 = .ok (.iload_n 1, 1) := by decide +kernel
theorem dL_isEvent_12 : decode cL_isEvent 12 = .ok (.iconst 1, 1) := by decide +kernel
theorem dL_isEvent_13 : decode cL_isEvent 13 = .ok (.invokevirtual 29, 3) := by decide +kernel
theorem dL_isEvent_16 : decode cL_isEvent 16 = .ok (.iload_n 3, 1) := by decide +kernel
theorem dL_isEvent_17 : decode cL_isEvent 17 = .ok (.if_icmp .ne 18, 3) := by decide +kernel
theorem dL_isEvent_20 : decode cL_isEvent 20 = .ok (.aload_n 0, 1) := by decide +kernel
theorem dL_isEvent_21 : decode cL_isEvent 21 = .ok (.iload_n 1, 1) := by decide +kernel
theorem dL_isEvent_22 : decode cL_isEvent 22 = .ok (.iconst 2, 1) := by decide +kernel
theorem dL_isEvent_23 : decode cL_isEvent 23 = .ok (.invokevirtual 29, 3) := by decide +kernel
theorem dL_isEvent_26 : decode cL_isEvent 26 = .ok (.iload 4, 2) := by decide +kernel
theorem dL_isEvent_28 : decode cL_isEvent 28 = .ok (.if_icmp .ne 7, 3) := by decide +kernel
theorem dL_isEvent_31 : decode cL_isEvent 31 = .ok (.iconst 1, 1) := by decide +kernel
theorem dL_isEvent_32 : decode cL_isEvent 32 = .ok (.goto 4, 3) := by decide +kernel
theorem dL_isEvent_35 : decode cL_isEvent 35 = .ok (.iconst 0, 1) := by decide +kernel
theorem dL_isEvent_36 : decode cL_isEvent 36 = .ok (.ireturn, 1) := by decide +kernel
theorem dL_nights_0 : decode cL_nights 0 = .ok (.new 14, 3) := by decide +kernel
theorem dL_nights_3 : decode cL_nights 3 = .ok (.dup, 1) := by decide +kernel
theorem dL_nights_4 : decode cL_nights 4 = .ok (.invokespecial 76, 3) := by decide +kernel
theorem dL_nights_7 : decode cL_nights 7 = .ok (.astore_n 0, 1) := by decide +kernel
theorem dL_nights_8 : decode cL_nights 8 = .ok (.aload_n 0, 1) := by decide +kernel
theorem dL_nights_9 : decode cL_nights 9 = .ok (.invokevirtual 77, 3) := by decide +kernel
theorem dL_nights_12 : decode cL_nights 12 = .ok (.bipush (-5), 2) := by decide +kernel
theorem dL_nights_14 : decode cL_nights 14 = .ok (.if_icmp .ne 224, 3) := by decide +kernel
theorem dL_nights_17 : decode cL_nights 17 = .ok (.aload_n 0, 1) := by decide +kernel
theorem dL_nights_18 : decode cL_nights 18 = .ok (.invokevirtual 81, 3) := by decide +kernel
theorem dL_nights_21 : decode cL_nights 21 = .ok (.bipush (-5), 2) := by decide +kernel
theorem dL_nights_23 : decode cL_nights 23 = .ok (.if_icmp .ne 215, 3) := by decide +kernel
theorem dL_nights_26 : decode cL_nights 26 = .ok (.aload_n 0, 1) := by decide +kernel
theorem dL_nights_27 : decode cL_nights 27 = .ok (.iconst 4, 1) := by decide +kernel
theorem dL_nights_28 : decode cL_nights 28 = .ok (.invokevirtual 19, 3) := by decide +kernel
theorem dL_nights_31 : decode cL_nights 31 = .ok (.iconst 1, 1) := by decide +kernel
theorem dL_nights_32 : decode cL_nights 32 = .ok (.if_icmp .ne 206, 3) := by decide +kernel
theorem dL_nights_35 : decode cL_nights 35 = .ok (.aload_n 0, 1) := by decide +kernel
theorem dL_nights_36 : decode cL_nights 36 = .ok (.iconst 5, 1) := by decide +kernel
theorem dL_nights_37 : decode cL_nights 37 = .ok (.invokevirtual 19, 3) := by decide +kernel
theorem dL_nights_40 : decode cL_nights 40 = .ok (.bipush (-5), 2) := by decide +kernel
theorem dL_nights_42 : decode cL_nights 42 = .ok (.if_icmp .ne 196, 3) := by decide +kernel
theorem dL_nights_45 : decode cL_nights 45 = .ok (.aload_n 0, 1) := by decide +kernel
theorem dL_nights_46 : decode cL_nights 46 = .ok (.invokevirtual 84, 3) := by decide +kernel
theorem dL_nights_49 : decode cL_nights 49 = .ok (.ifCond .ne 189, 3) := by decide +kernel
theorem dL_nights_52 : decode cL_nights 52 = .ok (.aload_n 0, 1) := by decide +kernel
theorem dL_nights_53 : decode cL_nights 53 = .ok (.iconst 0, 1) := by decide +kernel
theorem dL_nights_54 : decode cL_nights 54 = .ok (.invokevirtual 62, 3) := by decide +kernel
theorem dL_nights_57 : decode cL_nights 57 = .ok (.bipush (-4), 2) := by decide +kernel
theorem dL_nights_59 : decode cL_nights 59 = .ok (.if_icmp .ne 179, 3) := by decide +kernel
theorem dL_nights_62 : decode cL_nights 62 = .ok (.aload_n 0, 1) := by decide +kernel
theorem dL_nights_63 : decode cL_nights 63 = .ok (.iconst 0, 1) := by decide +kernel
theorem dL_nights_64 : decode cL_nights 64 = .ok (.invokevirtual 47, 3) := by decide +kernel
theorem dL_nights_67 : decode cL_nights 67 = .ok (.bipush (-4), 2) := by decide +kernel
theorem dL_nights_69 : decode cL_nights 69 = .ok (.if_icmp .ne 169, 3) := by decide +kernel
theorem dL_nights_72 : decode cL_nights 72 = .ok (.aload_n 0, 1) := by decide +kernel
theorem dL_nights_73 : decode cL_nights 73 = .ok (.bipush 12, 2) := by decide +kernel
theorem dL_nights_75 : decode cL_nights 75 = .ok (.invokevirtual 59, 3) := by decide +kernel
theorem dL_nights_78 : decode cL_nights 78 = .ok (.bipush 12, 2) := by decide +kernel
theorem dL_nights_80 : decode cL_nights 80 = .ok (.if_icmp .ne 158, 3) := by decide +kernel
theorem dL_nights_83 : decode cL_nights 83 = .ok (.aload_n 0, 1) := by decide +kernel
theorem dL_nights_84 : decode cL_nights 84 = .ok (.iconst 4, 1) := by decide +kernel
theorem dL_nights_85 : decode cL_nights 85 = .ok (.invokevirtual 19, 3) := by decide +kernel
theorem dL_nights_88 : decode cL_nights 88 = .ok (.ifCond .ne 150, 3) := by decide +kernel
theorem dL_nights_91 : decode cL_nights 91 = .ok (.aload_n 0, 1) := by decide +kernel
theorem dL_nights_92 : decode cL_nights 92 = .ok (.iconst 2, 1) := by decide +kernel
theorem dL_nights_93 : decode cL_nights 93 = .ok (.iconst 2, 1) := by decide +kernel
theorem dL_nights_94 : decode cL_nights 94 = .ok (.bipush 50, 2) := by decide +kernel
theorem dL_nights_96 : decode cL_nights 96 = .ok (.invokevirtual 43, 3) := by decide +kernel
theorem dL_nights_99 : decode cL_nights 99 = .ok (.bipush 100, 2) := by decide +kernel
theorem dL_nights_101 : decode cL_nights 101 = .ok (.if_icmp .ne 137, 3) := by decide +kernel
theorem dL_nights_104 : decode cL_nights 104 = .ok (.aload_n 0, 1) := by decide +kernel
theorem dL_nights_105 : decode cL_nights 105 = .ok (.iconst 2, 1) := by decide +kernel
theorem dL_nights_106 : decode cL_nights 106 = .ok (.iconst 0, 1) := by decide +kernel
theorem dL_nights_107 : decode cL_nights 107 = .ok (.bipush 100, 2) := by decide +kernel
theorem dL_nights_109 : decode cL_nights 109 = .ok (.invokevirtual 43, 3) := by decide +kernel
theorem dL_nights_112 : decode cL_nights 112 = .ok (.bipush (-4), 2) := by decide +kernel
theorem dL_nights_114 : decode cL_nights 114 = .ok (.if_icmp .ne 124, 3) := by decide +kernel
theorem dL_nights_117 : decode cL_nights 117 = .ok (.aload_n 0, 1) := by decide +kernel
theorem dL_nights_118 : decode cL_nights 118 = .ok (.iconst 2, 1) := by decide +kernel
theorem dL_nights_119 : decode cL_nights 119 = .ok (.iconst 4, 1) := by decide +kernel
theorem dL_nights_120 : decode cL_nights 120 = .ok (.invokevirtual 22, 3) := by decide +kernel
theorem dL_nights_123 : decode cL_nights 123 = .ok (.sipush 700, 3) := by decide +kernel
theorem dL_nights_126 : decode cL_nights 126 = .ok (.if_icmp .ne 112, 3) := by decide +kernel
theorem dL_nights_129 : decode cL_nights 129 = .ok (.aload_n 0, 1) := by decide +kernel
theorem dL_nights_130 : decode cL_nights 130 = .ok (.iconst 5, 1) := by decide +kernel
theorem dL_nights_131 : decode cL_nights 131 = .ok (.invokevirtual 19, 3) := by decide +kernel
theorem dL_nights_134 : decode cL_nights 134 = .ok (.iconst 2, 1) := by decide +kernel
theorem dL_nights_135 : decode cL_nights 135 = .ok (.if_icmp .ne 103, 3) := by decide +kernel
theorem dL_nights_138 : decode cL_nights 138 = .ok (.aload_n 0, 1) := by decide +kernel
theorem dL_nights_139 : decode cL_nights 139 = .ok (.iconst 1, 1) := by decide +kernel
theorem dL_nights_140 : decode cL_nights 140 = .ok (.invokevirtual 59, 3) := by decide +kernel
theorem dL_nights_143 : decode cL_nights 143 = .ok (.ifCond .ne 95, 3) := by decide +kernel
theorem dL_nights_146 : decode cL_nights 146 = .ok (.aload_n 0, 1) := by decide +kernel
theorem dL_nights_147 : decode cL_nights 147 = .ok (.iconst 0, 1) := by decide +kernel
theorem dL_nights_148 : decode cL_nights 148 = .ok (.iconst 3, 1) := by decide +kernel
theorem dL_nights_149 : decode cL_nights 149 = .ok (.iconst 2, 1) := by decide +kernel
theorem dL_nights_150 : decode cL_nights 150 = .ok (.bipush 12, 2) := by decide +kernel
theorem dL_nights_152 : decode cL_nights 152 = .ok (.invokestatic 87, 3) := by decide +kernel
theorem dL_nights_155 : decode cL_nights 155 = .ok (.ifCond .eq 83, 3) := by decide +kernel
theorem dL_nights_158 : decode cL_nights 158 = .ok (.aload_n 0, 1) := by decide +kernel
theorem dL_nights_159 : decode cL_nights 159 = .ok (.iconst 1, 1) := by decide +kernel
theorem dL_nights_160 : decode cL_nights 160 = .ok (.invokevirtual 19, 3) := by decide +kernel
theorem dL_nights_163 : decode cL_nights 163 = .ok (.iconst 2, 1) := by decide +kernel
theorem dL_nights_164 : decode cL_nights 164 = .ok (.if_icmp .ne 74, 3) := by decide +kernel
theorem dL_nights_167 : decode cL_nights 167 = .ok (.aload_n 0, 1) := by decide +kernel
theorem dL_nights_168 : decode cL_nights 168 = .ok (.iconst 2, 1) := by decide +kernel
theorem dL_nights_169 : decode cL_nights 169 = .ok (.invokevirtual 19, 3) := by decide +kernel
theorem dL_nights_172 : decode cL_nights 172 = .ok (.iconst 4, 1) := by decide +kernel
theorem dL_nights_173 : decode cL_nights 173 = .ok (.if_icmp .ne 65, 3) := by decide +kernel
theorem dL_nights_176 : decode cL_nights 176 = .ok (.aload_n 0, 1) := by decide +kernel
theorem dL_nights_177 : decode cL_nights 177 = .ok (.iconst 3, 1) := by decide +kernel
theorem dL_nights_178 : decode cL_nights 178 = .ok (.invokevirtual 50, 3) := by decide +kernel
theorem dL_nights_181 : decode cL_nights 181 = .ok (.bipush (-4), 2) := by decide +kernel
theorem dL_nights_183 : decode cL_nights 183 = .ok (.if_icmp .ne 55, 3) := by decide +kernel
theorem dL_nights_186 : decode cL_nights 186 = .ok (.aload_n 0, 1) := by decide +kernel
theorem dL_nights_187 : decode cL_nights 187 = .ok (.iconst 3, 1) := by decide +kernel
theorem dL_nights_188 : decode cL_nights 188 = .ok (.invokevirtual 59, 3) := by decide +kernel
theorem dL_nights_191 : decode cL_nights 191 = .ok (.ifCond .ne 47, 3) := by decide +kernel
theorem dL_nights_194 : decode cL_nights 194 = .ok (.aload_n 0, 1) := by decide +kernel
theorem dL_nights_195 : decode cL_nights 195 = .ok (.iconst 2, 1) := by decide +kernel
theorem dL_nights_196 : decode cL_nights 196 = .ok (.invokevirtual 19, 3) := by decide +kernel
theorem dL_nights_199 : decode cL_nights 199 = .ok (.iconst 1, 1) := by decide +kernel
theorem dL_nights_200 : decode cL_nights 200 = .ok (.if_icmp .ne 38, 3) := by decide +kernel
theorem dL_nights_203 : decode cL_nights 203 = .ok (.aload_n 0, 1) := by decide +kernel
theorem dL_nights_204 : decode cL_nights 204 = .ok (.iconst 0, 1) := by decide +kernel
theorem dL_nights_205 : decode cL_nights 205 = .ok (.invokevirtual 19, 3) := by decide +kernel
theorem dL_nights_208 : decode cL_nights 208 = .ok (.ifCond .ne 30, 3) := by decide +kernel
theorem dL_nights_211 : decode cL_nights 211 = .ok (.aload_n 0, 1) := by decide +kernel
theorem dL_nights_212 : decode cL_nights 212 = .ok (.iconst 1, 1) := by decide +kernel
theorem dL_nights_213 : decode cL_nights 213 = .ok (.invokevirtual 59, 3) := by decide +kernel
theorem dL_nights_216 : decode cL_nights 216 = .ok (.ifCond .ne 22, 3) := by decide +kernel
theorem dL_nights_219 : decode cL_nights 219 = .ok (.aload_n 0, 1) := by decide +kernel
theorem dL_nights_220 : decode cL_nights 220 = .ok (.iconst 0, 1) := by decide +kernel
theorem dL_nights_221 : decode cL_nights 221 = .ok (.invokevirtual 19, 3) := by decide +kernel
theorem dL_nights_224 : decode cL_nights 224 = .ok (.iconst 2, 1) := by decide +kernel
theorem dL_nights_225 : decode cL_nights 225 = .ok (.if_icmp .ne 13, 3) := by decide +kernel
theorem dL_nights_228 : decode cL_nights 228 = .ok (.aload_n 0, 1) := by decide +kernel
theorem dL_nights_229 : decode cL_nights 229 = .ok (.iconst 1, 1) := by decide +kernel
theorem dL_nights_230 : decode cL_nights 230 = .ok (.invokevirtual 19, 3) := by decide +kernel
theorem dL_nights_233 : decode cL_nights 233 = .ok (.bipush (-5), 2) := by decide +kernel
theorem dL_nights_235 : decode cL_nights 235 = .ok (.if_icmp .eq 5, 3) := by decide +kernel
theorem dL_nights_238 : decode cL_nights 238 = .ok (.iconst 0, 1) := by decide +kernel
theorem dL_nights_239 : decode cL_nights 239 = .ok (.ireturn, 1) := by decide +kernel
theorem dL_nights_240 : decode cL_nights 240 = .ok (.aload_n 0, 1) := by decide +kernel
theorem dL_nights_241 : decode cL_nights 241 = .ok (.bipush 19, 2) := by decide +kernel
theorem dL_nights_243 : decode cL_nights 243 = .ok (.invokevirtual 59, 3) := by decide +kernel
theorem dL_nights_246 : decode cL_nights 246 = .ok (.ifCond .ne 187, 3) := by decide +kernel
theorem dL_nights_249 : decode cL_nights 249 = .ok (.aload_n 0, 1) := by decide +kernel
theorem dL_nights_250 : decode cL_nights 250 = .ok (.iconst 0, 1) := by decide +kernel
theorem dL_nights_251 : decode cL_nights 251 = .ok (.invokevirtual 13, 3) := by decide +kernel
theorem dL_nights_254 : decode cL_nights 254 = .ok (.bipush 36, 2) := by decide +kernel
theorem dL_nights_256 : decode cL_nights 256 = .ok (.if_icmp .ne 177, 3) := by decide +kernel
theorem dL_nights_259 : decode cL_nights 259 = .ok (.aload_n 0, 1) := by decide +kernel
theorem dL_nights_260 : decode cL_nights 260 = .ok (.invokevirtual 84, 3) := by decide +kernel
theorem dL_nights_263 : decode cL_nights 263 = .ok (.sipush 152, 3) := by decide +kernel
theorem dL_nights_266 : decode cL_nights 266 = .ok (.if_icmp .ne 167, 3) := by decide +kernel
theorem dL_nights_269 : decode cL_nights 269 = .ok (.aload_n 0, 1) := by decide +kernel
theorem dL_nights_270 : decode cL_nights 270 = .ok (.iconst 1, 1) := by decide +kernel
theorem dL_nights_271 : decode cL_nights 271 = .ok (.invokevirtual 59, 3) := by decide +kernel
theorem dL_nights_274 : decode cL_nights 274 = .ok (.ifCond .ne 159, 3) := by decide +kernel
theorem dL_nights_277 : decode cL_nights 277 = .ok (.aload_n 0, 1) := by decide +kernel
theorem dL_nights_278 : decode cL_nights 278 = .ok (.iconst 2, 1) := by decide +kernel
theorem dL_nights_279 : decode cL_nights 279 = .ok (.iconst 2, 1) := by decide +kernel
theorem dL_nights_280 : decode cL_nights 280 = .ok (.invokevirtual 22, 3) := by decide +kernel
theorem dL_nights_283 : decode cL_nights 283 = .ok (.bipush 6, 2) := by decide +kernel
theorem dL_nights_285 : decode cL_nights 285 = .ok (.if_icmp .ne 148, 3) := by decide +kernel
theorem dL_nights_288 : decode cL_nights 288 = .ok (.aload_n 0, 1) := by decide +kernel
theorem dL_nights_289 : decode cL_nights 289 = .ok (.iconst 2, 1) := by decide +kernel
theorem dL_nights_290 : decode cL_nights 290 = .ok (.iconst 4, 1) := by decide +kernel
theorem dL_nights_291 : decode cL_nights 291 = .ok (.invokevirtual 22, 3) := by decide +kernel
theorem dL_nights_294 : decode cL_nights 294 = .ok (.sipush 690, 3) := by decide +kernel
theorem dL_nights_297 : decode cL_nights 297 = .ok (.if_icmp .ne 136, 3) := by decide +kernel
theorem dL_nights_300 : decode cL_nights 300 = .ok (.aload_n 0, 1) := by decide +kernel
theorem dL_nights_301 : decode cL_nights 301 = .ok (.iconst 3, 1) := by decide +kernel
theorem dL_nights_302 : decode cL_nights 302 = .ok (.invokevirtual 19, 3) := by decide +kernel
theorem dL_nights_305 : decode cL_nights 305 = .ok (.iconst 1, 1) := by decide +kernel
theorem dL_nights_306 : decode cL_nights 306 = .ok (.if_icmp .ne 127, 3) := by decide +kernel
theorem dL_nights_309 : decode cL_nights 309 = .ok (.aload_n 0, 1) := by decide +kernel
theorem dL_nights_310 : decode cL_nights 310 = .ok (.iconst 2, 1) := by decide +kernel
theorem dL_nights_311 : decode cL_nights 311 = .ok (.invokevirtual 47, 3) := by decide +kernel
theorem dL_nights_314 : decode cL_nights 314 = .ok (.bipush (-4), 2) := by decide +kernel
theorem dL_nights_316 : decode cL_nights 316 = .ok (.if_icmp .ne 117, 3) := by decide +kernel
theorem dL_nights_319 : decode cL_nights 319 = .ok (.aload_n 0, 1) := by decide +kernel
theorem dL_nights_320 : decode cL_nights 320 = .ok (.iconst 2, 1) := by decide +kernel
theorem dL_nights_321 : decode cL_nights 321 = .ok (.invokevirtual 62, 3) := by decide +kernel
theorem dL_nights_324 : decode cL_nights 324 = .ok (.bipush 76, 2) := by decide +kernel
theorem dL_nights_326 : decode cL_nights 326 = .ok (.if_icmp .ne 107, 3) := by decide +kernel
theorem dL_nights_329 : decode cL_nights 329 = .ok (.aload_n 0, 1) := by decide +kernel
theorem dL_nights_330 : decode cL_nights 330 = .ok (.sipush 200, 3) := by decide +kernel
theorem dL_nights_333 : decode cL_nights 333 = .ok (.invokevirtual 59, 3) := by decide +kernel
theorem dL_nights_336 : decode cL_nights 336 = .ok (.bipush 25, 2) := by decide +kernel
theorem dL_nights_338 : decode cL_nights 338 = .ok (.if_icmp .ne 95, 3) := by decide +kernel
theorem dL_nights_341 : decode cL_nights 341 = .ok (.aload_n 0, 1) := by decide +kernel
theorem dL_nights_342 : decode cL_nights 342 = .ok (.iconst 0, 1) := by decide +kernel
theorem dL_nights_343 : decode cL_nights 343 = .ok (.invokevirtual 13, 3) := by decide +kernel
theorem dL_nights_346 : decode cL_nights 346 = .ok (.sipush 237, 3) := by decide +kernel
theorem dL_nights_349 : decode cL_nights 349 = .ok (.if_icmp .ne 84, 3) := by decide +kernel
theorem dL_nights_352 : decode cL_nights 352 = .ok (.aload_n 0, 1) := by decide +kernel
theorem dL_nights_353 : decode cL_nights 353 = .ok (.bipush 7, 2) := by decide +kernel
theorem dL_nights_355 : decode cL_nights 355 = .ok (.invokevirtual 13, 3) := by decide +kernel
theorem dL_nights_358 : decode cL_nights 358 = .ok (.bipush 37, 2) := by decide +kernel
theorem dL_nights_360 : decode cL_nights 360 = .ok (.if_icmp .ne 73, 3) := by decide +kernel
theorem dL_nights_363 : decode cL_nights 363 = .ok (.aload_n 0, 1) := by decide +kernel
theorem dL_nights_364 : decode cL_nights 364 = .ok (.bipush 8, 2) := by decide +kernel
theorem dL_nights_366 : decode cL_nights 366 = .ok (.invokevirtual 13, 3) := by decide +kernel
theorem dL_nights_369 : decode cL_nights 369 = .ok (.bipush 25, 2) := by decide +kernel
theorem dL_nights_371 : decode cL_nights 371 = .ok (.if_icmp .ne 62, 3) := by decide +kernel
theorem dL_nights_374 : decode cL_nights 374 = .ok (.aload_n 0, 1) := by decide +kernel
theorem dL_nights_375 : decode cL_nights 375 = .ok (.bipush 9, 2) := by decide +kernel
theorem dL_nights_377 : decode cL_nights 377 = .ok (.invokevirtual 13, 3) := by decide +kernel
theorem dL_nights_380 : decode cL_nights 380 = .ok (.iconst 3, 1) := by decide +kernel
theorem dL_nights_381 : decode cL_nights 381 = .ok (.if_icmp .ne 52, 3) := by decide +kernel
theorem dL_nights_384 : decode cL_nights 384 = .ok (.aload_n 0, 1) := by decide +kernel
theorem dL_nights_385 : decode cL_nights 385 = .ok (.iconst 0, 1) := by decide +kernel
theorem dL_nights_386 : decode cL_nights 386 = .ok (.iconst 0, 1) := by decide +kernel
theorem dL_nights_387 : decode cL_nights 387 = .ok (.iconst 2, 1) := by decide +kernel
theorem dL_nights_388 : decode cL_nights 388 = .ok (.sipush 187, 3) := by decide +kernel
theorem dL_nights_391 : decode cL_nights 391 = .ok (.invokestatic 87, 3) := by decide +kernel
theorem dL_nights_394 : decode cL_nights 394 = .ok (.ifCond .eq 39, 3) := by decide +kernel
theorem dL_nights_397 : decode cL_nights 397 = .ok (.aload_n 0, 1) := by decide +kernel
theorem dL_nights_398 : decode cL_nights 398 = .ok (.iconst 1, 1) := by decide +kernel
theorem dL_nights_399 : decode cL_nights 399 = .ok (.iconst 1, 1) := by decide +kernel
theorem dL_nights_400 : decode cL_nights 400 = .ok (.iconst 2, 1) := by decide +kernel
theorem dL_nights_401 : decode cL_nights 401 = .ok (.sipush 150, 3) := by decide +kernel
theorem dL_nights_404 : decode cL_nights 404 = .ok (.invokestatic 87, 3) := by decide +kernel
theorem dL_nights_407 : decode cL_nights 407 = .ok (.ifCond .eq 26, 3) := by decide +kernel
theorem dL_nights_410 : decode cL_nights 410 = .ok (.aload_n 0, 1) := by decide +kernel
theorem dL_nights_411 : decode cL_nights 411 = .ok (.iconst 2, 1) := by decide +kernel
theorem dL_nights_412 : decode cL_nights 412 = .ok (.iconst 3, 1) := by decide +kernel
theorem dL_nights_413 : decode cL_nights 413 = .ok (.iconst 2, 1) := by decide +kernel
theorem dL_nights_414 : decode cL_nights 414 = .ok (.bipush 12, 2) := by decide +kernel
theorem dL_nights_416 : decode cL_nights 416 = .ok (.invokestatic 87, 3) := by decide +kernel
theorem dL_nights_419 : decode cL_nights 419 = .ok (.ifCond .eq 14, 3) := by decide +kernel
theorem dL_nights_422 : decode cL_nights 422 = .ok (.aload_n 0, 1) := by decide +kernel
theorem dL_nights_423 : decode cL_nights 423 = .ok (.iconst 3, 1) := by decide +kernel
theorem dL_nights_424 : decode cL_nights 424 = .ok (.iconst 0, 1) := by decide +kernel
theorem dL_nights_425 : decode cL_nights 425 = .ok (.invokevirtual 29, 3) := by decide +kernel
theorem dL_nights_428 : decode cL_nights 428 = .ok (.bipush (-5), 2) := by decide +kernel
theorem dL_nights_430 : decode cL_nights 430 = .ok (.if_icmp .eq 5, 3) := by decide +kernel
theorem dL_nights_433 : decode cL_nights 433 = .ok (.iconst 0, 1) := by decide +kernel
theorem dL_nights_434 : decode cL_nights 434 = .ok (.ireturn, 1) := by decide +kernel
theorem dL_nights_435 : decode cL_nights 435 = .ok (.aload_n 0, 1) := by decide +kernel
theorem dL_nights_436 : decode cL_nights 436 = .ok (.iconst 2, 1) := by decide +kernel
theorem dL_nights_437 : decode cL_nights 437 = .ok (.bipush 6, 2) := by decide +kernel
theorem dL_nights_439 : decode cL_nights 439 = .ok (.invokevirtual 22, 3) := by decide +kernel
theorem dL_nights_442 : decode cL_nights 442 = .ok (.iconst 1, 1) := by decide +kernel
theorem dL_nights_443 : decode cL_nights 443 = .ok (.if_icmp .ne 95, 3) := by decide +kernel
theorem dL_nights_446 : decode cL_nights 446 = .ok (.aload_n 0, 1) := by decide +kernel
theorem dL_nights_447 : decode cL_nights 447 = .ok (.iconst 2, 1) := by decide +kernel
theorem dL_nights_448 : decode cL_nights 448 = .ok (.iconst 5, 1) := by decide +kernel
theorem dL_nights_449 : decode cL_nights 449 = .ok (.invokevirtual 22, 3) := by decide +kernel
theorem dL_nights_452 : decode cL_nights 452 = .ok (.iconst 1, 1) := by decide +kernel
theorem dL_nights_453 : decode cL_nights 453 = .ok (.if_icmp .ne 85, 3) := by decide +kernel
theorem dL_nights_456 : decode cL_nights 456 = .ok (.aload_n 0, 1) := by decide +kernel
theorem dL_nights_457 : decode cL_nights 457 = .ok (.iconst 2, 1) := by decide +kernel
theorem dL_nights_458 : decode cL_nights 458 = .ok (.iconst 4, 1) := by decide +kernel
theorem dL_nights_459 : decode cL_nights 459 = .ok (.invokevirtual 22, 3) := by decide +kernel
theorem dL_nights_462 : decode cL_nights 462 = .ok (.ifCond .ne 76, 3) := by decide +kernel
theorem dL_nights_465 : decode cL_nights 465 = .ok (.aload_n 0, 1) := by decide +kernel
theorem dL_nights_466 : decode cL_nights 466 = .ok (.iconst 2, 1) := by decide +kernel
theorem dL_nights_467 : decode cL_nights 467 = .ok (.iconst 2, 1) := by decide +kernel
theorem dL_nights_468 : decode cL_nights 468 = .ok (.invokevirtual 22, 3) := by decide +kernel
theorem dL_nights_471 : decode cL_nights 471 = .ok (.bipush 100, 2) := by decide +kernel
theorem dL_nights_473 : decode cL_nights 473 = .ok (.if_icmp .ne 65, 3) := by decide +kernel
theorem dL_nights_476 : decode cL_nights 476 = .ok (.aload_n 0, 1) := by decide +kernel
theorem dL_nights_477 : decode cL_nights 477 = .ok (.iconst 2, 1) := by decide +kernel
theorem dL_nights_478 : decode cL_nights 478 = .ok (.invokevirtual 62, 3) := by decide +kernel
theorem dL_nights_481 : decode cL_nights 481 = .ok (.bipush (-4), 2) := by decide +kernel
theorem dL_nights_483 : decode cL_nights 483 = .ok (.if_icmp .ne 55, 3) := by decide +kernel
theorem dL_nights_486 : decode cL_nights 486 = .ok (.aload_n 0, 1) := by decide +kernel
theorem dL_nights_487 : decode cL_nights 487 = .ok (.iconst 0, 1) := by decide +kernel
theorem dL_nights_488 : decode cL_nights 488 = .ok (.invokevirtual 65, 3) := by decide +kernel
theorem dL_nights_491 : decode cL_nights 491 = .ok (.bipush (-5), 2) := by decide +kernel
theorem dL_nights_493 : decode cL_nights 493 = .ok (.if_icmp .ne 45, 3) := by decide +kernel
theorem dL_nights_496 : decode cL_nights 496 = .ok (.aload_n 0, 1) := by decide +kernel
theorem dL_nights_497 : decode cL_nights 497 = .ok (.iconst 5, 1) := by decide +kernel
theorem dL_nights_498 : decode cL_nights 498 = .ok (.invokevirtual 19, 3) := by decide +kernel
theorem dL_nights_501 : decode cL_nights 501 = .ok (.bipush (-5), 2) := by decide +kernel
theorem dL_nights_503 : decode cL_nights 503 = .ok (.if_icmp .ne 35, 3) := by decide +kernel
theorem dL_nights_506 : decode cL_nights 506 = .ok (.aload_n 0, 1) := by decide +kernel
theorem dL_nights_507 : decode cL_nights 507 = .ok (.iconst 3, 1) := by decide +kernel
theorem dL_nights_508 : decode cL_nights 508 = .ok (.invokevirtual 19, 3) := by decide +kernel
theorem dL_nights_511 : decode cL_nights 511 = .ok (.ifCond .ne 27, 3) := by decide +kernel
theorem dL_nights_514 : decode cL_nights 514 = .ok (.aload_n 0, 1) := by decide +kernel
theorem dL_nights_515 : decode cL_nights 515 = .ok (.iconst 2, 1) := by decide +kernel
theorem dL_nights_516 : decode cL_nights 516 = .ok (.invokevirtual 13, 3) := by decide +kernel
theorem dL_nights_519 : decode cL_nights 519 = .ok (.iconst 1, 1) := by decide +kernel
theorem dL_nights_520 : decode cL_nights 520 = .ok (.if_icmp .ne 18, 3) := by decide +kernel
theorem dL_nights_523 : decode cL_nights 523 = .ok (.aload_n 0, 1) := by decide +kernel
theorem dL_nights_524 : decode cL_nights 524 = .ok (.iconst 3, 1) := by decide +kernel
theorem dL_nights_525 : decode cL_nights 525 = .ok (.invokevirtual 13, 3) := by decide +kernel
theorem dL_nights_528 : decode cL_nights 528 = .ok (.ifCond .ne 10, 3) := by decide +kernel
theorem dL_nights_531 : decode cL_nights 531 = .ok (.aload_n 0, 1) := by decide +kernel
theorem dL_nights_532 : decode cL_nights 532 = .ok (.invokestatic 91, 3) := by decide +kernel
theorem dL_nights_535 : decode cL_nights 535 = .ok (.ifCond .ne 5, 3) := by decide +kernel
theorem dL_nights_538 : decode cL_nights 538 = .ok (.iconst 0, 1) := by decide +kernel
theorem dL_nights_539 : decode cL_nights 539 = .ok (.ireturn, 1) := by decide +kernel
theorem dL_nights_540 : decode cL_nights 540 = .ok (.aload_n 0, 1) := by decide +kernel
theorem dL_nights_541 : decode cL_nights 541 = .ok (.sipush 240, 3) := by decide +kernel
theorem dL_nights_544 : decode cL_nights 544 = .ok (.iconst 1, 1) := by decide +kernel
theorem dL_nights_545 : decode cL_nights 545 = .ok (.iconst 3, 1) := by decide +kernel
theorem dL_nights_546 : decode cL_nights 546 = .ok (.invokevirtual 56, 3) := by decide +kernel
theorem dL_nights_549 : decode cL_nights 549 = .ok (.iconst 1, 1) := by decide +kernel
theorem dL_nights_550 : decode cL_nights 550 = .ok (.if_icmp .ne 176, 3) := by decide +kernel
theorem dL_nights_553 : decode cL_nights 553 = .ok (.aload_n 0, 1) := by decide +kernel
theorem dL_nights_554 : decode cL_nights 554 = .ok (.iconst 3, 1) := by decide +kernel
theorem dL_nights_555 : decode cL_nights 555 = .ok (.iconst 1, 1) := by decide +kernel
theorem dL_nights_556 : decode cL_nights 556 = .ok (.invokevirtual 35, 3) := by decide +kernel
theorem dL_nights_559 : decode cL_nights 559 = .ok (.ifCond .ne 167, 3) := by decide +kernel
theorem dL_nights_562 : decode cL_nights 562 = .ok (.aload_n 0, 1) := by decide +kernel
theorem dL_nights_563 : decode cL_nights 563 = .ok (.invokevirtual 84, 3) := by decide +kernel
theorem dL_nights_566 : decode cL_nights 566 = .ok (.ifCond .ne 160, 3) := by decide +kernel
theorem dL_nights_569 : decode cL_nights 569 = .ok (.aload_n 0, 1) := by decide +kernel
theorem dL_nights_570 : decode cL_nights 570 = .ok (.iconst 3, 1) := by decide +kernel
theorem dL_nights_571 : decode cL_nights 571 = .ok (.invokevirtual 59, 3) := by decide +kernel
theorem dL_nights_574 : decode cL_nights 574 = .ok (.iconst 3, 1) := by decide +kernel
theorem dL_nights_575 : decode cL_nights 575 = .ok (.if_icmp .ne 151, 3) := by decide +kernel
theorem dL_nights_578 : decode cL_nights 578 = .ok (.aload_n 0, 1) := by decide +kernel
theorem dL_nights_579 : decode cL_nights 579 = .ok (.iconst 1, 1) := by decide +kernel
theorem dL_nights_580 : decode cL_nights 580 = .ok (.invokevirtual 59, 3) := by decide +kernel
theorem dL_nights_583 : decode cL_nights 583 = .ok (.iconst 1, 1) := by decide +kernel
theorem dL_nights_584 : decode cL_nights 584 = .ok (.if_icmp .ne 142, 3) := by decide +kernel
theorem dL_nights_587 : decode cL_nights 587 = .ok (.aload_n 0, 1) := by decide +kernel
theorem dL_nights_588 : decode cL_nights 588 = .ok (.iconst 0, 1) := by decide +kernel
theorem dL_nights_589 : decode cL_nights 589 = .ok (.iconst 4, 1) := by decide +kernel
theorem dL_nights_590 : decode cL_nights 590 = .ok (.iconst 3, 1) := by decide +kernel
theorem dL_nights_591 : decode cL_nights 591 = .ok (.sipush 240, 3) := by decide +kernel
theorem dL_nights_594 : decode cL_nights 594 = .ok (.invokestatic 87, 3) := by decide +kernel
theorem dL_nights_597 : decode cL_nights 597 = .ok (.ifCond .eq 129, 3) := by decide +kernel
theorem dL_nights_600 : decode cL_nights 600 = .ok (.aload_n 0, 1) := by decide +kernel
theorem dL_nights_601 : decode cL_nights 601 = .ok (.bipush 10, 2) := by decide +kernel
theorem dL_nights_603 : decode cL_nights 603 = .ok (.invokevirtual 13, 3) := by decide +kernel
theorem dL_nights_606 : decode cL_nights 606 = .ok (.iconst 1, 1) := by decide +kernel
theorem dL_nights_607 : decode cL_nights 607 = .ok (.if_icmp .ne 119, 3) := by decide +kernel
theorem dL_nights_610 : decode cL_nights 610 = .ok (.aload_n 0, 1) := by decide +kernel
theorem dL_nights_611 : decode cL_nights 611 = .ok (.bipush 11, 2) := by decide +kernel
theorem dL_nights_613 : decode cL_nights 613 = .ok (.invokevirtual 13, 3) := by decide +kernel
theorem dL_nights_616 : decode cL_nights 616 = .ok (.iconst 1, 1) := by decide +kernel
theorem dL_nights_617 : decode cL_nights 617 = .ok (.if_icmp .ne 109, 3) := by decide +kernel
theorem dL_nights_620 : decode cL_nights 620 = .ok (.aload_n 0, 1) := by decide +kernel
theorem dL_nights_621 : decode cL_nights 621 = .ok (.iconst 1, 1) := by decide +kernel
theorem dL_nights_622 : decode cL_nights 622 = .ok (.invokevirtual 13, 3) := by decide +kernel
theorem dL_nights_625 : decode cL_nights 625 = .ok (.iconst 3, 1) := by decide +kernel
theorem dL_nights_626 : decode cL_nights 626 = .ok (.if_icmp .ne 100, 3) := by decide +kernel
theorem dL_nights_629 : decode cL_nights 629 = .ok (.aload_n 0, 1) := by decide +kernel
theorem dL_nights_630 : decode cL_nights 630 = .ok (.iconst 5, 1) := by decide +kernel
theorem dL_nights_631 : decode cL_nights 631 = .ok (.invokevirtual 13, 3) := by decide +kernel
theorem dL_nights_634 : decode cL_nights 634 = .ok (.ifCond .ne 92, 3) := by decide +kernel
theorem dL_nights_637 : decode cL_nights 637 = .ok (.aload_n 0, 1) := by decide +kernel
theorem dL_nights_638 : decode cL_nights 638 = .ok (.bipush 9, 2) := by decide +kernel
theorem dL_nights_640 : decode cL_nights 640 = .ok (.invokevirtual 13, 3) := by decide +kernel
theorem dL_nights_643 : decode cL_nights 643 = .ok (.iconst 3, 1) := by decide +kernel
theorem dL_nights_644 : decode cL_nights 644 = .ok (.if_icmp .ne 82, 3) := by decide +kernel
theorem dL_nights_647 : decode cL_nights 647 = .ok (.aload_n 0, 1) := by decide +kernel
theorem dL_nights_648 : decode cL_nights 648 = .ok (.iconst 1, 1) := by decide +kernel
theorem dL_nights_649 : decode cL_nights 649 = .ok (.invokevirtual 59, 3) := by decide +kernel
theorem dL_nights_652 : decode cL_nights 652 = .ok (.ifCond .ne 74, 3) := by decide +kernel
theorem dL_nights_655 : decode cL_nights 655 = .ok (.aload_n 0, 1) := by decide +kernel
theorem dL_nights_656 : decode cL_nights 656 = .ok (.iconst 2, 1) := by decide +kernel
theorem dL_nights_657 : decode cL_nights 657 = .ok (.iconst 2, 1) := by decide +kernel
theorem dL_nights_658 : decode cL_nights 658 = .ok (.invokevirtual 22, 3) := by decide +kernel
theorem dL_nights_661 : decode cL_nights 661 = .ok (.bipush 16, 2) := by decide +kernel
theorem dL_nights_663 : decode cL_nights 663 = .ok (.if_icmp .ne 63, 3) := by decide +kernel
theorem dL_nights_666 : decode cL_nights 666 = .ok (.aload_n 0, 1) := by decide +kernel
theorem dL_nights_667 : decode cL_nights 667 = .ok (.iconst 2, 1) := by decide +kernel
theorem dL_nights_668 : decode cL_nights 668 = .ok (.iconst 3, 1) := by decide +kernel
theorem dL_nights_669 : decode cL_nights 669 = .ok (.invokevirtual 22, 3) := by decide +kernel
theorem dL_nights_672 : decode cL_nights 672 = .ok (.sipush 700, 3) := by decide +kernel
theorem dL_nights_675 : decode cL_nights 675 = .ok (.if_icmp .ne 51, 3) := by decide +kernel
theorem dL_nights_678 : decode cL_nights 678 = .ok (.aload_n 0, 1) := by decide +kernel
theorem dL_nights_679 : decode cL_nights 679 = .ok (.iconst 2, 1) := by decide +kernel
theorem dL_nights_680 : decode cL_nights 680 = .ok (.iconst 4, 1) := by decide +kernel
theorem dL_nights_681 : decode cL_nights 681 = .ok (.invokevirtual 22, 3) := by decide +kernel
theorem dL_nights_684 : decode cL_nights 684 = .ok (.sipush 1392, 3) := by decide +kernel
theorem dL_nights_687 : decode cL_nights 687 = .ok (.if_icmp .ne 39, 3) := by decide +kernel
theorem dL_nights_690 : decode cL_nights 690 = .ok (.aload_n 0, 1) := by decide +kernel
theorem dL_nights_691 : decode cL_nights 691 = .ok (.iconst 0, 1) := by decide +kernel
theorem dL_nights_692 : decode cL_nights 692 = .ok (.invokevirtual 65, 3) := by decide +kernel
theorem dL_nights_695 : decode cL_nights 695 = .ok (.ifCond .ne 31, 3) := by decide +kernel
theorem dL_nights_698 : decode cL_nights 698 = .ok (.aload_n 0, 1) := by decide +kernel
theorem dL_nights_699 : decode cL_nights 699 = .ok (.iconst 1, 1) := by decide +kernel
theorem dL_nights_700 : decode cL_nights 700 = .ok (.invokevirtual 65, 3) := by decide +kernel
theorem dL_nights_703 : decode cL_nights 703 = .ok (.iconst 1, 1) := by decide +kernel
theorem dL_nights_704 : decode cL_nights 704 = .ok (.if_icmp .ne 22, 3) := by decide +kernel
theorem dL_nights_707 : decode cL_nights 707 = .ok (.aload_n 0, 1) := by decide +kernel
theorem dL_nights_708 : decode cL_nights 708 = .ok (.iconst 2, 1) := by decide +kernel
theorem dL_nights_709 : decode cL_nights 709 = .ok (.invokevirtual 65, 3) := by decide +kernel
theorem dL_nights_712 : decode cL_nights 712 = .ok (.iconst 2, 1) := by decide +kernel
theorem dL_nights_713 : decode cL_nights 713 = .ok (.if_icmp .ne 13, 3) := by decide +kernel
theorem dL_nights_716 : decode cL_nights 716 = .ok (.aload_n 0, 1) := by decide +kernel
theorem dL_nights_717 : decode cL_nights 717 = .ok (.iconst 3, 1) := by decide +kernel
theorem dL_nights_718 : decode cL_nights 718 = .ok (.invokevirtual 65, 3) := by decide +kernel
theorem dL_nights_721 : decode cL_nights 721 = .ok (.bipush (-5), 2) := by decide +kernel
theorem dL_nights_723 : decode cL_nights 723 = .ok (.if_icmp .eq 5, 3) := by decide +kernel
theorem dL_nights_726 : decode cL_nights 726 = .ok (.iconst 0, 1) := by decide +kernel
theorem dL_nights_727 : decode cL_nights 727 = .ok (.ireturn, 1) := by decide +kernel
theorem dL_nights_728 : decode cL_nights 728 = .ok (.aload_n 0, 1) := by decide +kernel
theorem dL_nights_729 : decode cL_nights 729 = .ok (.iconst 0, 1) := by decide +kernel
theorem dL_nights_730 : decode cL_nights 730 = .ok (.invokevirtual 50, 3) := by decide +kernel
theorem dL_nights_733 : decode cL_nights 733 = .ok (.bipush 8, 2) := by decide +kernel
theorem dL_nights_735 : decode cL_nights 735 = .ok (.if_icmp .ne 57, 3) := by decide +kernel
theorem dL_nights_738 : decode cL_nights 738 = .ok (.aload_n 0, 1) := by decide +kernel
theorem dL_nights_739 : decode cL_nights 739 = .ok (.iconst 3, 1) := by decide +kernel
theorem dL_nights_740 : decode cL_nights 740 = .ok (.invokevirtual 19, 3) := by decide +kernel
theorem dL_nights_743 : decode cL_nights 743 = .ok (.ifCond .ne 49, 3) := by decide +kernel
theorem dL_nights_746 : decode cL_nights 746 = .ok (.aload_n 0, 1) := by decide +kernel
theorem dL_nights_747 : decode cL_nights 747 = .ok (.iconst 1, 1) := by decide +kernel
theorem dL_nights_748 : decode cL_nights 748 = .ok (.invokevirtual 59, 3) := by decide +kernel
theorem dL_nights_751 : decode cL_nights 751 = .ok (.iconst 1, 1) := by decide +kernel
theorem dL_nights_752 : decode cL_nights 752 = .ok (.if_icmp .ne 40, 3) := by decide +kernel
theorem dL_nights_755 : decode cL_nights 755 = .ok (.aload_n 0, 1) := by decide +kernel
theorem dL_nights_756 : decode cL_nights 756 = .ok (.iconst 3, 1) := by decide +kernel
theorem dL_nights_757 : decode cL_nights 757 = .ok (.invokevirtual 50, 3) := by decide +kernel
theorem dL_nights_760 : decode cL_nights 760 = .ok (.bipush (-4), 2) := by decide +kernel
theorem dL_nights_762 : decode cL_nights 762 = .ok (.if_icmp .ne 30, 3) := by decide +kernel
theorem dL_nights_765 : decode cL_nights 765 = .ok (.aload_n 0, 1) := by decide +kernel
theorem dL_nights_766 : decode cL_nights 766 = .ok (.iconst 2, 1) := by decide +kernel
theorem dL_nights_767 : decode cL_nights 767 = .ok (.iconst 5, 1) := by decide +kernel
theorem dL_nights_768 : decode cL_nights 768 = .ok (.invokevirtual 35, 3) := by decide +kernel
theorem dL_nights_771 : decode cL_nights 771 = .ok (.iconst 2, 1) := by decide +kernel
theorem dL_nights_772 : decode cL_nights 772 = .ok (.if_icmp .ne 20, 3) := by decide +kernel
theorem dL_nights_775 : decode cL_nights 775 = .ok (.aload_n 0, 1) := by decide +kernel
theorem dL_nights_776 : decode cL_nights 776 = .ok (.iconst 2, 1) := by decide +kernel
theorem dL_nights_777 : decode cL_nights 777 = .ok (.invokevirtual 19, 3) := by decide +kernel
theorem dL_nights_780 : decode cL_nights 780 = .ok (.bipush 7, 2) := by decide +kernel
theorem dL_nights_782 : decode cL_nights 782 = .ok (.if_icmp .ne 10, 3) := by decide +kernel
theorem dL_nights_785 : decode cL_nights 785 = .ok (.aload_n 0, 1) := by decide +kernel
theorem dL_nights_786 : decode cL_nights 786 = .ok (.invokestatic 91, 3) := by decide +kernel
theorem dL_nights_789 : decode cL_nights 789 = .ok (.ifCond .ne 5, 3) := by decide +kernel
theorem dL_nights_792 : decode cL_nights 792 = .ok (.iconst 0, 1) := by decide +kernel
theorem dL_nights_793 : decode cL_nights 793 = .ok (.ireturn, 1) := by decide +kernel
theorem dL_nights_794 : decode cL_nights 794 = .ok (.new 14, 3) := by decide +kernel
theorem dL_nights_797 : decode cL_nights 797 = .ok (.dup, 1) := by decide +kernel
theorem dL_nights_798 : decode cL_nights 798 = .ok (.invokespecial 76, 3) := by decide +kernel
theorem dL_nights_801 : decode cL_nights 801 = .ok (.astore_n 1, 1) := by decide +kernel
theorem dL_nights_802 : decode cL_nights 802 = .ok (.iconst 0, 1) := by decide +kernel
theorem dL_nights_803 : decode cL_nights 803 = .ok (.istore_n 2, 1) := by decide +kernel
theorem dL_nights_804 : decode cL_nights 804 = .ok (.iload_n 2, 1) := by decide +kernel
theorem dL_nights_805 : decode cL_nights 805 = .ok (.bipush 16, 2) := by decide +kernel
theorem dL_nights_807 : decode cL_nights 807 = .ok (.if_icmp .ge 28, 3) := by decide +kernel
theorem dL_nights_810 : decode cL_nights 810 = .ok (.aload_n 1, 1) := by decide +kernel
theorem dL_nights_811 : decode cL_nights 811 = .ok (.iconst 2, 1) := by decide +kernel
theorem dL_nights_812 : decode cL_nights 812 = .ok (.bipush 6, 2) := by decide +kernel
theorem dL_nights_814 : decode cL_nights 814 = .ok (.invokevirtual 53, 3) := by decide +kernel
theorem dL_nights_817 : decode cL_nights 817 = .ok (.bipush 6, 2) := by decide +kernel
theorem dL_nights_819 : decode cL_nights 819 = .ok (.iload_n 2, 1) := by decide +kernel
theorem dL_nights_820 : decode cL_nights 820 = .ok (.imul, 1) := by decide +kernel
theorem dL_nights_821 : decode cL_nights 821 = .ok (.bipush 6, 2) := by decide +kernel
theorem dL_nights_823 : decode cL_nights 823 = .ok (.iadd, 1) := by decide +kernel
theorem dL_nights_824 : decode cL_nights 824 = .ok (.if_icmp .eq 5, 3) := by decide +kernel
theorem dL_nights_827 : decode cL_nights 827 = .ok (.iconst 0, 1) := by decide +kernel
theorem dL_nights_828 : decode cL_nights 828 = .ok (.ireturn, 1) := by decide +kernel
theorem dL_nights_829 : decode cL_nights 829 = .ok (.iinc 2 1, 3) := by decide +kernel
theorem dL_nights_832 : decode cL_nights 832 = .ok (.goto (-28), 3) := by decide +kernel
theorem dL_nights_835 : decode cL_nights 835 = .ok (.aload_n 1, 1) := by decide +kernel
theorem dL_nights_836 : decode cL_nights 836 = .ok (.iconst 2, 1) := by decide +kernel
theorem dL_nights_837 : decode cL_nights 837 = .ok (.iconst 4, 1) := by decide +kernel
theorem dL_nights_838 : decode cL_nights 838 = .ok (.invokevirtual 53, 3) := by decide +kernel
theorem dL_nights_841 : decode cL_nights 841 = .ok (.bipush (-3), 2) := by decide +kernel
theorem dL_nights_843 : decode cL_nights 843 = .ok (.if_icmp .ne 39, 3) := by decide +kernel
theorem dL_nights_846 : decode cL_nights 846 = .ok (.aload_n 1, 1) := by decide +kernel
theorem dL_nights_847 : decode cL_nights 847 = .ok (.iconst 2, 1) := by decide +kernel
theorem dL_nights_848 : decode cL_nights 848 = .ok (.iconst 3, 1) := by decide +kernel
theorem dL_nights_849 : decode cL_nights 849 = .ok (.invokevirtual 53, 3) := by decide +kernel
theorem dL_nights_852 : decode cL_nights 852 = .ok (.bipush 99, 2) := by decide +kernel
theorem dL_nights_854 : decode cL_nights 854 = .ok (.if_icmp .ne 28, 3) := by decide +kernel
theorem dL_nights_857 : decode cL_nights 857 = .ok (.aload_n 1, 1) := by decide +kernel
theorem dL_nights_858 : decode cL_nights 858 = .ok (.iconst 0, 1) := by decide +kernel
theorem dL_nights_859 : decode cL_nights 859 = .ok (.bipush 24, 2) := by decide +kernel
theorem dL_nights_861 : decode cL_nights 861 = .ok (.invokevirtual 40, 3) := by decide +kernel
theorem dL_nights_864 : decode cL_nights 864 = .ok (.bipush 24, 2) := by decide +kernel
theorem dL_nights_866 : decode cL_nights 866 = .ok (.if_icmp .ne 16, 3) := by decide +kernel
theorem dL_nights_869 : decode cL_nights 869 = .ok (.aload_n 1, 1) := by decide +kernel
theorem dL_nights_870 : decode cL_nights 870 = .ok (.bipush 40, 2) := by decide +kernel
theorem dL_nights_872 : decode cL_nights 872 = .ok (.bipush 8, 2) := by decide +kernel
theorem dL_nights_874 : decode cL_nights 874 = .ok (.invokevirtual 40, 3) := by decide +kernel
theorem dL_nights_877 : decode cL_nights 877 = .ok (.bipush 16, 2) := by decide +kernel
theorem dL_nights_879 : decode cL_nights 879 = .ok (.if_icmp .eq 5, 3) := by decide +kernel
theorem dL_nights_882 : decode cL_nights 882 = .ok (.iconst 0, 1) := by decide +kernel
theorem dL_nights_883 : decode cL_nights 883 = .ok (.ireturn, 1) := by decide +kernel
theorem dL_nights_884 : decode cL_nights 884 = .ok (.iconst 0, 1) := by decide +kernel
theorem dL_nights_885 : decode cL_nights 885 = .ok (.istore_n 2, 1) := by decide +kernel
theorem dL_nights_886 : decode cL_nights 886 = .ok (.iload_n 2, 1) := by decide +kernel
theorem dL_nights_887 : decode cL_nights 887 = .ok (.bipush 10, 2) := by decide +kernel
theorem dL_nights_889 : decode cL_nights 889 = .ok (.if_icmp .ge 27, 3) := by decide +kernel
theorem dL_nights_892 : decode cL_nights 892 = .ok (.aload_n 1, 1) := by decide +kernel
theorem dL_nights_893 : decode cL_nights 893 = .ok (.bipush 9, 2) := by decide +kernel
theorem dL_nights_895 : decode cL_nights 895 = .ok (.iload_n 2, 1) := by decide +kernel
theorem dL_nights_896 : decode cL_nights 896 = .ok (.isub, 1) := by decide +kernel
theorem dL_nights_897 : decode cL_nights 897 = .ok (.iconst 0, 1) := by decide +kernel
theorem dL_nights_898 : decode cL_nights 898 = .ok (.iconst 1, 1) := by decide +kernel
theorem dL_nights_899 : decode cL_nights 899 = .ok (.invokevirtual 56, 3) := by decide +kernel
theorem dL_nights_902 : decode cL_nights 902 = .ok (.iload_n 2, 1) := by decide +kernel
theorem dL_nights_903 : decode cL_nights 903 = .ok (.iconst 1, 1) := by decide +kernel
theorem dL_nights_904 : decode cL_nights 904 = .ok (.iadd, 1) := by decide +kernel
theorem dL_nights_905 : decode cL_nights 905 = .ok (.if_icmp .eq 5, 3) := by decide +kernel
theorem dL_nights_908 : decode cL_nights 908 = .ok (.iconst 0, 1) := by decide +kernel
theorem dL_nights_909 : decode cL_nights 909 = .ok (.ireturn, 1) := by decide +kernel
theorem dL_nights_910 : decode cL_nights 910 = .ok (.iinc 2 1, 3) := by decide +kernel
theorem dL_nights_913 : decode cL_nights 913 = .ok (.goto (-27), 3) := by decide +kernel
theorem dL_nights_916 : decode cL_nights 916 = .ok (.aload_n 1, 1) := by decide +kernel
theorem dL_nights_917 : decode cL_nights 917 = .ok (.bipush 10, 2) := by decide +kernel
theorem dL_nights_919 : decode cL_nights 919 = .ok (.iconst 0, 1) := by decide +kernel
theorem dL_nights_920 : decode cL_nights 920 = .ok (.iconst 1, 1) := by decide +kernel
theorem dL_nights_921 : decode cL_nights 921 = .ok (.invokevirtual 56, 3) := by decide +kernel
theorem dL_nights_924 : decode cL_nights 924 = .ok (.bipush (-3), 2) := by decide +kernel
theorem dL_nights_926 : decode cL_nights 926 = .ok (.if_icmp .ne 77, 3) := by decide +kernel
theorem dL_nights_929 : decode cL_nights 929 = .ok (.aload_n 1, 1) := by decide +kernel
theorem dL_nights_930 : decode cL_nights 930 = .ok (.iconst 0, 1) := by decide +kernel
theorem dL_nights_931 : decode cL_nights 931 = .ok (.iconst 2, 1) := by decide +kernel
theorem dL_nights_932 : decode cL_nights 932 = .ok (.iconst 4, 1) := by decide +kernel
theorem dL_nights_933 : decode cL_nights 933 = .ok (.invokevirtual 56, 3) := by decide +kernel
theorem dL_nights_936 : decode cL_nights 936 = .ok (.bipush 10, 2) := by decide +kernel
theorem dL_nights_938 : decode cL_nights 938 = .ok (.if_icmp .ne 65, 3) := by decide +kernel
theorem dL_nights_941 : decode cL_nights 941 = .ok (.aload_n 1, 1) := by decide +kernel
theorem dL_nights_942 : decode cL_nights 942 = .ok (.iconst 0, 1) := by decide +kernel
theorem dL_nights_943 : decode cL_nights 943 = .ok (.iconst 1, 1) := by decide +kernel
theorem dL_nights_944 : decode cL_nights 944 = .ok (.invokevirtual 26, 3) := by decide +kernel
theorem dL_nights_947 : decode cL_nights 947 = .ok (.iconst 2, 1) := by decide +kernel
theorem dL_nights_948 : decode cL_nights 948 = .ok (.if_icmp .ne 55, 3) := by decide +kernel
theorem dL_nights_951 : decode cL_nights 951 = .ok (.aload_n 1, 1) := by decide +kernel
theorem dL_nights_952 : decode cL_nights 952 = .ok (.iconst 0, 1) := by decide +kernel
theorem dL_nights_953 : decode cL_nights 953 = .ok (.iconst 2, 1) := by decide +kernel
theorem dL_nights_954 : decode cL_nights 954 = .ok (.invokevirtual 26, 3) := by decide +kernel
theorem dL_nights_957 : decode cL_nights 957 = .ok (.iconst 4, 1) := by decide +kernel
theorem dL_nights_958 : decode cL_nights 958 = .ok (.if_icmp .ne 45, 3) := by decide +kernel
theorem dL_nights_961 : decode cL_nights 961 = .ok (.aload_n 1, 1) := by decide +kernel
theorem dL_nights_962 : decode cL_nights 962 = .ok (.iconst 1, 1) := by decide +kernel
theorem dL_nights_963 : decode cL_nights 963 = .ok (.invokevirtual 59, 3) := by decide +kernel
theorem dL_nights_966 : decode cL_nights 966 = .ok (.iconst 1, 1) := by decide +kernel
theorem dL_nights_967 : decode cL_nights 967 = .ok (.if_icmp .ne 36, 3) := by decide +kernel
theorem dL_nights_970 : decode cL_nights 970 = .ok (.aload_n 1, 1) := by decide +kernel
theorem dL_nights_971 : decode cL_nights 971 = .ok (.bipush 6, 2) := by decide +kernel
theorem dL_nights_973 : decode cL_nights 973 = .ok (.invokevirtual 13, 3) := by decide +kernel
theorem dL_nights_976 : decode cL_nights 976 = .ok (.bipush 93, 2) := by decide +kernel
theorem dL_nights_978 : decode cL_nights 978 = .ok (.if_icmp .ne 25, 3) := by decide +kernel
theorem dL_nights_981 : decode cL_nights 981 = .ok (.aload_n 1, 1) := by decide +kernel
theorem dL_nights_982 : decode cL_nights 982 = .ok (.iconst 1, 1) := by decide +kernel
theorem dL_nights_983 : decode cL_nights 983 = .ok (.invokevirtual 13, 3) := by decide +kernel
theorem dL_nights_986 : decode cL_nights 986 = .ok (.bipush 6, 2) := by decide +kernel
theorem dL_nights_988 : decode cL_nights 988 = .ok (.if_icmp .ne 15, 3) := by decide +kernel
theorem dL_nights_991 : decode cL_nights 991 = .ok (.aload_n 1, 1) := by decide +kernel
theorem dL_nights_992 : decode cL_nights 992 = .ok (.iconst 0, 1) := by decide +kernel
theorem dL_nights_993 : decode cL_nights 993 = .ok (.iconst 4, 1) := by decide +kernel
theorem dL_nights_994 : decode cL_nights 994 = .ok (.bipush 6, 2) := by decide +kernel
theorem dL_nights_996 : decode cL_nights 996 = .ok (.iconst 0, 1) := by decide +kernel
theorem dL_nights_997 : decode cL_nights 997 = .ok (.invokestatic 87, 3) := by decide +kernel
theorem dL_nights_1000 : decode cL_nights 1000 = .ok (.ifCond .ne 5, 3) := by decide +kernel
theorem dL_nights_1003 : decode cL_nights 1003 = .ok (.iconst 0, 1) := by decide +kernel
theorem dL_nights_1004 : decode cL_nights 1004 = .ok (.ireturn, 1) := by decide +kernel
theorem dL_nights_1005 : decode cL_nights 1005 = .ok (.aload_n 1, 1) := by decide +kernel
theorem dL_nights_1006 : decode cL_nights 1006 = .ok (.invokestatic 91, 3) := by decide +kernel
theorem dL_nights_1009 : decode cL_nights 1009 = .ok (.ireturn, 1) := by decide +kernel
theorem dL_types_0 : decode cL_types 0 = .ok (.iconst 1, 1) := by decide +kernel
theorem dL_types_1 : decode cL_types 1 = .ok (.istore_n 3, 1) := by decide +kernel
theorem dL_types_2 : decode cL_types 2 = .ok (.bipush 56, 2) := by decide +kernel
theorem dL_types_4 : decode cL_types 4 = .ok (.istore 4, 2) := by decide +kernel
theorem dL_types_6 : decode cL_types 6 = .ok (.iload 4, 2) := by decide +kernel
theorem dL_types_8 : decode cL_types 8 = .ok (.ifCond .lt 45, 3) := by decide +kernel
theorem dL_types_11 : decode cL_types 11 = .ok (.lload_n 1, 1) := by decide +kernel
theorem dL_types_12 : decode cL_types 12 = .ok (.iload 4, 2) := by decide +kernel
theorem dL_types_14 : decode cL_types 14 = .ok (.lshr, 1) := by decide +kernel
theorem dL_types_15 : decode cL_types 15 = .ok (.ldc2_w 95, 3) := by decide +kernel
theorem dL_types_18 : decode cL_types 18 = .ok (.land, 1) := by decide +kernel
theorem dL_types_19 : decode cL_types 19 = .ok (.l2i, 1) := by decide +kernel
theorem dL_types_20 : decode cL_types 20 = .ok (.istore 5, 2) := by decide +kernel
theorem dL_types_22 : decode cL_types 22 = .ok (.iload_n 3, 1) := by decide +kernel
theorem dL_types_23 : decode cL_types 23 = .ok (.ifCond .eq 22, 3) := by decide +kernel
theorem dL_types_26 : decode cL_types 26 = .ok (.iload 5, 2) := by decide +kernel
theorem dL_types_28 : decode cL_types 28 = .ok (.ifCond .eq 13, 3) := by decide +kernel
theorem dL_types_31 : decode cL_types 31 = .ok (.aload_n 0, 1) := by decide +kernel
theorem dL_types_32 : decode cL_types 32 = .ok (.iload 5, 2) := by decide +kernel
theorem dL_types_34 : decode cL_types 34 = .ok (.i2c, 1) := by decide +kernel
theorem dL_types_35 : decode cL_types 35 = .ok (.invokevirtual 97, 3) := by decide +kernel
theorem dL_types_38 : decode cL_types 38 = .ok (.ifCond .le 7, 3) := by decide +kernel
theorem dL_types_41 : decode cL_types 41 = .ok (.iconst 1, 1) := by decide +kernel
theorem dL_types_42 : decode cL_types 42 = .ok (.goto 4, 3) := by decide +kernel
theorem dL_types_45 : decode cL_types 45 = .ok (.iconst 0, 1) := by decide +kernel
theorem dL_types_46 : decode cL_types 46 = .ok (.istore_n 3, 1) := by decide +kernel
theorem dL_types_47 : decode cL_types 47 = .ok (.iinc 4 (-8), 3) := by decide +kernel
theorem dL_types_50 : decode cL_types 50 = .ok (.goto (-44), 3) := by decide +kernel
theorem dL_types_53 : decode cL_types 53 = .ok (.iload_n 3, 1) := by decide +kernel
theorem dL_types_54 : decode cL_types 54 = .ok (.ireturn, 1) := by decide +kernel
theorem dL_faultOf_0 : decode cL_faultOf 0 = .ok (.new 14, 3) := by decide +kernel
theorem dL_faultOf_3 : decode cL_faultOf 3 = .ok (.dup, 1) := by decide +kernel
theorem dL_faultOf_4 : decode cL_faultOf 4 = .ok (.invokespecial 76, 3) := by decide +kernel
theorem dL_faultOf_7 : decode cL_faultOf 7 = .ok (.astore 4, 2) := by decide +kernel
theorem dL_faultOf_9 : decode cL_faultOf 9 = .ok (.aload 4, 2) := by decide +kernel
theorem dL_faultOf_11 : decode cL_faultOf 11 = .ok (.lload_n 0, 1) := by decide +kernel
theorem dL_faultOf_12 : decode cL_faultOf 12 = .ok (.invokestatic 101, 3) := by decide +kernel
theorem dL_faultOf_15 : decode cL_faultOf 15 = .ok (.ifCond .eq 12, 3) := by decide +kernel
theorem dL_faultOf_18 : decode cL_faultOf 18 = .ok (.aload 4, 2) := by decide +kernel
theorem dL_faultOf_20 : decode cL_faultOf 20 = .ok (.lload_n 2, 1) := by decide +kernel
theorem dL_faultOf_21 : decode cL_faultOf 21 = .ok (.invokestatic 101, 3) := by decide +kernel
theorem dL_faultOf_24 : decode cL_faultOf 24 = .ok (.ifCond .ne 6, 3) := by decide +kernel
theorem dL_faultOf_27 : decode cL_faultOf 27 = .ok (.bipush (-99), 2) := by decide +kernel
theorem dL_faultOf_29 : decode cL_faultOf 29 = .ok (.ireturn, 1) := by decide +kernel
theorem dL_faultOf_30 : decode cL_faultOf 30 = .ok (.aload 4, 2) := by decide +kernel
theorem dL_faultOf_32 : decode cL_faultOf 32 = .ok (.invokevirtual 105, 3) := by decide +kernel
theorem dL_faultOf_35 : decode cL_faultOf 35 = .ok (.istore 5, 2) := by decide +kernel
theorem dL_faultOf_37 : decode cL_faultOf 37 = .ok (.iload 5, 2) := by decide +kernel
theorem dL_faultOf_39 : decode cL_faultOf 39 = .ok (.ifCond .lt 7, 3) := by decide +kernel
theorem dL_faultOf_42 : decode cL_faultOf 42 = .ok (.iconst (-1), 1) := by decide +kernel
theorem dL_faultOf_43 : decode cL_faultOf 43 = .ok (.goto 8, 3) := by decide +kernel
theorem dL_faultOf_46 : decode cL_faultOf 46 = .ok (.bipush (-100), 2) := by decide +kernel
theorem dL_faultOf_48 : decode cL_faultOf 48 = .ok (.iload 5, 2) := by decide +kernel
theorem dL_faultOf_50 : decode cL_faultOf 50 = .ok (.isub, 1) := by decide +kernel
theorem dL_faultOf_51 : decode cL_faultOf 51 = .ok (.ireturn, 1) := by decide +kernel
theorem dL_texts_0 : decode cL_texts 0 = .ok (.lconst 0, 1) := by decide +kernel
theorem dL_texts_1 : decode cL_texts 1 = .ok (.lconst 0, 1) := by decide +kernel
theorem dL_texts_2 : decode cL_texts 2 = .ok (.invokestatic 108, 3) := by decide +kernel
theorem dL_texts_5 : decode cL_texts 5 = .ok (.ifCond .ne 93, 3) := by decide +kernel
theorem dL_texts_8 : decode cL_texts 8 = .ok (.ldc2_w 112, 3) := by decide +kernel
theorem dL_texts_11 : decode cL_texts 11 = .ok (.lconst 0, 1) := by decide +kernel
theorem dL_texts_12 : decode cL_texts 12 = .ok (.invokestatic 108, 3) := by decide +kernel
theorem dL_texts_15 : decode cL_texts 15 = .ok (.iconst 1, 1) := by decide +kernel
theorem dL_texts_16 : decode cL_texts 16 = .ok (.if_icmp .ne 82, 3) := by decide +kernel
theorem dL_texts_19 : decode cL_texts 19 = .ok (.ldc2_w 114, 3) := by decide +kernel
theorem dL_texts_22 : decode cL_texts 22 = .ok (.lconst 0, 1) := by decide +kernel
theorem dL_texts_23 : decode cL_texts 23 = .ok (.invokestatic 108, 3) := by decide +kernel
theorem dL_texts_26 : decode cL_texts 26 = .ok (.iconst 2, 1) := by decide +kernel
theorem dL_texts_27 : decode cL_texts 27 = .ok (.if_icmp .ne 71, 3) := by decide +kernel
theorem dL_texts_30 : decode cL_texts 30 = .ok (.ldc2_w 116, 3) := by decide +kernel
theorem dL_texts_33 : decode cL_texts 33 = .ok (.lconst 0, 1) := by decide +kernel
theorem dL_texts_34 : decode cL_texts 34 = .ok (.invokestatic 108, 3) := by decide +kernel
theorem dL_texts_37 : decode cL_texts 37 = .ok (.iconst 2, 1) := by decide +kernel
theorem dL_texts_38 : decode cL_texts 38 = .ok (.if_icmp .ne 60, 3) := by decide +kernel
theorem dL_texts_41 : decode cL_texts 41 = .ok (.ldc2_w 118, 3) := by decide +kernel
theorem dL_texts_44 : decode cL_texts 44 = .ok (.lconst 0, 1) := by decide +kernel
theorem dL_texts_45 : decode cL_texts 45 = .ok (.invokestatic 108, 3) := by decide +kernel
theorem dL_texts_48 : decode cL_texts 48 = .ok (.iconst 4, 1) := by decide +kernel
theorem dL_texts_49 : decode cL_texts 49 = .ok (.if_icmp .ne 49, 3) := by decide +kernel
theorem dL_texts_52 : decode cL_texts 52 = .ok (.ldc2_w 120, 3) := by decide +kernel
theorem dL_texts_55 : decode cL_texts 55 = .ok (.lconst 0, 1) := by decide +kernel
theorem dL_texts_56 : decode cL_texts 56 = .ok (.invokestatic 108, 3) := by decide +kernel
theorem dL_texts_59 : decode cL_texts 59 = .ok (.iconst 4, 1) := by decide +kernel
theorem dL_texts_60 : decode cL_texts 60 = .ok (.if_icmp .ne 38, 3) := by decide +kernel
theorem dL_texts_63 : decode cL_texts 63 = .ok (.ldc2_w 122, 3) := by decide +kernel
theorem dL_texts_66 : decode cL_texts 66 = .ok (.lconst 0, 1) := by decide +kernel
theorem dL_texts_67 : decode cL_texts 67 = .ok (.invokestatic 108, 3) := by decide +kernel
theorem dL_texts_70 : decode cL_texts 70 = .ok (.iconst (-1), 1) := by decide +kernel
theorem dL_texts_71 : decode cL_texts 71 = .ok (.if_icmp .ne 27, 3) := by decide +kernel
theorem dL_texts_74 : decode cL_texts 74 = .ok (.ldc2_w 124, 3) := by decide +kernel
theorem dL_texts_77 : decode cL_texts 77 = .ok (.lconst 0, 1) := by decide +kernel
theorem dL_texts_78 : decode cL_texts 78 = .ok (.invokestatic 108, 3) := by decide +kernel
theorem dL_texts_81 : decode cL_texts 81 = .ok (.iconst 1, 1) := by decide +kernel
theorem dL_texts_82 : decode cL_texts 82 = .ok (.if_icmp .ne 16, 3) := by decide +kernel
theorem dL_texts_85 : decode cL_texts 85 = .ok (.ldc2_w 126, 3) := by decide +kernel
theorem dL_texts_88 : decode cL_texts 88 = .ok (.ldc2_w 128, 3) := by decide +kernel
theorem dL_texts_91 : decode cL_texts 91 = .ok (.invokestatic 108, 3) := by decide +kernel
theorem dL_texts_94 : decode cL_texts 94 = .ok (.iconst 4, 1) := by decide +kernel
theorem dL_texts_95 : decode cL_texts 95 = .ok (.if_icmp .eq 5, 3) := by decide +kernel
theorem dL_texts_98 : decode cL_texts 98 = .ok (.iconst 0, 1) := by decide +kernel
theorem dL_texts_99 : decode cL_texts 99 = .ok (.ireturn, 1) := by decide +kernel
theorem dL_texts_100 : decode cL_texts 100 = .ok (.ldc2_w 130, 3) := by decide +kernel
theorem dL_texts_103 : decode cL_texts 103 = .ok (.lconst 0, 1) := by decide +kernel
theorem dL_texts_104 : decode cL_texts 104 = .ok (.invokestatic 108, 3) := by decide +kernel
theorem dL_texts_107 : decode cL_texts 107 = .ok (.iconst (-1), 1) := by decide +kernel
theorem dL_texts_108 : decode cL_texts 108 = .ok (.if_icmp .ne 83, 3) := by decide +kernel
theorem dL_texts_111 : decode cL_texts 111 = .ok (.ldc2_w 132, 3) := by decide +kernel
theorem dL_texts_114 : decode cL_texts 114 = .ok (.lconst 0, 1) := by decide +kernel
theorem dL_texts_115 : decode cL_texts 115 = .ok (.invokestatic 108, 3) := by decide +kernel
theorem dL_texts_118 : decode cL_texts 118 = .ok (.bipush 6, 2) := by decide +kernel
theorem dL_texts_120 : decode cL_texts 120 = .ok (.if_icmp .ne 71, 3) := by decide +kernel
theorem dL_texts_123 : decode cL_texts 123 = .ok (.ldc2_w 134, 3) := by decide +kernel
theorem dL_texts_126 : decode cL_texts 126 = .ok (.lconst 0, 1) := by decide +kernel
theorem dL_texts_127 : decode cL_texts 127 = .ok (.invokestatic 108, 3) := by decide +kernel
theorem dL_texts_130 : decode cL_texts 130 = .ok (.iconst 5, 1) := by decide +kernel
theorem dL_texts_131 : decode cL_texts 131 = .ok (.if_icmp .ne 60, 3) := by decide +kernel
theorem dL_texts_134 : decode cL_texts 134 = .ok (.ldc2_w 136, 3) := by decide +kernel
theorem dL_texts_137 : decode cL_texts 137 = .ok (.ldc2_w 138, 3) := by decide +kernel
theorem dL_texts_140 : decode cL_texts 140 = .ok (.invokestatic 108, 3) := by decide +kernel
theorem dL_texts_143 : decode cL_texts 143 = .ok (.iconst (-1), 1) := by decide +kernel
theorem dL_texts_144 : decode cL_texts 144 = .ok (.if_icmp .ne 47, 3) := by decide +kernel
theorem dL_texts_147 : decode cL_texts 147 = .ok (.ldc2_w 140, 3) := by decide +kernel
theorem dL_texts_150 : decode cL_texts 150 = .ok (.lconst 0, 1) := by decide +kernel
theorem dL_texts_151 : decode cL_texts 151 = .ok (.invokestatic 108, 3) := by decide +kernel
theorem dL_texts_154 : decode cL_texts 154 = .ok (.iconst 3, 1) := by decide +kernel
theorem dL_texts_155 : decode cL_texts 155 = .ok (.if_icmp .ne 36, 3) := by decide +kernel
theorem dL_texts_158 : decode cL_texts 158 = .ok (.ldc2_w 142, 3) := by decide +kernel
theorem dL_texts_161 : decode cL_texts 161 = .ok (.lconst 0, 1) := by decide +kernel
theorem dL_texts_162 : decode cL_texts 162 = .ok (.invokestatic 108, 3) := by decide +kernel
theorem dL_texts_165 : decode cL_texts 165 = .ok (.ifCond .ne 26, 3) := by decide +kernel
theorem dL_texts_168 : decode cL_texts 168 = .ok (.ldc2_w 144, 3) := by decide +kernel
theorem dL_texts_171 : decode cL_texts 171 = .ok (.lconst 0, 1) := by decide +kernel
theorem dL_texts_172 : decode cL_texts 172 = .ok (.invokestatic 108, 3) := by decide +kernel
theorem dL_texts_175 : decode cL_texts 175 = .ok (.iconst 5, 1) := by decide +kernel
theorem dL_texts_176 : decode cL_texts 176 = .ok (.if_icmp .ne 15, 3) := by decide +kernel
theorem dL_texts_179 : decode cL_texts 179 = .ok (.ldc2_w 146, 3) := by decide +kernel
theorem dL_texts_182 : decode cL_texts 182 = .ok (.lconst 0, 1) := by decide +kernel
theorem dL_texts_183 : decode cL_texts 183 = .ok (.invokestatic 108, 3) := by decide +kernel
theorem dL_texts_186 : decode cL_texts 186 = .ok (.bipush 6, 2) := by decide +kernel
theorem dL_texts_188 : decode cL_texts 188 = .ok (.if_icmp .eq 5, 3) := by decide +kernel
theorem dL_texts_191 : decode cL_texts 191 = .ok (.iconst 0, 1) := by decide +kernel
theorem dL_texts_192 : decode cL_texts 192 = .ok (.ireturn, 1) := by decide +kernel
theorem dL_texts_193 : decode cL_texts 193 = .ok (.new 14, 3) := by decide +kernel
theorem dL_texts_196 : decode cL_texts 196 = .ok (.dup, 1) := by decide +kernel
theorem dL_texts_197 : decode cL_texts 197 = .ok (.invokespecial 76, 3) := by decide +kernel
theorem dL_texts_200 : decode cL_texts 200 = .ok (.astore_n 0, 1) := by decide +kernel
theorem dL_texts_201 : decode cL_texts 201 = .ok (.aload_n 0, 1) := by decide +kernel
theorem dL_texts_202 : decode cL_texts 202 = .ok (.ldc2_w 148, 3) := by decide +kernel
theorem dL_texts_205 : decode cL_texts 205 = .ok (.invokestatic 101, 3) := by decide +kernel
theorem dL_texts_208 : decode cL_texts 208 = .ok (.ifCond .eq 140, 3) := by decide +kernel
theorem dL_texts_211 : decode cL_texts 211 = .ok (.aload_n 0, 1) := by decide +kernel
theorem dL_texts_212 : decode cL_texts 212 = .ok (.ldc2_w 150, 3) := by decide +kernel
theorem dL_texts_215 : decode cL_texts 215 = .ok (.invokestatic 101, 3) := by decide +kernel
theorem dL_texts_218 : decode cL_texts 218 = .ok (.ifCond .eq 130, 3) := by decide +kernel
theorem dL_texts_221 : decode cL_texts 221 = .ok (.aload_n 0, 1) := by decide +kernel
theorem dL_texts_222 : decode cL_texts 222 = .ok (.ldc2_w 152, 3) := by decide +kernel
theorem dL_texts_225 : decode cL_texts 225 = .ok (.invokestatic 101, 3) := by decide +kernel
theorem dL_texts_228 : decode cL_texts 228 = .ok (.ifCond .eq 120, 3) := by decide +kernel
theorem dL_texts_231 : decode cL_texts 231 = .ok (.aload_n 0, 1) := by decide +kernel
theorem dL_texts_232 : decode cL_texts 232 = .ok (.bipush 13, 2) := by decide +kernel
theorem dL_texts_234 : decode cL_texts 234 = .ok (.invokevirtual 13, 3) := by decide +kernel
theorem dL_texts_237 : decode cL_texts 237 = .ok (.bipush 17, 2) := by decide +kernel
theorem dL_texts_239 : decode cL_texts 239 = .ok (.if_icmp .ne 109, 3) := by decide +kernel
theorem dL_texts_242 : decode cL_texts 242 = .ok (.aload_n 0, 1) := by decide +kernel
theorem dL_texts_243 : decode cL_texts 243 = .ok (.invokevirtual 105, 3) := by decide +kernel
theorem dL_texts_246 : decode cL_texts 246 = .ok (.iconst 2, 1) := by decide +kernel
theorem dL_texts_247 : decode cL_texts 247 = .ok (.if_icmp .ne 101, 3) := by decide +kernel
theorem dL_texts_250 : decode cL_texts 250 = .ok (.aload_n 0, 1) := by decide +kernel
theorem dL_texts_251 : decode cL_texts 251 = .ok (.iconst 0, 1) := by decide +kernel
theorem dL_texts_252 : decode cL_texts 252 = .ok (.iconst 0, 1) := by decide +kernel
theorem dL_texts_253 : decode cL_texts 253 = .ok (.invokevirtual 26, 3) := by decide +kernel
theorem dL_texts_256 : decode cL_texts 256 = .ok (.iconst 3, 1) := by decide +kernel
theorem dL_texts_257 : decode cL_texts 257 = .ok (.if_icmp .ne 91, 3) := by decide +kernel
theorem dL_texts_260 : decode cL_texts 260 = .ok (.aload_n 0, 1) := by decide +kernel
theorem dL_texts_261 : decode cL_texts 261 = .ok (.iconst 1, 1) := by decide +kernel
theorem dL_texts_262 : decode cL_texts 262 = .ok (.iconst 0, 1) := by decide +kernel
theorem dL_texts_263 : decode cL_texts 263 = .ok (.invokevirtual 26, 3) := by decide +kernel
theorem dL_texts_266 : decode cL_texts 266 = .ok (.bipush 7, 2) := by decide +kernel
theorem dL_texts_268 : decode cL_texts 268 = .ok (.if_icmp .ne 80, 3) := by decide +kernel
theorem dL_texts_271 : decode cL_texts 271 = .ok (.aload_n 0, 1) := by decide +kernel
theorem dL_texts_272 : decode cL_texts 272 = .ok (.iconst 1, 1) := by decide +kernel
theorem dL_texts_273 : decode cL_texts 273 = .ok (.iconst 1, 1) := by decide +kernel
theorem dL_texts_274 : decode cL_texts 274 = .ok (.invokevirtual 26, 3) := by decide +kernel
theorem dL_texts_277 : decode cL_texts 277 = .ok (.iconst 1, 1) := by decide +kernel
theorem dL_texts_278 : decode cL_texts 278 = .ok (.if_icmp .ne 70, 3) := by decide +kernel
theorem dL_texts_281 : decode cL_texts 281 = .ok (.aload_n 0, 1) := by decide +kernel
theorem dL_texts_282 : decode cL_texts 282 = .ok (.iconst 1, 1) := by decide +kernel
theorem dL_texts_283 : decode cL_texts 283 = .ok (.iconst 2, 1) := by decide +kernel
theorem dL_texts_284 : decode cL_texts 284 = .ok (.invokevirtual 26, 3) := by decide +kernel
theorem dL_texts_287 : decode cL_texts 287 = .ok (.iconst 2, 1) := by decide +kernel
theorem dL_texts_288 : decode cL_texts 288 = .ok (.if_icmp .ne 60, 3) := by decide +kernel
theorem dL_texts_291 : decode cL_texts 291 = .ok (.aload_n 0, 1) := by decide +kernel
theorem dL_texts_292 : decode cL_texts 292 = .ok (.iconst 2, 1) := by decide +kernel
theorem dL_texts_293 : decode cL_texts 293 = .ok (.iconst 0, 1) := by decide +kernel
theorem dL_texts_294 : decode cL_texts 294 = .ok (.invokevirtual 26, 3) := by decide +kernel
theorem dL_texts_297 : decode cL_texts 297 = .ok (.bipush (-5), 2) := by decide +kernel
theorem dL_texts_299 : decode cL_texts 299 = .ok (.if_icmp .ne 49, 3) := by decide +kernel
theorem dL_texts_302 : decode cL_texts 302 = .ok (.aload_n 0, 1) := by decide +kernel
theorem dL_texts_303 : decode cL_texts 303 = .ok (.bipush 12, 2) := by decide +kernel
theorem dL_texts_305 : decode cL_texts 305 = .ok (.invokevirtual 13, 3) := by decide +kernel
theorem dL_texts_308 : decode cL_texts 308 = .ok (.iconst 1, 1) := by decide +kernel
theorem dL_texts_309 : decode cL_texts 309 = .ok (.if_icmp .ne 39, 3) := by decide +kernel
theorem dL_texts_312 : decode cL_texts 312 = .ok (.aload_n 0, 1) := by decide +kernel
theorem dL_texts_313 : decode cL_texts 313 = .ok (.invokevirtual 105, 3) := by decide +kernel
theorem dL_texts_316 : decode cL_texts 316 = .ok (.iconst 2, 1) := by decide +kernel
theorem dL_texts_317 : decode cL_texts 317 = .ok (.if_icmp .ne 31, 3) := by decide +kernel
theorem dL_texts_320 : decode cL_texts 320 = .ok (.aload_n 0, 1) := by decide +kernel
theorem dL_texts_321 : decode cL_texts 321 = .ok (.bipush 12, 2) := by decide +kernel
theorem dL_texts_323 : decode cL_texts 323 = .ok (.invokevirtual 13, 3) := by decide +kernel
theorem dL_texts_326 : decode cL_texts 326 = .ok (.iconst 2, 1) := by decide +kernel
theorem dL_texts_327 : decode cL_texts 327 = .ok (.if_icmp .ne 21, 3) := by decide +kernel
theorem dL_texts_330 : decode cL_texts 330 = .ok (.aload_n 0, 1) := by decide +kernel
theorem dL_texts_331 : decode cL_texts 331 = .ok (.invokevirtual 154, 3) := by decide +kernel
theorem dL_texts_334 : decode cL_texts 334 = .ok (.bipush 17, 2) := by decide +kernel
theorem dL_texts_336 : decode cL_texts 336 = .ok (.if_icmp .ne 12, 3) := by decide +kernel
theorem dL_texts_339 : decode cL_texts 339 = .ok (.aload_n 0, 1) := by decide +kernel
theorem dL_texts_340 : decode cL_texts 340 = .ok (.invokevirtual 105, 3) := by decide +kernel
theorem dL_texts_343 : decode cL_texts 343 = .ok (.bipush (-100), 2) := by decide +kernel
theorem dL_texts_345 : decode cL_texts 345 = .ok (.if_icmp .eq 5, 3) := by decide +kernel
theorem dL_texts_348 : decode cL_texts 348 = .ok (.iconst 0, 1) := by decide +kernel
theorem dL_texts_349 : decode cL_texts 349 = .ok (.ireturn, 1) := by decide +kernel
theorem dL_texts_350 : decode cL_texts 350 = .ok (.iconst 0, 1) := by decide +kernel
theorem dL_texts_351 : decode cL_texts 351 = .ok (.istore_n 1, 1) := by decide +kernel
theorem dL_texts_352 : decode cL_texts 352 = .ok (.iload_n 1, 1) := by decide +kernel
theorem dL_texts_353 : decode cL_texts 353 = .ok (.bipush 60, 2) := by decide +kernel
theorem dL_texts_355 : decode cL_texts 355 = .ok (.if_icmp .ge 23, 3) := by decide +kernel
theorem dL_texts_358 : decode cL_texts 358 = .ok (.aload_n 0, 1) := by decide +kernel
theorem dL_texts_359 : decode cL_texts 359 = .ok (.bipush 55, 2) := by decide +kernel
theorem dL_texts_361 : decode cL_texts 361 = .ok (.invokevirtual 97, 3) := by decide +kernel
theorem dL_texts_364 : decode cL_texts 364 = .ok (.iload_n 1, 1) := by decide +kernel
theorem dL_texts_365 : decode cL_texts 365 = .ok (.iconst 1, 1) := by decide +kernel
theorem dL_texts_366 : decode cL_texts 366 = .ok (.iadd, 1) := by decide +kernel
theorem dL_texts_367 : decode cL_texts 367 = .ok (.if_icmp .eq 5, 3) := by decide +kernel
theorem dL_texts_370 : decode cL_texts 370 = .ok (.iconst 0, 1) := by decide +kernel
theorem dL_texts_371 : decode cL_texts 371 = .ok (.ireturn, 1) := by decide +kernel
theorem dL_texts_372 : decode cL_texts 372 = .ok (.iinc 1 1, 3) := by decide +kernel
theorem dL_texts_375 : decode cL_texts 375 = .ok (.goto (-23), 3) := by decide +kernel
theorem dL_texts_378 : decode cL_texts 378 = .ok (.aload_n 0, 1) := by decide +kernel
theorem dL_texts_379 : decode cL_texts 379 = .ok (.bipush 55, 2) := by decide +kernel
theorem dL_texts_381 : decode cL_texts 381 = .ok (.invokevirtual 97, 3) := by decide +kernel
theorem dL_texts_384 : decode cL_texts 384 = .ok (.bipush (-3), 2) := by decide +kernel
theorem dL_texts_386 : decode cL_texts 386 = .ok (.if_icmp .ne 25, 3) := by decide +kernel
theorem dL_texts_389 : decode cL_texts 389 = .ok (.aload_n 0, 1) := by decide +kernel
theorem dL_texts_390 : decode cL_texts 390 = .ok (.invokevirtual 105, 3) := by decide +kernel
theorem dL_texts_393 : decode cL_texts 393 = .ok (.bipush (-104), 2) := by decide +kernel
theorem dL_texts_395 : decode cL_texts 395 = .ok (.if_icmp .ne 16, 3) := by decide +kernel
theorem dL_texts_398 : decode cL_texts 398 = .ok (.aload_n 0, 1) := by decide +kernel
theorem dL_texts_399 : decode cL_texts 399 = .ok (.invokevirtual 154, 3) := by decide +kernel
theorem dL_texts_402 : decode cL_texts 402 = .ok (.bipush 60, 2) := by decide +kernel
theorem dL_texts_404 : decode cL_texts 404 = .ok (.if_icmp .ne 7, 3) := by decide +kernel
theorem dL_texts_407 : decode cL_texts 407 = .ok (.iconst 1, 1) := by decide +kernel
theorem dL_texts_408 : decode cL_texts 408 = .ok (.goto 4, 3) := by decide +kernel
theorem dL_texts_411 : decode cL_texts 411 = .ok (.iconst 0, 1) := by decide +kernel
theorem dL_texts_412 : decode cL_texts 412 = .ok (.ireturn, 1) := by decide +kernel
theorem dL_law_0 : decode cL_law 0 = .ok (.invokestatic 157, 3) := by decide +kernel
theorem dL_law_3 : decode cL_law 3 = .ok (.ifCond .eq 9, 3) := by decide +kernel
theorem dL_law_6 : decode cL_law 6 = .ok (.invokestatic 161, 3) := by decide +kernel
theorem dL_law_9 : decode cL_law 9 = .ok (.ifCond .ne 5, 3) := by decide +kernel
theorem dL_law_12 : decode cL_law 12 = .ok (.iconst 0, 1) := by decide +kernel
theorem dL_law_13 : decode cL_law 13 = .ok (.ireturn, 1) := by decide +kernel
theorem dL_law_14 : decode cL_law 14 = .ok (.new 14, 3) := by decide +kernel
theorem dL_law_17 : decode cL_law 17 = .ok (.dup, 1) := by decide +kernel
theorem dL_law_18 : decode cL_law 18 = .ok (.invokespecial 76, 3) := by decide +kernel
theorem dL_law_21 : decode cL_law 21 = .ok (.astore_n 1, 1) := by decide +kernel
theorem dL_law_22 : decode cL_law 22 = .ok (.bipush 64, 2) := by decide +kernel
theorem dL_law_24 : decode cL_law 24 = .ok (.newarray .long, 2) := by decide +kernel
theorem dL_law_26 : decode cL_law 26 = .ok (.astore_n 2, 1) := by decide +kernel
theorem dL_law_27 : decode cL_law 27 = .ok (.iconst 0, 1) := by decide +kernel
theorem dL_law_28 : decode cL_law 28 = .ok (.istore_n 3, 1) := by decide +kernel
theorem dL_law_29 : decode cL_law 29 = .ok (.iconst 0, 1) := by decide +kernel
theorem dL_law_30 : decode cL_law 30 = .ok (.istore 4, 2) := by decide +kernel
theorem dL_law_32 : decode cL_law 32 = .ok (.iload 4, 2) := by decide +kernel
theorem dL_law_34 : decode cL_law 34 = .ok (.bipush 24, 2) := by decide +kernel
theorem dL_law_36 : decode cL_law 36 = .ok (.if_icmp .ge 319, 3) := by decide +kernel
theorem dL_law_39 : decode cL_law 39 = .ok (.aload_n 0, 1) := by decide +kernel
theorem dL_law_40 : decode cL_law 40 = .ok (.iload 4, 2) := by decide +kernel
theorem dL_law_42 : decode cL_law 42 = .ok (.invokestatic 164, 3) := by decide +kernel
theorem dL_law_45 : decode cL_law 45 = .ok (.istore 5, 2) := by decide +kernel
theorem dL_law_47 : decode cL_law 47 = .ok (.iload 5, 2) := by decide +kernel
theorem dL_law_49 : decode cL_law 49 = .ok (.bipush 9, 2) := by decide +kernel
theorem dL_law_51 : decode cL_law 51 = .ok (.invokestatic 168, 3) := by decide +kernel
theorem dL_law_54 : decode cL_law 54 = .ok (.istore 6, 2) := by decide +kernel
theorem dL_law_56 : decode cL_law 56 = .ok (.aload_n 2, 1) := by decide +kernel
theorem dL_law_57 : decode cL_law 57 = .ok (.iload_n 3, 1) := by decide +kernel
theorem dL_law_58 : decode cL_law 58 = .ok (.aload_n 1, 1) := by decide +kernel
theorem dL_law_59 : decode cL_law 59 = .ok (.invokestatic 68, 3) := by decide +kernel
theorem dL_law_62 : decode cL_law 62 = .ok (.lastore, 1) := by decide +kernel
theorem dL_law_63 : decode cL_law 63 = .ok (.aload_n 1, 1) := by decide +kernel
theorem dL_law_64 : decode cL_law 64 = .ok (.bipush 12, 2) := by decide +kernel
theorem dL_law_66 : decode cL_law 66 = .ok (.invokevirtual 13, 3) := by decide +kernel
theorem dL_law_69 : decode cL_law 69 = .ok (.istore 7, 2) := by decide +kernel
theorem dL_law_71 : decode cL_law 71 = .ok (.iload 5, 2) := by decide +kernel
theorem dL_law_73 : decode cL_law 73 = .ok (.iconst 4, 1) := by decide +kernel
theorem dL_law_74 : decode cL_law 74 = .ok (.ishr, 1) := by decide +kernel
theorem dL_law_75 : decode cL_law 75 = .ok (.bipush 6, 2) := by decide +kernel
theorem dL_law_77 : decode cL_law 77 = .ok (.invokestatic 168, 3) := by decide +kernel
theorem dL_law_80 : decode cL_law 80 = .ok (.istore 8, 2) := by decide +kernel
theorem dL_law_82 : decode cL_law 82 = .ok (.iload 6, 2) := by decide +kernel
theorem dL_law_84 : decode cL_law 84 = .ok (.ifCond .ne 28, 3) := by decide +kernel
theorem dL_law_87 : decode cL_law 87 = .ok (.aload_n 1, 1) := by decide +kernel
theorem dL_law_88 : decode cL_law 88 = .ok (.iload 5, 2) := by decide +kernel
theorem dL_law_90 : decode cL_law 90 = .ok (.iconst 4, 1) := by decide +kernel
theorem dL_law_91 : decode cL_law 91 = .ok (.ishr, 1) := by decide +kernel
theorem dL_law_92 : decode cL_law 92 = .ok (.iconst 4, 1) := by decide +kernel
theorem dL_law_93 : decode cL_law 93 = .ok (.invokestatic 168, 3) := by decide +kernel
theorem dL_law_96 : decode cL_law 96 = .ok (.iload 5, 2) := by decide +kernel
theorem dL_law_98 : decode cL_law 98 = .ok (.bipush 7, 2) := by decide +kernel
theorem dL_law_100 : decode cL_law 100 = .ok (.ishr, 1) := by decide +kernel
theorem dL_law_101 : decode cL_law 101 = .ok (.bipush 6, 2) := by decide +kernel
theorem dL_law_103 : decode cL_law 103 = .ok (.invokestatic 168, 3) := by decide +kernel
theorem dL_law_106 : decode cL_law 106 = .ok (.invokevirtual 35, 3) := by decide +kernel
theorem dL_law_109 : decode cL_law 109 = .ok (.goto 196, 3) := by decide +kernel
theorem dL_law_112 : decode cL_law 112 = .ok (.iload 6, 2) := by decide +kernel
theorem dL_law_114 : decode cL_law 114 = .ok (.iconst 1, 1) := by decide +kernel
theorem dL_law_115 : decode cL_law 115 = .ok (.if_icmp .ne 29, 3) := by decide +kernel
theorem dL_law_118 : decode cL_law 118 = .ok (.aload_n 1, 1) := by decide +kernel
theorem dL_law_119 : decode cL_law 119 = .ok (.iload 5, 2) := by decide +kernel
theorem dL_law_121 : decode cL_law 121 = .ok (.iconst 4, 1) := by decide +kernel
theorem dL_law_122 : decode cL_law 122 = .ok (.ishr, 1) := by decide +kernel
theorem dL_law_123 : decode cL_law 123 = .ok (.bipush 48, 2) := by decide +kernel
theorem dL_law_125 : decode cL_law 125 = .ok (.invokestatic 168, 3) := by decide +kernel
theorem dL_law_128 : decode cL_law 128 = .ok (.iload 5, 2) := by decide +kernel
theorem dL_law_130 : decode cL_law 130 = .ok (.bipush 10, 2) := by decide +kernel
theorem dL_law_132 : decode cL_law 132 = .ok (.ishr, 1) := by decide +kernel
theorem dL_law_133 : decode cL_law 133 = .ok (.bipush 48, 2) := by decide +kernel
theorem dL_law_135 : decode cL_law 135 = .ok (.invokestatic 168, 3) := by decide +kernel
theorem dL_law_138 : decode cL_law 138 = .ok (.invokevirtual 40, 3) := by decide +kernel
theorem dL_law_141 : decode cL_law 141 = .ok (.goto 164, 3) := by decide +kernel
theorem dL_law_144 : decode cL_law 144 = .ok (.iload 6, 2) := by decide +kernel
theorem dL_law_146 : decode cL_law 146 = .ok (.iconst 2, 1) := by decide +kernel
theorem dL_law_147 : decode cL_law 147 = .ok (.if_icmp .ne 34, 3) := by decide +kernel
theorem dL_law_150 : decode cL_law 150 = .ok (.aload_n 1, 1) := by decide +kernel
theorem dL_law_151 : decode cL_law 151 = .ok (.iload 8, 2) := by decide +kernel
theorem dL_law_153 : decode cL_law 153 = .ok (.iload 5, 2) := by decide +kernel
theorem dL_law_155 : decode cL_law 155 = .ok (.bipush 7, 2) := by decide +kernel
theorem dL_law_157 : decode cL_law 157 = .ok (.ishr, 1) := by decide +kernel
theorem dL_law_158 : decode cL_law 158 = .ok (.iconst 3, 1) := by decide +kernel
theorem dL_law_159 : decode cL_law 159 = .ok (.invokestatic 168, 3) := by decide +kernel
theorem dL_law_162 : decode cL_law 162 = .ok (.bipush 50, 2) := by decide +kernel
theorem dL_law_164 : decode cL_law 164 = .ok (.iload 5, 2) := by decide +kernel
theorem dL_law_166 : decode cL_law 166 = .ok (.bipush 9, 2) := by decide +kernel
theorem dL_law_168 : decode cL_law 168 = .ok (.ishr, 1) := by decide +kernel
theorem dL_law_169 : decode cL_law 169 = .ok (.bipush 101, 2) := by decide +kernel
theorem dL_law_171 : decode cL_law 171 = .ok (.invokestatic 168, 3) := by decide +kernel
theorem dL_law_174 : decode cL_law 174 = .ok (.iadd, 1) := by decide +kernel
theorem dL_law_175 : decode cL_law 175 = .ok (.invokevirtual 43, 3) := by decide +kernel
theorem dL_law_178 : decode cL_law 178 = .ok (.goto 127, 3) := by decide +kernel
theorem dL_law_181 : decode cL_law 181 = .ok (.iload 6, 2) := by decide +kernel
theorem dL_law_183 : decode cL_law 183 = .ok (.iconst 3, 1) := by decide +kernel
theorem dL_law_184 : decode cL_law 184 = .ok (.if_icmp .ne 12, 3) := by decide +kernel
theorem dL_law_187 : decode cL_law 187 = .ok (.aload_n 1, 1) := by decide +kernel
theorem dL_law_188 : decode cL_law 188 = .ok (.iload 8, 2) := by decide +kernel
theorem dL_law_190 : decode cL_law 190 = .ok (.invokevirtual 47, 3) := by decide +kernel
theorem dL_law_193 : decode cL_law 193 = .ok (.goto 112, 3) := by decide +kernel
theorem dL_law_196 : decode cL_law 196 = .ok (.iload 6, 2) := by decide +kernel
theorem dL_law_198 : decode cL_law 198 = .ok (.iconst 4, 1) := by decide +kernel
theorem dL_law_199 : decode cL_law 199 = .ok (.if_icmp .ne 12, 3) := by decide +kernel
theorem dL_law_202 : decode cL_law 202 = .ok (.aload_n 1, 1) := by decide +kernel
theorem dL_law_203 : decode cL_law 203 = .ok (.iload 8, 2) := by decide +kernel
theorem dL_law_205 : decode cL_law 205 = .ok (.invokevirtual 50, 3) := by decide +kernel
theorem dL_law_208 : decode cL_law 208 = .ok (.goto 97, 3) := by decide +kernel
theorem dL_law_211 : decode cL_law 211 = .ok (.iload 6, 2) := by decide +kernel
theorem dL_law_213 : decode cL_law 213 = .ok (.iconst 5, 1) := by decide +kernel
theorem dL_law_214 : decode cL_law 214 = .ok (.if_icmp .ne 30, 3) := by decide +kernel
theorem dL_law_217 : decode cL_law 217 = .ok (.aload_n 1, 1) := by decide +kernel
theorem dL_law_218 : decode cL_law 218 = .ok (.iload 5, 2) := by decide +kernel
theorem dL_law_220 : decode cL_law 220 = .ok (.iconst 4, 1) := by decide +kernel
theorem dL_law_221 : decode cL_law 221 = .ok (.ishr, 1) := by decide +kernel
theorem dL_law_222 : decode cL_law 222 = .ok (.iconst 3, 1) := by decide +kernel
theorem dL_law_223 : decode cL_law 223 = .ok (.invokestatic 168, 3) := by decide +kernel
theorem dL_law_226 : decode cL_law 226 = .ok (.iconst 1, 1) := by decide +kernel
theorem dL_law_227 : decode cL_law 227 = .ok (.iload 5, 2) := by decide +kernel
theorem dL_law_229 : decode cL_law 229 = .ok (.bipush 6, 2) := by decide +kernel
theorem dL_law_231 : decode cL_law 231 = .ok (.ishr, 1) := by decide +kernel
theorem dL_law_232 : decode cL_law 232 = .ok (.bipush 6, 2) := by decide +kernel
theorem dL_law_234 : decode cL_law 234 = .ok (.invokestatic 168, 3) := by decide +kernel
theorem dL_law_237 : decode cL_law 237 = .ok (.iadd, 1) := by decide +kernel
theorem dL_law_238 : decode cL_law 238 = .ok (.invokevirtual 53, 3) := by decide +kernel
theorem dL_law_241 : decode cL_law 241 = .ok (.goto 64, 3) := by decide +kernel
theorem dL_law_244 : decode cL_law 244 = .ok (.iload 6, 2) := by decide +kernel
theorem dL_law_246 : decode cL_law 246 = .ok (.bipush 6, 2) := by decide +kernel
theorem dL_law_248 : decode cL_law 248 = .ok (.if_icmp .ne 41, 3) := by decide +kernel
theorem dL_law_251 : decode cL_law 251 = .ok (.aload_n 1, 1) := by decide +kernel
theorem dL_law_252 : decode cL_law 252 = .ok (.iload 5, 2) := by decide +kernel
theorem dL_law_254 : decode cL_law 254 = .ok (.iconst 4, 1) := by decide +kernel
theorem dL_law_255 : decode cL_law 255 = .ok (.ishr, 1) := by decide +kernel
theorem dL_law_256 : decode cL_law 256 = .ok (.sipush 900, 3) := by decide +kernel
theorem dL_law_259 : decode cL_law 259 = .ok (.invokestatic 168, 3) := by decide +kernel
theorem dL_law_262 : decode cL_law 262 = .ok (.iload 5, 2) := by decide +kernel
theorem dL_law_264 : decode cL_law 264 = .ok (.bipush 14, 2) := by decide +kernel
theorem dL_law_266 : decode cL_law 266 = .ok (.ishr, 1) := by decide +kernel
theorem dL_law_267 : decode cL_law 267 = .ok (.iconst 3, 1) := by decide +kernel
theorem dL_law_268 : decode cL_law 268 = .ok (.invokestatic 168, 3) := by decide +kernel
theorem dL_law_271 : decode cL_law 271 = .ok (.iconst 1, 1) := by decide +kernel
theorem dL_law_272 : decode cL_law 272 = .ok (.iload 5, 2) := by decide +kernel
theorem dL_law_274 : decode cL_law 274 = .ok (.bipush 16, 2) := by decide +kernel
theorem dL_law_276 : decode cL_law 276 = .ok (.ishr, 1) := by decide +kernel
theorem dL_law_277 : decode cL_law 277 = .ok (.bipush 6, 2) := by decide +kernel
theorem dL_law_279 : decode cL_law 279 = .ok (.invokestatic 168, 3) := by decide +kernel
theorem dL_law_282 : decode cL_law 282 = .ok (.iadd, 1) := by decide +kernel
theorem dL_law_283 : decode cL_law 283 = .ok (.invokevirtual 56, 3) := by decide +kernel
theorem dL_law_286 : decode cL_law 286 = .ok (.goto 19, 3) := by decide +kernel
theorem dL_law_289 : decode cL_law 289 = .ok (.aload_n 1, 1) := by decide +kernel
theorem dL_law_290 : decode cL_law 290 = .ok (.iconst 1, 1) := by decide +kernel
theorem dL_law_291 : decode cL_law 291 = .ok (.iload 5, 2) := by decide +kernel
theorem dL_law_293 : decode cL_law 293 = .ok (.iconst 4, 1) := by decide +kernel
theorem dL_law_294 : decode cL_law 294 = .ok (.ishr, 1) := by decide +kernel
theorem dL_law_295 : decode cL_law 295 = .ok (.sipush 200, 3) := by decide +kernel
