/-! decode rows (by program) -/
theorem dx_X12_init_0 : decode (go_cc mx_X12_init) 0 = .ok (.aload_n 0, 1) := by decide +kernel
theorem dx_X12_init_1 : decode (go_cc mx_X12_init) 1 = .ok (.invokespecial 1, 3) := by decide +kernel
theorem dx_X12_init_4 : decode (go_cc mx_X12_init) 4 = .ok (.aload_n 0, 1) := by decide +kernel
theorem dx_X12_init_5 : decode (go_cc mx_X12_init) 5 = .ok (.sipush 384, 3) := by decide +kernel
theorem dx_X12_init_8 : decode (go_cc mx_X12_init) 8 = .ok (.newarray .int, 2) := by decide +kernel
theorem dx_X12_init_10 : decode (go_cc mx_X12_init) 10 = .ok (.putfield 7, 3) := by decide +kernel
theorem dx_X12_init_13 : decode (go_cc mx_X12_init) 13 = .ok (.aload_n 0, 1) := by decide +kernel
theorem dx_X12_init_14 : decode (go_cc mx_X12_init) 14 = .ok (.sipush 1280, 3) := by decide +kernel
theorem dx_X12_init_17 : decode (go_cc mx_X12_init) 17 = .ok (.newarray .int, 2) := by decide +kernel
theorem dx_X12_init_19 : decode (go_cc mx_X12_init) 19 = .ok (.putfield 13, 3) := by decide +kernel
theorem dx_X12_init_22 : decode (go_cc mx_X12_init) 22 = .ok (.aload_n 0, 1) := by decide +kernel
theorem dx_X12_init_23 : decode (go_cc mx_X12_init) 23 = .ok (.iconst 2, 1) := by decide +kernel
theorem dx_X12_init_24 : decode (go_cc mx_X12_init) 24 = .ok (.newarray .boolean, 2) := by decide +kernel
theorem dx_X12_init_26 : decode (go_cc mx_X12_init) 26 = .ok (.putfield 16, 3) := by decide +kernel
theorem dx_X12_init_29 : decode (go_cc mx_X12_init) 29 = .ok (.aload_n 0, 1) := by decide +kernel
theorem dx_X12_init_30 : decode (go_cc mx_X12_init) 30 = .ok (.bipush 40, 2) := by decide +kernel
theorem dx_X12_init_32 : decode (go_cc mx_X12_init) 32 = .ok (.newarray .int, 2) := by decide +kernel
theorem dx_X12_init_34 : decode (go_cc mx_X12_init) 34 = .ok (.putfield 20, 3) := by decide +kernel
theorem dx_X12_init_37 : decode (go_cc mx_X12_init) 37 = .ok (.aload_n 0, 1) := by decide +kernel
theorem dx_X12_init_38 : decode (go_cc mx_X12_init) 38 = .ok (.iconst (-1), 1) := by decide +kernel
theorem dx_X12_init_39 : decode (go_cc mx_X12_init) 39 = .ok (.putfield 23, 3) := by decide +kernel
theorem dx_X12_init_42 : decode (go_cc mx_X12_init) 42 = .ok (.aload_n 0, 1) := by decide +kernel
theorem dx_X12_init_43 : decode (go_cc mx_X12_init) 43 = .ok (.bipush 64, 2) := by decide +kernel
theorem dx_X12_init_45 : decode (go_cc mx_X12_init) 45 = .ok (.newarray .int, 2) := by decide +kernel
theorem dx_X12_init_47 : decode (go_cc mx_X12_init) 47 = .ok (.putfield 27, 3) := by decide +kernel
theorem dx_X12_init_50 : decode (go_cc mx_X12_init) 50 = .ok (.aload_n 0, 1) := by decide +kernel
theorem dx_X12_init_51 : decode (go_cc mx_X12_init) 51 = .ok (.bipush 64, 2) := by decide +kernel
theorem dx_X12_init_53 : decode (go_cc mx_X12_init) 53 = .ok (.newarray .int, 2) := by decide +kernel
theorem dx_X12_init_55 : decode (go_cc mx_X12_init) 55 = .ok (.putfield 30, 3) := by decide +kernel
theorem dx_X12_init_58 : decode (go_cc mx_X12_init) 58 = .ok (.aload_n 0, 1) := by decide +kernel
theorem dx_X12_init_59 : decode (go_cc mx_X12_init) 59 = .ok (.bipush 64, 2) := by decide +kernel
theorem dx_X12_init_61 : decode (go_cc mx_X12_init) 61 = .ok (.newarray .int, 2) := by decide +kernel
theorem dx_X12_init_63 : decode (go_cc mx_X12_init) 63 = .ok (.putfield 33, 3) := by decide +kernel
theorem dx_X12_init_66 : decode (go_cc mx_X12_init) 66 = .ok (.aload_n 0, 1) := by decide +kernel
theorem dx_X12_init_67 : decode (go_cc mx_X12_init) 67 = .ok (.bipush 64, 2) := by decide +kernel
theorem dx_X12_init_69 : decode (go_cc mx_X12_init) 69 = .ok (.newarray .int, 2) := by decide +kernel
theorem dx_X12_init_71 : decode (go_cc mx_X12_init) 71 = .ok (.putfield 36, 3) := by decide +kernel
theorem dx_X12_init_74 : decode (go_cc mx_X12_init) 74 = .ok (.aload_n 0, 1) := by decide +kernel
theorem dx_X12_init_75 : decode (go_cc mx_X12_init) 75 = .ok (.bipush 48, 2) := by decide +kernel
theorem dx_X12_init_77 : decode (go_cc mx_X12_init) 77 = .ok (.newarray .int, 2) := by decide +kernel
theorem dx_X12_init_79 : decode (go_cc mx_X12_init) 79 = .ok (.putfield 39, 3) := by decide +kernel
theorem dx_X12_init_82 : decode (go_cc mx_X12_init) 82 = .ok (.aload_n 0, 1) := by decide +kernel
theorem dx_X12_init_83 : decode (go_cc mx_X12_init) 83 = .ok (.bipush 48, 2) := by decide +kernel
theorem dx_X12_init_85 : decode (go_cc mx_X12_init) 85 = .ok (.newarray .int, 2) := by decide +kernel
theorem dx_X12_init_87 : decode (go_cc mx_X12_init) 87 = .ok (.putfield 42, 3) := by decide +kernel
theorem dx_X12_init_90 : decode (go_cc mx_X12_init) 90 = .ok (.aload_n 0, 1) := by decide +kernel
theorem dx_X12_init_91 : decode (go_cc mx_X12_init) 91 = .ok (.bipush 14, 2) := by decide +kernel
theorem dx_X12_init_93 : decode (go_cc mx_X12_init) 93 = .ok (.newarray .int, 2) := by decide +kernel
theorem dx_X12_init_95 : decode (go_cc mx_X12_init) 95 = .ok (.putfield 45, 3) := by decide +kernel
theorem dx_X12_init_98 : decode (go_cc mx_X12_init) 98 = .ok (.aload_n 0, 1) := by decide +kernel
theorem dx_X12_init_99 : decode (go_cc mx_X12_init) 99 = .ok (.bipush 15, 2) := by decide +kernel
theorem dx_X12_init_101 : decode (go_cc mx_X12_init) 101 = .ok (.newarray .int, 2) := by decide +kernel
theorem dx_X12_init_103 : decode (go_cc mx_X12_init) 103 = .ok (.putfield 48, 3) := by decide +kernel
theorem dx_X12_init_106 : decode (go_cc mx_X12_init) 106 = .ok (.aload_n 0, 1) := by decide +kernel
theorem dx_X12_init_107 : decode (go_cc mx_X12_init) 107 = .ok (.sipush 256, 3) := by decide +kernel
theorem dx_X12_init_110 : decode (go_cc mx_X12_init) 110 = .ok (.newarray .long, 2) := by decide +kernel
theorem dx_X12_init_112 : decode (go_cc mx_X12_init) 112 = .ok (.putfield 51, 3) := by decide +kernel
theorem dx_X12_init_115 : decode (go_cc mx_X12_init) 115 = .ok (.aload_n 0, 1) := by decide +kernel
theorem dx_X12_init_116 : decode (go_cc mx_X12_init) 116 = .ok (.sipush 256, 3) := by decide +kernel
theorem dx_X12_init_119 : decode (go_cc mx_X12_init) 119 = .ok (.newarray .long, 2) := by decide +kernel
theorem dx_X12_init_121 : decode (go_cc mx_X12_init) 121 = .ok (.putfield 55, 3) := by decide +kernel
theorem dx_X12_init_124 : decode (go_cc mx_X12_init) 124 = .ok (.aload_n 0, 1) := by decide +kernel
theorem dx_X12_init_125 : decode (go_cc mx_X12_init) 125 = .ok (.sipush 256, 3) := by decide +kernel
theorem dx_X12_init_128 : decode (go_cc mx_X12_init) 128 = .ok (.newarray .long, 2) := by decide +kernel
theorem dx_X12_init_130 : decode (go_cc mx_X12_init) 130 = .ok (.putfield 58, 3) := by decide +kernel
theorem dx_X12_init_133 : decode (go_cc mx_X12_init) 133 = .ok (.aload_n 0, 1) := by decide +kernel
theorem dx_X12_init_134 : decode (go_cc mx_X12_init) 134 = .ok (.sipush 2048, 3) := by decide +kernel
theorem dx_X12_init_137 : decode (go_cc mx_X12_init) 137 = .ok (.newarray .long, 2) := by decide +kernel
theorem dx_X12_init_139 : decode (go_cc mx_X12_init) 139 = .ok (.putfield 61, 3) := by decide +kernel
theorem dx_X12_init_142 : decode (go_cc mx_X12_init) 142 = .ok (.aload_n 0, 1) := by decide +kernel
theorem dx_X12_init_143 : decode (go_cc mx_X12_init) 143 = .ok (.sipush 2048, 3) := by decide +kernel
theorem dx_X12_init_146 : decode (go_cc mx_X12_init) 146 = .ok (.newarray .long, 2) := by decide +kernel
theorem dx_X12_init_148 : decode (go_cc mx_X12_init) 148 = .ok (.putfield 64, 3) := by decide +kernel
theorem dx_X12_init_151 : decode (go_cc mx_X12_init) 151 = .ok (.aload_n 0, 1) := by decide +kernel
theorem dx_X12_init_152 : decode (go_cc mx_X12_init) 152 = .ok (.bipush 96, 2) := by decide +kernel
theorem dx_X12_init_154 : decode (go_cc mx_X12_init) 154 = .ok (.newarray .long, 2) := by decide +kernel
theorem dx_X12_init_156 : decode (go_cc mx_X12_init) 156 = .ok (.putfield 67, 3) := by decide +kernel
theorem dx_X12_init_159 : decode (go_cc mx_X12_init) 159 = .ok (.aload_n 0, 1) := by decide +kernel
theorem dx_X12_init_160 : decode (go_cc mx_X12_init) 160 = .ok (.sipush 2048, 3) := by decide +kernel
theorem dx_X12_init_163 : decode (go_cc mx_X12_init) 163 = .ok (.newarray .long, 2) := by decide +kernel
theorem dx_X12_init_165 : decode (go_cc mx_X12_init) 165 = .ok (.putfield 70, 3) := by decide +kernel
theorem dx_X12_init_168 : decode (go_cc mx_X12_init) 168 = .ok (.aload_n 0, 1) := by decide +kernel
theorem dx_X12_init_169 : decode (go_cc mx_X12_init) 169 = .ok (.bipush 8, 2) := by decide +kernel
theorem dx_X12_init_171 : decode (go_cc mx_X12_init) 171 = .ok (.newarray .long, 2) := by decide +kernel
theorem dx_X12_init_173 : decode (go_cc mx_X12_init) 173 = .ok (.putfield 73, 3) := by decide +kernel
theorem dx_X12_init_176 : decode (go_cc mx_X12_init) 176 = .ok (.aload_n 0, 1) := by decide +kernel
theorem dx_X12_init_177 : decode (go_cc mx_X12_init) 177 = .ok (.sipush 240, 3) := by decide +kernel
theorem dx_X12_init_180 : decode (go_cc mx_X12_init) 180 = .ok (.newarray .int, 2) := by decide +kernel
theorem dx_X12_init_182 : decode (go_cc mx_X12_init) 182 = .ok (.putfield 76, 3) := by decide +kernel
theorem dx_X12_init_185 : decode (go_cc mx_X12_init) 185 = .ok (.aload_n 0, 1) := by decide +kernel
theorem dx_X12_init_186 : decode (go_cc mx_X12_init) 186 = .ok (.sipush 240, 3) := by decide +kernel
theorem dx_X12_init_189 : decode (go_cc mx_X12_init) 189 = .ok (.newarray .int, 2) := by decide +kernel
theorem dx_X12_init_191 : decode (go_cc mx_X12_init) 191 = .ok (.putfield 79, 3) := by decide +kernel
theorem dx_X12_init_194 : decode (go_cc mx_X12_init) 194 = .ok (.aload_n 0, 1) := by decide +kernel
theorem dx_X12_init_195 : decode (go_cc mx_X12_init) 195 = .ok (.sipush 240, 3) := by decide +kernel
theorem dx_X12_init_198 : decode (go_cc mx_X12_init) 198 = .ok (.newarray .int, 2) := by decide +kernel
theorem dx_X12_init_200 : decode (go_cc mx_X12_init) 200 = .ok (.putfield 82, 3) := by decide +kernel
theorem dx_X12_init_203 : decode (go_cc mx_X12_init) 203 = .ok (.aload_n 0, 1) := by decide +kernel
theorem dx_X12_init_204 : decode (go_cc mx_X12_init) 204 = .ok (.sipush 240, 3) := by decide +kernel
theorem dx_X12_init_207 : decode (go_cc mx_X12_init) 207 = .ok (.newarray .int, 2) := by decide +kernel
theorem dx_X12_init_209 : decode (go_cc mx_X12_init) 209 = .ok (.putfield 85, 3) := by decide +kernel
theorem dx_X12_init_212 : decode (go_cc mx_X12_init) 212 = .ok (.aload_n 0, 1) := by decide +kernel
theorem dx_X12_init_213 : decode (go_cc mx_X12_init) 213 = .ok (.sipush 240, 3) := by decide +kernel
theorem dx_X12_init_216 : decode (go_cc mx_X12_init) 216 = .ok (.newarray .int, 2) := by decide +kernel
theorem dx_X12_init_218 : decode (go_cc mx_X12_init) 218 = .ok (.putfield 88, 3) := by decide +kernel
theorem dx_X12_init_221 : decode (go_cc mx_X12_init) 221 = .ok (.aload_n 0, 1) := by decide +kernel
theorem dx_X12_init_222 : decode (go_cc mx_X12_init) 222 = .ok (.sipush 400, 3) := by decide +kernel
theorem dx_X12_init_225 : decode (go_cc mx_X12_init) 225 = .ok (.newarray .int, 2) := by decide +kernel
theorem dx_X12_init_227 : decode (go_cc mx_X12_init) 227 = .ok (.putfield 91, 3) := by decide +kernel
theorem dx_X12_init_230 : decode (go_cc mx_X12_init) 230 = .ok (.aload_n 0, 1) := by decide +kernel
theorem dx_X12_init_231 : decode (go_cc mx_X12_init) 231 = .ok (.bipush 6, 2) := by decide +kernel
theorem dx_X12_init_233 : decode (go_cc mx_X12_init) 233 = .ok (.newarray .int, 2) := by decide +kernel
theorem dx_X12_init_235 : decode (go_cc mx_X12_init) 235 = .ok (.putfield 94, 3) := by decide +kernel
theorem dx_X12_init_238 : decode (go_cc mx_X12_init) 238 = .ok (.aload_n 0, 1) := by decide +kernel
theorem dx_X12_init_239 : decode (go_cc mx_X12_init) 239 = .ok (.iconst 5, 1) := by decide +kernel
theorem dx_X12_init_240 : decode (go_cc mx_X12_init) 240 = .ok (.newarray .long, 2) := by decide +kernel
theorem dx_X12_init_242 : decode (go_cc mx_X12_init) 242 = .ok (.putfield 97, 3) := by decide +kernel
theorem dx_X12_init_245 : decode (go_cc mx_X12_init) 245 = .ok (.aload_n 0, 1) := by decide +kernel
theorem dx_X12_init_246 : decode (go_cc mx_X12_init) 246 = .ok (.bipush 80, 2) := by decide +kernel
theorem dx_X12_init_248 : decode (go_cc mx_X12_init) 248 = .ok (.newarray .long, 2) := by decide +kernel
theorem dx_X12_init_250 : decode (go_cc mx_X12_init) 250 = .ok (.putfield 100, 3) := by decide +kernel
theorem dx_X12_init_253 : decode (go_cc mx_X12_init) 253 = .ok (.aload_n 0, 1) := by decide +kernel
theorem dx_X12_init_254 : decode (go_cc mx_X12_init) 254 = .ok (.bipush 20, 2) := by decide +kernel
theorem dx_X12_init_256 : decode (go_cc mx_X12_init) 256 = .ok (.newarray .int, 2) := by decide +kernel
theorem dx_X12_init_258 : decode (go_cc mx_X12_init) 258 = .ok (.putfield 103, 3) := by decide +kernel
theorem dx_X12_init_261 : decode (go_cc mx_X12_init) 261 = .ok (.aload_n 0, 1) := by decide +kernel
theorem dx_X12_init_262 : decode (go_cc mx_X12_init) 262 = .ok (.bipush 16, 2) := by decide +kernel
theorem dx_X12_init_264 : decode (go_cc mx_X12_init) 264 = .ok (.newarray .int, 2) := by decide +kernel
theorem dx_X12_init_266 : decode (go_cc mx_X12_init) 266 = .ok (.putfield 106, 3) := by decide +kernel
theorem dx_X12_init_269 : decode (go_cc mx_X12_init) 269 = .ok (.aload_n 0, 1) := by decide +kernel
theorem dx_X12_init_270 : decode (go_cc mx_X12_init) 270 = .ok (.sipush 15872, 3) := by decide +kernel
theorem dx_X12_init_273 : decode (go_cc mx_X12_init) 273 = .ok (.newarray .int, 2) := by decide +kernel
theorem dx_X12_init_275 : decode (go_cc mx_X12_init) 275 = .ok (.putfield 109, 3) := by decide +kernel
theorem dx_X12_init_278 : decode (go_cc mx_X12_init) 278 = .ok (.aload_n 0, 1) := by decide +kernel
theorem dx_X12_init_279 : decode (go_cc mx_X12_init) 279 = .ok (.bipush 14, 2) := by decide +kernel
theorem dx_X12_init_281 : decode (go_cc mx_X12_init) 281 = .ok (.newarray .int, 2) := by decide +kernel
theorem dx_X12_init_283 : decode (go_cc mx_X12_init) 283 = .ok (.putfield 112, 3) := by decide +kernel
theorem dx_X12_init_286 : decode (go_cc mx_X12_init) 286 = .ok (.aload_n 0, 1) := by decide +kernel
theorem dx_X12_init_287 : decode (go_cc mx_X12_init) 287 = .ok (.sipush 128, 3) := by decide +kernel
theorem dx_X12_init_290 : decode (go_cc mx_X12_init) 290 = .ok (.newarray .boolean, 2) := by decide +kernel
theorem dx_X12_init_292 : decode (go_cc mx_X12_init) 292 = .ok (.putfield 115, 3) := by decide +kernel
theorem dx_X12_init_295 : decode (go_cc mx_X12_init) 295 = .ok (.aload_n 0, 1) := by decide +kernel
theorem dx_X12_init_296 : decode (go_cc mx_X12_init) 296 = .ok (.bipush 16, 2) := by decide +kernel
theorem dx_X12_init_298 : decode (go_cc mx_X12_init) 298 = .ok (.newarray .boolean, 2) := by decide +kernel
theorem dx_X12_init_300 : decode (go_cc mx_X12_init) 300 = .ok (.putfield 118, 3) := by decide +kernel
theorem dx_X12_init_303 : decode (go_cc mx_X12_init) 303 = .ok (.aload_n 0, 1) := by decide +kernel
theorem dx_X12_init_304 : decode (go_cc mx_X12_init) 304 = .ok (.bipush 14, 2) := by decide +kernel
theorem dx_X12_init_306 : decode (go_cc mx_X12_init) 306 = .ok (.newarray .int, 2) := by decide +kernel
theorem dx_X12_init_308 : decode (go_cc mx_X12_init) 308 = .ok (.putfield 121, 3) := by decide +kernel
theorem dx_X12_init_311 : decode (go_cc mx_X12_init) 311 = .ok (.aload_n 0, 1) := by decide +kernel
theorem dx_X12_init_312 : decode (go_cc mx_X12_init) 312 = .ok (.sipush 128, 3) := by decide +kernel
theorem dx_X12_init_315 : decode (go_cc mx_X12_init) 315 = .ok (.newarray .long, 2) := by decide +kernel
theorem dx_X12_init_317 : decode (go_cc mx_X12_init) 317 = .ok (.putfield 124, 3) := by decide +kernel
theorem dx_X12_init_320 : decode (go_cc mx_X12_init) 320 = .ok (.aload_n 0, 1) := by decide +kernel
theorem dx_X12_init_321 : decode (go_cc mx_X12_init) 321 = .ok (.sipush 128, 3) := by decide +kernel
theorem dx_X12_init_324 : decode (go_cc mx_X12_init) 324 = .ok (.newarray .long, 2) := by decide +kernel
theorem dx_X12_init_326 : decode (go_cc mx_X12_init) 326 = .ok (.putfield 127, 3) := by decide +kernel
theorem dx_X12_init_329 : decode (go_cc mx_X12_init) 329 = .ok (.aload_n 0, 1) := by decide +kernel
theorem dx_X12_init_330 : decode (go_cc mx_X12_init) 330 = .ok (.bipush 96, 2) := by decide +kernel
theorem dx_X12_init_332 : decode (go_cc mx_X12_init) 332 = .ok (.newarray .long, 2) := by decide +kernel
theorem dx_X12_init_334 : decode (go_cc mx_X12_init) 334 = .ok (.putfield 130, 3) := by decide +kernel
theorem dx_X12_init_337 : decode (go_cc mx_X12_init) 337 = .ok (.aload_n 0, 1) := by decide +kernel
theorem dx_X12_init_338 : decode (go_cc mx_X12_init) 338 = .ok (.bipush 60, 2) := by decide +kernel
theorem dx_X12_init_340 : decode (go_cc mx_X12_init) 340 = .ok (.newarray .long, 2) := by decide +kernel
theorem dx_X12_init_342 : decode (go_cc mx_X12_init) 342 = .ok (.putfield 133, 3) := by decide +kernel
theorem dx_X12_init_345 : decode (go_cc mx_X12_init) 345 = .ok (.aload_n 0, 1) := by decide +kernel
theorem dx_X12_init_346 : decode (go_cc mx_X12_init) 346 = .ok (.iconst 3, 1) := by decide +kernel
theorem dx_X12_init_347 : decode (go_cc mx_X12_init) 347 = .ok (.newarray .int, 2) := by decide +kernel
theorem dx_X12_init_349 : decode (go_cc mx_X12_init) 349 = .ok (.dup, 1) := by decide +kernel
theorem dx_X12_init_350 : decode (go_cc mx_X12_init) 350 = .ok (.iconst 0, 1) := by decide +kernel
theorem dx_X12_init_351 : decode (go_cc mx_X12_init) 351 = .ok (.iconst (-1), 1) := by decide +kernel
theorem dx_X12_init_352 : decode (go_cc mx_X12_init) 352 = .ok (.iastore, 1) := by decide +kernel
theorem dx_X12_init_353 : decode (go_cc mx_X12_init) 353 = .ok (.dup, 1) := by decide +kernel
theorem dx_X12_init_354 : decode (go_cc mx_X12_init) 354 = .ok (.iconst 1, 1) := by decide +kernel
theorem dx_X12_init_355 : decode (go_cc mx_X12_init) 355 = .ok (.iconst (-1), 1) := by decide +kernel
theorem dx_X12_init_356 : decode (go_cc mx_X12_init) 356 = .ok (.iastore, 1) := by decide +kernel
theorem dx_X12_init_357 : decode (go_cc mx_X12_init) 357 = .ok (.dup, 1) := by decide +kernel
theorem dx_X12_init_358 : decode (go_cc mx_X12_init) 358 = .ok (.iconst 2, 1) := by decide +kernel
theorem dx_X12_init_359 : decode (go_cc mx_X12_init) 359 = .ok (.iconst (-1), 1) := by decide +kernel
theorem dx_X12_init_360 : decode (go_cc mx_X12_init) 360 = .ok (.iastore, 1) := by decide +kernel
theorem dx_X12_init_361 : decode (go_cc mx_X12_init) 361 = .ok (.putfield 136, 3) := by decide +kernel
theorem dx_X12_init_364 : decode (go_cc mx_X12_init) 364 = .ok (.return_, 1) := by decide +kernel
theorem dx_X12_within_0 : decode (go_cc mx_X12_within) 0 = .ok (.lload_n 0, 1) := by decide +kernel
theorem dx_X12_within_1 : decode (go_cc mx_X12_within) 1 = .ok (.lload_n 2, 1) := by decide +kernel
theorem dx_X12_within_2 : decode (go_cc mx_X12_within) 2 = .ok (.lcmp, 1) := by decide +kernel
theorem dx_X12_within_3 : decode (go_cc mx_X12_within) 3 = .ok (.ifCond .lt 14, 3) := by decide +kernel
theorem dx_X12_within_6 : decode (go_cc mx_X12_within) 6 = .ok (.lload_n 0, 1) := by decide +kernel
theorem dx_X12_within_7 : decode (go_cc mx_X12_within) 7 = .ok (.lload 4, 2) := by decide +kernel
theorem dx_X12_within_9 : decode (go_cc mx_X12_within) 9 = .ok (.lcmp, 1) := by decide +kernel
theorem dx_X12_within_10 : decode (go_cc mx_X12_within) 10 = .ok (.ifCond .gt 7, 3) := by decide +kernel
theorem dx_X12_within_13 : decode (go_cc mx_X12_within) 13 = .ok (.iconst 1, 1) := by decide +kernel
theorem dx_X12_within_14 : decode (go_cc mx_X12_within) 14 = .ok (.goto 4, 3) := by decide +kernel
theorem dx_X12_within_17 : decode (go_cc mx_X12_within) 17 = .ok (.iconst 0, 1) := by decide +kernel
theorem dx_X12_within_18 : decode (go_cc mx_X12_within) 18 = .ok (.ireturn, 1) := by decide +kernel
theorem dx_X12_longOf_0 : decode (go_cc mx_X12_longOf) 0 = .ok (.aload_n 0, 1) := by decide +kernel
theorem dx_X12_longOf_1 : decode (go_cc mx_X12_longOf) 1 = .ok (.getfield 7, 3) := by decide +kernel
theorem dx_X12_longOf_4 : decode (go_cc mx_X12_longOf) 4 = .ok (.bipush 7, 2) := by decide +kernel
theorem dx_X12_longOf_6 : decode (go_cc mx_X12_longOf) 6 = .ok (.iload_n 1, 1) := by decide +kernel
theorem dx_X12_longOf_7 : decode (go_cc mx_X12_longOf) 7 = .ok (.imul, 1) := by decide +kernel
theorem dx_X12_longOf_8 : decode (go_cc mx_X12_longOf) 8 = .ok (.iconst 0, 1) := by decide +kernel
theorem dx_X12_longOf_9 : decode (go_cc mx_X12_longOf) 9 = .ok (.iadd, 1) := by decide +kernel
theorem dx_X12_longOf_10 : decode (go_cc mx_X12_longOf) 10 = .ok (.iaload, 1) := by decide +kernel
theorem dx_X12_longOf_11 : decode (go_cc mx_X12_longOf) 11 = .ok (.ireturn, 1) := by decide +kernel
theorem dx_X12_symbolOf_0 : decode (go_cc mx_X12_symbolOf) 0 = .ok (.aload_n 0, 1) := by decide +kernel
theorem dx_X12_symbolOf_1 : decode (go_cc mx_X12_symbolOf) 1 = .ok (.getfield 7, 3) := by decide +kernel
theorem dx_X12_symbolOf_4 : decode (go_cc mx_X12_symbolOf) 4 = .ok (.bipush 7, 2) := by decide +kernel
theorem dx_X12_symbolOf_6 : decode (go_cc mx_X12_symbolOf) 6 = .ok (.iload_n 1, 1) := by decide +kernel
theorem dx_X12_symbolOf_7 : decode (go_cc mx_X12_symbolOf) 7 = .ok (.imul, 1) := by decide +kernel
theorem dx_X12_symbolOf_8 : decode (go_cc mx_X12_symbolOf) 8 = .ok (.iconst 1, 1) := by decide +kernel
theorem dx_X12_symbolOf_9 : decode (go_cc mx_X12_symbolOf) 9 = .ok (.iadd, 1) := by decide +kernel
theorem dx_X12_symbolOf_10 : decode (go_cc mx_X12_symbolOf) 10 = .ok (.iaload, 1) := by decide +kernel
theorem dx_X12_symbolOf_11 : decode (go_cc mx_X12_symbolOf) 11 = .ok (.ireturn, 1) := by decide +kernel
theorem dx_X12_partOf_0 : decode (go_cc mx_X12_partOf) 0 = .ok (.aload_n 0, 1) := by decide +kernel
theorem dx_X12_partOf_1 : decode (go_cc mx_X12_partOf) 1 = .ok (.getfield 7, 3) := by decide +kernel
theorem dx_X12_partOf_4 : decode (go_cc mx_X12_partOf) 4 = .ok (.bipush 7, 2) := by decide +kernel
theorem dx_X12_partOf_6 : decode (go_cc mx_X12_partOf) 6 = .ok (.iload_n 1, 1) := by decide +kernel
theorem dx_X12_partOf_7 : decode (go_cc mx_X12_partOf) 7 = .ok (.imul, 1) := by decide +kernel
theorem dx_X12_partOf_8 : decode (go_cc mx_X12_partOf) 8 = .ok (.iconst 2, 1) := by decide +kernel
theorem dx_X12_partOf_9 : decode (go_cc mx_X12_partOf) 9 = .ok (.iadd, 1) := by decide +kernel
theorem dx_X12_partOf_10 : decode (go_cc mx_X12_partOf) 10 = .ok (.iload_n 2, 1) := by decide +kernel
theorem dx_X12_partOf_11 : decode (go_cc mx_X12_partOf) 11 = .ok (.iadd, 1) := by decide +kernel
theorem dx_X12_partOf_12 : decode (go_cc mx_X12_partOf) 12 = .ok (.iaload, 1) := by decide +kernel
theorem dx_X12_partOf_13 : decode (go_cc mx_X12_partOf) 13 = .ok (.ireturn, 1) := by decide +kernel
theorem dx_X12_isRule_0 : decode (go_cc mx_X12_isRule) 0 = .ok (.iload_n 1, 1) := by decide +kernel
theorem dx_X12_isRule_1 : decode (go_cc mx_X12_isRule) 1 = .ok (.i2l, 1) := by decide +kernel
theorem dx_X12_isRule_2 : decode (go_cc mx_X12_isRule) 2 = .ok (.lconst 0, 1) := by decide +kernel
theorem dx_X12_isRule_3 : decode (go_cc mx_X12_isRule) 3 = .ok (.ldc2_w 142, 3) := by decide +kernel
theorem dx_X12_isRule_6 : decode (go_cc mx_X12_isRule) 6 = .ok (.invokestatic 144, 3) := by decide +kernel
theorem dx_X12_isRule_9 : decode (go_cc mx_X12_isRule) 9 = .ok (.ifCond .eq 15, 3) := by decide +kernel
theorem dx_X12_isRule_12 : decode (go_cc mx_X12_isRule) 12 = .ok (.aload_n 0, 1) := by decide +kernel
theorem dx_X12_isRule_13 : decode (go_cc mx_X12_isRule) 13 = .ok (.iload_n 1, 1) := by decide +kernel
theorem dx_X12_isRule_14 : decode (go_cc mx_X12_isRule) 14 = .ok (.invokevirtual 148, 3) := by decide +kernel
theorem dx_X12_isRule_17 : decode (go_cc mx_X12_isRule) 17 = .ok (.ifCond .le 7, 3) := by decide +kernel
theorem dx_X12_isRule_20 : decode (go_cc mx_X12_isRule) 20 = .ok (.iconst 1, 1) := by decide +kernel
theorem dx_X12_isRule_21 : decode (go_cc mx_X12_isRule) 21 = .ok (.goto 4, 3) := by decide +kernel
theorem dx_X12_isRule_24 : decode (go_cc mx_X12_isRule) 24 = .ok (.iconst 0, 1) := by decide +kernel
theorem dx_X12_isRule_25 : decode (go_cc mx_X12_isRule) 25 = .ok (.ireturn, 1) := by decide +kernel
theorem dx_X12_letters_0 : decode (go_cc mx_X12_letters) 0 = .ok (.aload_n 0, 1) := by decide +kernel
theorem dx_X12_letters_1 : decode (go_cc mx_X12_letters) 1 = .ok (.getfield 7, 3) := by decide +kernel
theorem dx_X12_letters_4 : decode (go_cc mx_X12_letters) 4 = .ok (.bipush 113, 2) := by decide +kernel
theorem dx_X12_letters_6 : decode (go_cc mx_X12_letters) 6 = .ok (.iaload, 1) := by decide +kernel
theorem dx_X12_letters_7 : decode (go_cc mx_X12_letters) 7 = .ok (.ireturn, 1) := by decide +kernel
theorem dx_X12_notes_0 : decode (go_cc mx_X12_notes) 0 = .ok (.aload_n 0, 1) := by decide +kernel
theorem dx_X12_notes_1 : decode (go_cc mx_X12_notes) 1 = .ok (.getfield 152, 3) := by decide +kernel
theorem dx_X12_notes_4 : decode (go_cc mx_X12_notes) 4 = .ok (.bipush 10, 2) := by decide +kernel
theorem dx_X12_notes_6 : decode (go_cc mx_X12_notes) 6 = .ok (.if_icmp .ne 44, 3) := by decide +kernel
theorem dx_X12_notes_9 : decode (go_cc mx_X12_notes) 9 = .ok (.iconst 0, 1) := by decide +kernel
theorem dx_X12_notes_10 : decode (go_cc mx_X12_notes) 10 = .ok (.istore_n 1, 1) := by decide +kernel
theorem dx_X12_notes_11 : decode (go_cc mx_X12_notes) 11 = .ok (.iload_n 1, 1) := by decide +kernel
theorem dx_X12_notes_12 : decode (go_cc mx_X12_notes) 12 = .ok (.sipush 1152, 3) := by decide +kernel
theorem dx_X12_notes_15 : decode (go_cc mx_X12_notes) 15 = .ok (.if_icmp .ge 25, 3) := by decide +kernel
theorem dx_X12_notes_18 : decode (go_cc mx_X12_notes) 18 = .ok (.aload_n 0, 1) := by decide +kernel
theorem dx_X12_notes_19 : decode (go_cc mx_X12_notes) 19 = .ok (.getfield 13, 3) := by decide +kernel
theorem dx_X12_notes_22 : decode (go_cc mx_X12_notes) 22 = .ok (.iload_n 1, 1) := by decide +kernel
theorem dx_X12_notes_23 : decode (go_cc mx_X12_notes) 23 = .ok (.aload_n 0, 1) := by decide +kernel
theorem dx_X12_notes_24 : decode (go_cc mx_X12_notes) 24 = .ok (.getfield 13, 3) := by decide +kernel
theorem dx_X12_notes_27 : decode (go_cc mx_X12_notes) 27 = .ok (.sipush 128, 3) := by decide +kernel
theorem dx_X12_notes_30 : decode (go_cc mx_X12_notes) 30 = .ok (.iload_n 1, 1) := by decide +kernel
theorem dx_X12_notes_31 : decode (go_cc mx_X12_notes) 31 = .ok (.iadd, 1) := by decide +kernel
theorem dx_X12_notes_32 : decode (go_cc mx_X12_notes) 32 = .ok (.iaload, 1) := by decide +kernel
theorem dx_X12_notes_33 : decode (go_cc mx_X12_notes) 33 = .ok (.iastore, 1) := by decide +kernel
theorem dx_X12_notes_34 : decode (go_cc mx_X12_notes) 34 = .ok (.iinc 1 1, 3) := by decide +kernel
theorem dx_X12_notes_37 : decode (go_cc mx_X12_notes) 37 = .ok (.goto (-26), 3) := by decide +kernel
theorem dx_X12_notes_40 : decode (go_cc mx_X12_notes) 40 = .ok (.aload_n 0, 1) := by decide +kernel
theorem dx_X12_notes_41 : decode (go_cc mx_X12_notes) 41 = .ok (.dup, 1) := by decide +kernel
theorem dx_X12_notes_42 : decode (go_cc mx_X12_notes) 42 = .ok (.getfield 152, 3) := by decide +kernel
theorem dx_X12_notes_45 : decode (go_cc mx_X12_notes) 45 = .ok (.iconst 1, 1) := by decide +kernel
theorem dx_X12_notes_46 : decode (go_cc mx_X12_notes) 46 = .ok (.isub, 1) := by decide +kernel
theorem dx_X12_notes_47 : decode (go_cc mx_X12_notes) 47 = .ok (.putfield 152, 3) := by decide +kernel
theorem dx_X12_notes_50 : decode (go_cc mx_X12_notes) 50 = .ok (.iconst 0, 1) := by decide +kernel
theorem dx_X12_notes_51 : decode (go_cc mx_X12_notes) 51 = .ok (.istore_n 1, 1) := by decide +kernel
theorem dx_X12_notes_52 : decode (go_cc mx_X12_notes) 52 = .ok (.iload_n 1, 1) := by decide +kernel
theorem dx_X12_notes_53 : decode (go_cc mx_X12_notes) 53 = .ok (.sipush 128, 3) := by decide +kernel
theorem dx_X12_notes_56 : decode (go_cc mx_X12_notes) 56 = .ok (.if_icmp .ge 30, 3) := by decide +kernel
theorem dx_X12_notes_59 : decode (go_cc mx_X12_notes) 59 = .ok (.aload_n 0, 1) := by decide +kernel
theorem dx_X12_notes_60 : decode (go_cc mx_X12_notes) 60 = .ok (.getfield 13, 3) := by decide +kernel
theorem dx_X12_notes_63 : decode (go_cc mx_X12_notes) 63 = .ok (.sipush 128, 3) := by decide +kernel
theorem dx_X12_notes_66 : decode (go_cc mx_X12_notes) 66 = .ok (.aload_n 0, 1) := by decide +kernel
theorem dx_X12_notes_67 : decode (go_cc mx_X12_notes) 67 = .ok (.getfield 152, 3) := by decide +kernel
theorem dx_X12_notes_70 : decode (go_cc mx_X12_notes) 70 = .ok (.imul, 1) := by decide +kernel
theorem dx_X12_notes_71 : decode (go_cc mx_X12_notes) 71 = .ok (.iload_n 1, 1) := by decide +kernel
theorem dx_X12_notes_72 : decode (go_cc mx_X12_notes) 72 = .ok (.iadd, 1) := by decide +kernel
theorem dx_X12_notes_73 : decode (go_cc mx_X12_notes) 73 = .ok (.aload_n 0, 1) := by decide +kernel
theorem dx_X12_notes_74 : decode (go_cc mx_X12_notes) 74 = .ok (.getfield 7, 3) := by decide +kernel
theorem dx_X12_notes_77 : decode (go_cc mx_X12_notes) 77 = .ok (.iload_n 1, 1) := by decide +kernel
theorem dx_X12_notes_78 : decode (go_cc mx_X12_notes) 78 = .ok (.iaload, 1) := by decide +kernel
theorem dx_X12_notes_79 : decode (go_cc mx_X12_notes) 79 = .ok (.iastore, 1) := by decide +kernel
theorem dx_X12_notes_80 : decode (go_cc mx_X12_notes) 80 = .ok (.iinc 1 1, 3) := by decide +kernel
theorem dx_X12_notes_83 : decode (go_cc mx_X12_notes) 83 = .ok (.goto (-31), 3) := by decide +kernel
theorem dx_X12_notes_86 : decode (go_cc mx_X12_notes) 86 = .ok (.aload_n 0, 1) := by decide +kernel
theorem dx_X12_notes_87 : decode (go_cc mx_X12_notes) 87 = .ok (.dup, 1) := by decide +kernel
theorem dx_X12_notes_88 : decode (go_cc mx_X12_notes) 88 = .ok (.getfield 152, 3) := by decide +kernel
theorem dx_X12_notes_91 : decode (go_cc mx_X12_notes) 91 = .ok (.iconst 1, 1) := by decide +kernel
theorem dx_X12_notes_92 : decode (go_cc mx_X12_notes) 92 = .ok (.iadd, 1) := by decide +kernel
theorem dx_X12_notes_93 : decode (go_cc mx_X12_notes) 93 = .ok (.putfield 152, 3) := by decide +kernel
theorem dx_X12_notes_96 : decode (go_cc mx_X12_notes) 96 = .ok (.aload_n 0, 1) := by decide +kernel
theorem dx_X12_notes_97 : decode (go_cc mx_X12_notes) 97 = .ok (.iconst 0, 1) := by decide +kernel
theorem dx_X12_notes_98 : decode (go_cc mx_X12_notes) 98 = .ok (.putfield 155, 3) := by decide +kernel
theorem dx_X12_notes_101 : decode (go_cc mx_X12_notes) 101 = .ok (.return_, 1) := by decide +kernel
theorem dx_X12_feed_0 : decode (go_cc mx_X12_feed) 0 = .ok (.aload_n 0, 1) := by decide +kernel
theorem dx_X12_feed_1 : decode (go_cc mx_X12_feed) 1 = .ok (.iconst 0, 1) := by decide +kernel
theorem dx_X12_feed_2 : decode (go_cc mx_X12_feed) 2 = .ok (.putfield 139, 3) := by decide +kernel
theorem dx_X12_feed_5 : decode (go_cc mx_X12_feed) 5 = .ok (.aload_n 0, 1) := by decide +kernel
theorem dx_X12_feed_6 : decode (go_cc mx_X12_feed) 6 = .ok (.getfield 159, 3) := by decide +kernel
theorem dx_X12_feed_9 : decode (go_cc mx_X12_feed) 9 = .ok (.bipush 20, 2) := by decide +kernel
theorem dx_X12_feed_11 : decode (go_cc mx_X12_feed) 11 = .ok (.iadd, 1) := by decide +kernel
theorem dx_X12_feed_12 : decode (go_cc mx_X12_feed) 12 = .ok (.bipush 40, 2) := by decide +kernel
theorem dx_X12_feed_14 : decode (go_cc mx_X12_feed) 14 = .ok (.if_icmp .le 6, 3) := by decide +kernel
theorem dx_X12_feed_17 : decode (go_cc mx_X12_feed) 17 = .ok (.bipush (-4), 2) := by decide +kernel
theorem dx_X12_feed_19 : decode (go_cc mx_X12_feed) 19 = .ok (.ireturn, 1) := by decide +kernel
theorem dx_X12_feed_20 : decode (go_cc mx_X12_feed) 20 = .ok (.iconst 0, 1) := by decide +kernel
theorem dx_X12_feed_21 : decode (go_cc mx_X12_feed) 21 = .ok (.istore 6, 2) := by decide +kernel
theorem dx_X12_feed_23 : decode (go_cc mx_X12_feed) 23 = .ok (.iload 6, 2) := by decide +kernel
theorem dx_X12_feed_25 : decode (go_cc mx_X12_feed) 25 = .ok (.bipush 20, 2) := by decide +kernel
theorem dx_X12_feed_27 : decode (go_cc mx_X12_feed) 27 = .ok (.if_icmp .ge 93, 3) := by decide +kernel
theorem dx_X12_feed_30 : decode (go_cc mx_X12_feed) 30 = .ok (.iload 6, 2) := by decide +kernel
theorem dx_X12_feed_32 : decode (go_cc mx_X12_feed) 32 = .ok (.iconst 4, 1) := by decide +kernel
theorem dx_X12_feed_33 : decode (go_cc mx_X12_feed) 33 = .ok (.if_icmp .ge 7, 3) := by decide +kernel
theorem dx_X12_feed_36 : decode (go_cc mx_X12_feed) 36 = .ok (.iload_n 1, 1) := by decide +kernel
theorem dx_X12_feed_37 : decode (go_cc mx_X12_feed) 37 = .ok (.goto 39, 3) := by decide +kernel
theorem dx_X12_feed_40 : decode (go_cc mx_X12_feed) 40 = .ok (.iload 6, 2) := by decide +kernel
theorem dx_X12_feed_42 : decode (go_cc mx_X12_feed) 42 = .ok (.bipush 8, 2) := by decide +kernel
theorem dx_X12_feed_44 : decode (go_cc mx_X12_feed) 44 = .ok (.if_icmp .ge 7, 3) := by decide +kernel
theorem dx_X12_feed_47 : decode (go_cc mx_X12_feed) 47 = .ok (.iload_n 2, 1) := by decide +kernel
theorem dx_X12_feed_48 : decode (go_cc mx_X12_feed) 48 = .ok (.goto 28, 3) := by decide +kernel
theorem dx_X12_feed_51 : decode (go_cc mx_X12_feed) 51 = .ok (.iload 6, 2) := by decide +kernel
theorem dx_X12_feed_53 : decode (go_cc mx_X12_feed) 53 = .ok (.bipush 12, 2) := by decide +kernel
theorem dx_X12_feed_55 : decode (go_cc mx_X12_feed) 55 = .ok (.if_icmp .ge 7, 3) := by decide +kernel
theorem dx_X12_feed_58 : decode (go_cc mx_X12_feed) 58 = .ok (.iload_n 3, 1) := by decide +kernel
theorem dx_X12_feed_59 : decode (go_cc mx_X12_feed) 59 = .ok (.goto 17, 3) := by decide +kernel
theorem dx_X12_feed_62 : decode (go_cc mx_X12_feed) 62 = .ok (.iload 6, 2) := by decide +kernel
theorem dx_X12_feed_64 : decode (go_cc mx_X12_feed) 64 = .ok (.bipush 16, 2) := by decide +kernel
theorem dx_X12_feed_66 : decode (go_cc mx_X12_feed) 66 = .ok (.if_icmp .ge 8, 3) := by decide +kernel
theorem dx_X12_feed_69 : decode (go_cc mx_X12_feed) 69 = .ok (.iload 4, 2) := by decide +kernel
theorem dx_X12_feed_71 : decode (go_cc mx_X12_feed) 71 = .ok (.goto 5, 3) := by decide +kernel
theorem dx_X12_feed_74 : decode (go_cc mx_X12_feed) 74 = .ok (.iload 5, 2) := by decide +kernel
theorem dx_X12_feed_76 : decode (go_cc mx_X12_feed) 76 = .ok (.istore 7, 2) := by decide +kernel
theorem dx_X12_feed_78 : decode (go_cc mx_X12_feed) 78 = .ok (.aload_n 0, 1) := by decide +kernel
theorem dx_X12_feed_79 : decode (go_cc mx_X12_feed) 79 = .ok (.getfield 20, 3) := by decide +kernel
theorem dx_X12_feed_82 : decode (go_cc mx_X12_feed) 82 = .ok (.aload_n 0, 1) := by decide +kernel
theorem dx_X12_feed_83 : decode (go_cc mx_X12_feed) 83 = .ok (.getfield 159, 3) := by decide +kernel
theorem dx_X12_feed_86 : decode (go_cc mx_X12_feed) 86 = .ok (.iload 7, 2) := by decide +kernel
theorem dx_X12_feed_88 : decode (go_cc mx_X12_feed) 88 = .ok (.bipush 24, 2) := by decide +kernel
theorem dx_X12_feed_90 : decode (go_cc mx_X12_feed) 90 = .ok (.bipush 8, 2) := by decide +kernel
theorem dx_X12_feed_92 : decode (go_cc mx_X12_feed) 92 = .ok (.iload 6, 2) := by decide +kernel
theorem dx_X12_feed_94 : decode (go_cc mx_X12_feed) 94 = .ok (.iconst 4, 1) := by decide +kernel
theorem dx_X12_feed_95 : decode (go_cc mx_X12_feed) 95 = .ok (.irem, 1) := by decide +kernel
theorem dx_X12_feed_96 : decode (go_cc mx_X12_feed) 96 = .ok (.imul, 1) := by decide +kernel
theorem dx_X12_feed_97 : decode (go_cc mx_X12_feed) 97 = .ok (.isub, 1) := by decide +kernel
theorem dx_X12_feed_98 : decode (go_cc mx_X12_feed) 98 = .ok (.ishr, 1) := by decide +kernel
theorem dx_X12_feed_99 : decode (go_cc mx_X12_feed) 99 = .ok (.sipush 255, 3) := by decide +kernel
theorem dx_X12_feed_102 : decode (go_cc mx_X12_feed) 102 = .ok (.iand, 1) := by decide +kernel
theorem dx_X12_feed_103 : decode (go_cc mx_X12_feed) 103 = .ok (.iastore, 1) := by decide +kernel
theorem dx_X12_feed_104 : decode (go_cc mx_X12_feed) 104 = .ok (.aload_n 0, 1) := by decide +kernel
theorem dx_X12_feed_105 : decode (go_cc mx_X12_feed) 105 = .ok (.dup, 1) := by decide +kernel
theorem dx_X12_feed_106 : decode (go_cc mx_X12_feed) 106 = .ok (.getfield 159, 3) := by decide +kernel
theorem dx_X12_feed_109 : decode (go_cc mx_X12_feed) 109 = .ok (.iconst 1, 1) := by decide +kernel
theorem dx_X12_feed_110 : decode (go_cc mx_X12_feed) 110 = .ok (.iadd, 1) := by decide +kernel
theorem dx_X12_feed_111 : decode (go_cc mx_X12_feed) 111 = .ok (.putfield 159, 3) := by decide +kernel
theorem dx_X12_feed_114 : decode (go_cc mx_X12_feed) 114 = .ok (.iinc 6 1, 3) := by decide +kernel
theorem dx_X12_feed_117 : decode (go_cc mx_X12_feed) 117 = .ok (.goto (-94), 3) := by decide +kernel
theorem dx_X12_feed_120 : decode (go_cc mx_X12_feed) 120 = .ok (.aload_n 0, 1) := by decide +kernel
theorem dx_X12_feed_121 : decode (go_cc mx_X12_feed) 121 = .ok (.getfield 159, 3) := by decide +kernel
theorem dx_X12_feed_124 : decode (go_cc mx_X12_feed) 124 = .ok (.ireturn, 1) := by decide +kernel
theorem dx_X12_fails_0 : decode (go_cc mx_X12_fails) 0 = .ok (.aload_n 0, 1) := by decide +kernel
theorem dx_X12_fails_1 : decode (go_cc mx_X12_fails) 1 = .ok (.iload_n 1, 1) := by decide +kernel
theorem dx_X12_fails_2 : decode (go_cc mx_X12_fails) 2 = .ok (.putfield 162, 3) := by decide +kernel
theorem dx_X12_fails_5 : decode (go_cc mx_X12_fails) 5 = .ok (.aload_n 0, 1) := by decide +kernel
theorem dx_X12_fails_6 : decode (go_cc mx_X12_fails) 6 = .ok (.iload_n 2, 1) := by decide +kernel
theorem dx_X12_fails_7 : decode (go_cc mx_X12_fails) 7 = .ok (.putfield 23, 3) := by decide +kernel
theorem dx_X12_fails_10 : decode (go_cc mx_X12_fails) 10 = .ok (.bipush (-30), 2) := by decide +kernel
theorem dx_X12_fails_12 : decode (go_cc mx_X12_fails) 12 = .ok (.iload_n 1, 1) := by decide +kernel
theorem dx_X12_fails_13 : decode (go_cc mx_X12_fails) 13 = .ok (.isub, 1) := by decide +kernel
theorem dx_X12_fails_14 : decode (go_cc mx_X12_fails) 14 = .ok (.ireturn, 1) := by decide +kernel
theorem dx_X12_isLetterByte_0 : decode (go_cc mx_X12_isLetterByte) 0 = .ok (.iload_n 0, 1) := by decide +kernel
theorem dx_X12_isLetterByte_1 : decode (go_cc mx_X12_isLetterByte) 1 = .ok (.i2l, 1) := by decide +kernel
theorem dx_X12_isLetterByte_2 : decode (go_cc mx_X12_isLetterByte) 2 = .ok (.ldc2_w 165, 3) := by decide +kernel
theorem dx_X12_isLetterByte_5 : decode (go_cc mx_X12_isLetterByte) 5 = .ok (.ldc2_w 167, 3) := by decide +kernel
theorem dx_X12_isLetterByte_8 : decode (go_cc mx_X12_isLetterByte) 8 = .ok (.invokestatic 144, 3) := by decide +kernel
theorem dx_X12_isLetterByte_11 : decode (go_cc mx_X12_isLetterByte) 11 = .ok (.ireturn, 1) := by decide +kernel
theorem dx_X12_isSymbolByte_0 : decode (go_cc mx_X12_isSymbolByte) 0 = .ok (.iload_n 0, 1) := by decide +kernel
theorem dx_X12_isSymbolByte_1 : decode (go_cc mx_X12_isSymbolByte) 1 = .ok (.i2l, 1) := by decide +kernel
theorem dx_X12_isSymbolByte_2 : decode (go_cc mx_X12_isSymbolByte) 2 = .ok (.ldc2_w 169, 3) := by decide +kernel
theorem dx_X12_isSymbolByte_5 : decode (go_cc mx_X12_isSymbolByte) 5 = .ok (.ldc2_w 171, 3) := by decide +kernel
theorem dx_X12_isSymbolByte_8 : decode (go_cc mx_X12_isSymbolByte) 8 = .ok (.invokestatic 144, 3) := by decide +kernel
theorem dx_X12_isSymbolByte_11 : decode (go_cc mx_X12_isSymbolByte) 11 = .ok (.ireturn, 1) := by decide +kernel
theorem dx_X12_faultOfRule_0 : decode (go_cc mx_X12_faultOfRule) 0 = .ok (.iconst 0, 1) := by decide +kernel
theorem dx_X12_faultOfRule_1 : decode (go_cc mx_X12_faultOfRule) 1 = .ok (.istore_n 2, 1) := by decide +kernel
theorem dx_X12_faultOfRule_2 : decode (go_cc mx_X12_faultOfRule) 2 = .ok (.iload_n 2, 1) := by decide +kernel
theorem dx_X12_faultOfRule_3 : decode (go_cc mx_X12_faultOfRule) 3 = .ok (.iload_n 1, 1) := by decide +kernel
theorem dx_X12_faultOfRule_4 : decode (go_cc mx_X12_faultOfRule) 4 = .ok (.if_icmp .ge 56, 3) := by decide +kernel
theorem dx_X12_faultOfRule_7 : decode (go_cc mx_X12_faultOfRule) 7 = .ok (.iload_n 2, 1) := by decide +kernel
theorem dx_X12_faultOfRule_8 : decode (go_cc mx_X12_faultOfRule) 8 = .ok (.iconst 5, 1) := by decide +kernel
theorem dx_X12_faultOfRule_9 : decode (go_cc mx_X12_faultOfRule) 9 = .ok (.if_icmp .le 10, 3) := by decide +kernel
theorem dx_X12_faultOfRule_12 : decode (go_cc mx_X12_faultOfRule) 12 = .ok (.aload_n 0, 1) := by decide +kernel
theorem dx_X12_faultOfRule_13 : decode (go_cc mx_X12_faultOfRule) 13 = .ok (.iconst 3, 1) := by decide +kernel
theorem dx_X12_faultOfRule_14 : decode (go_cc mx_X12_faultOfRule) 14 = .ok (.iload_n 2, 1) := by decide +kernel
theorem dx_X12_faultOfRule_15 : decode (go_cc mx_X12_faultOfRule) 15 = .ok (.invokevirtual 173, 3) := by decide +kernel
theorem dx_X12_faultOfRule_18 : decode (go_cc mx_X12_faultOfRule) 18 = .ok (.ireturn, 1) := by decide +kernel
theorem dx_X12_faultOfRule_19 : decode (go_cc mx_X12_faultOfRule) 19 = .ok (.aload_n 0, 1) := by decide +kernel
theorem dx_X12_faultOfRule_20 : decode (go_cc mx_X12_faultOfRule) 20 = .ok (.getfield 20, 3) := by decide +kernel
theorem dx_X12_faultOfRule_23 : decode (go_cc mx_X12_faultOfRule) 23 = .ok (.iload_n 2, 1) := by decide +kernel
theorem dx_X12_faultOfRule_24 : decode (go_cc mx_X12_faultOfRule) 24 = .ok (.iaload, 1) := by decide +kernel
theorem dx_X12_faultOfRule_25 : decode (go_cc mx_X12_faultOfRule) 25 = .ok (.invokestatic 177, 3) := by decide +kernel
theorem dx_X12_faultOfRule_28 : decode (go_cc mx_X12_faultOfRule) 28 = .ok (.ifCond .ne 26, 3) := by decide +kernel
theorem dx_X12_faultOfRule_31 : decode (go_cc mx_X12_faultOfRule) 31 = .ok (.iload_n 2, 1) := by decide +kernel
theorem dx_X12_faultOfRule_32 : decode (go_cc mx_X12_faultOfRule) 32 = .ok (.ifCond .eq 15, 3) := by decide +kernel
theorem dx_X12_faultOfRule_35 : decode (go_cc mx_X12_faultOfRule) 35 = .ok (.aload_n 0, 1) := by decide +kernel
theorem dx_X12_faultOfRule_36 : decode (go_cc mx_X12_faultOfRule) 36 = .ok (.getfield 20, 3) := by decide +kernel
theorem dx_X12_faultOfRule_39 : decode (go_cc mx_X12_faultOfRule) 39 = .ok (.iload_n 2, 1) := by decide +kernel
theorem dx_X12_faultOfRule_40 : decode (go_cc mx_X12_faultOfRule) 40 = .ok (.iaload, 1) := by decide +kernel
theorem dx_X12_faultOfRule_41 : decode (go_cc mx_X12_faultOfRule) 41 = .ok (.invokestatic 181, 3) := by decide +kernel
theorem dx_X12_faultOfRule_44 : decode (go_cc mx_X12_faultOfRule) 44 = .ok (.ifCond .ne 10, 3) := by decide +kernel
theorem dx_X12_faultOfRule_47 : decode (go_cc mx_X12_faultOfRule) 47 = .ok (.aload_n 0, 1) := by decide +kernel
theorem dx_X12_faultOfRule_48 : decode (go_cc mx_X12_faultOfRule) 48 = .ok (.iconst 1, 1) := by decide +kernel
theorem dx_X12_faultOfRule_49 : decode (go_cc mx_X12_faultOfRule) 49 = .ok (.iload_n 2, 1) := by decide +kernel
theorem dx_X12_faultOfRule_50 : decode (go_cc mx_X12_faultOfRule) 50 = .ok (.invokevirtual 173, 3) := by decide +kernel
theorem dx_X12_faultOfRule_53 : decode (go_cc mx_X12_faultOfRule) 53 = .ok (.ireturn, 1) := by decide +kernel
theorem dx_X12_faultOfRule_54 : decode (go_cc mx_X12_faultOfRule) 54 = .ok (.iinc 2 1, 3) := by decide +kernel
theorem dx_X12_faultOfRule_57 : decode (go_cc mx_X12_faultOfRule) 57 = .ok (.goto (-55), 3) := by decide +kernel
theorem dx_X12_faultOfRule_60 : decode (go_cc mx_X12_faultOfRule) 60 = .ok (.iload_n 1, 1) := by decide +kernel
theorem dx_X12_faultOfRule_61 : decode (go_cc mx_X12_faultOfRule) 61 = .ok (.iconst 2, 1) := by decide +kernel
theorem dx_X12_faultOfRule_62 : decode (go_cc mx_X12_faultOfRule) 62 = .ok (.if_icmp .ge 12, 3) := by decide +kernel
theorem dx_X12_faultOfRule_65 : decode (go_cc mx_X12_faultOfRule) 65 = .ok (.aload_n 0, 1) := by decide +kernel
theorem dx_X12_faultOfRule_66 : decode (go_cc mx_X12_faultOfRule) 66 = .ok (.iconst 2, 1) := by decide +kernel
theorem dx_X12_faultOfRule_67 : decode (go_cc mx_X12_faultOfRule) 67 = .ok (.iload_n 1, 1) := by decide +kernel
theorem dx_X12_faultOfRule_68 : decode (go_cc mx_X12_faultOfRule) 68 = .ok (.invokevirtual 173, 3) := by decide +kernel
theorem dx_X12_faultOfRule_71 : decode (go_cc mx_X12_faultOfRule) 71 = .ok (.goto 4, 3) := by decide +kernel
theorem dx_X12_faultOfRule_74 : decode (go_cc mx_X12_faultOfRule) 74 = .ok (.iconst 0, 1) := by decide +kernel
theorem dx_X12_faultOfRule_75 : decode (go_cc mx_X12_faultOfRule) 75 = .ok (.ireturn, 1) := by decide +kernel
theorem dx_X12_symbolByte_0 : decode (go_cc mx_X12_symbolByte) 0 = .ok (.iload_n 0, 1) := by decide +kernel
theorem dx_X12_symbolByte_1 : decode (go_cc mx_X12_symbolByte) 1 = .ok (.invokestatic 177, 3) := by decide +kernel
theorem dx_X12_symbolByte_4 : decode (go_cc mx_X12_symbolByte) 4 = .ok (.ifCond .eq 10, 3) := by decide +kernel
theorem dx_X12_symbolByte_7 : decode (go_cc mx_X12_symbolByte) 7 = .ok (.iload_n 0, 1) := by decide +kernel
theorem dx_X12_symbolByte_8 : decode (go_cc mx_X12_symbolByte) 8 = .ok (.bipush 65, 2) := by decide +kernel
theorem dx_X12_symbolByte_10 : decode (go_cc mx_X12_symbolByte) 10 = .ok (.isub, 1) := by decide +kernel
theorem dx_X12_symbolByte_11 : decode (go_cc mx_X12_symbolByte) 11 = .ok (.goto 10, 3) := by decide +kernel
theorem dx_X12_symbolByte_14 : decode (go_cc mx_X12_symbolByte) 14 = .ok (.bipush 8, 2) := by decide +kernel
theorem dx_X12_symbolByte_16 : decode (go_cc mx_X12_symbolByte) 16 = .ok (.iload_n 0, 1) := by decide +kernel
theorem dx_X12_symbolByte_17 : decode (go_cc mx_X12_symbolByte) 17 = .ok (.iadd, 1) := by decide +kernel
theorem dx_X12_symbolByte_18 : decode (go_cc mx_X12_symbolByte) 18 = .ok (.bipush 97, 2) := by decide +kernel
theorem dx_X12_symbolByte_20 : decode (go_cc mx_X12_symbolByte) 20 = .ok (.isub, 1) := by decide +kernel
theorem dx_X12_symbolByte_21 : decode (go_cc mx_X12_symbolByte) 21 = .ok (.ireturn, 1) := by decide +kernel
theorem dx_X12_isAlike_0 : decode (go_cc mx_X12_isAlike) 0 = .ok (.aload_n 0, 1) := by decide +kernel
theorem dx_X12_isAlike_1 : decode (go_cc mx_X12_isAlike) 1 = .ok (.iload_n 1, 1) := by decide +kernel
theorem dx_X12_isAlike_2 : decode (go_cc mx_X12_isAlike) 2 = .ok (.invokevirtual 148, 3) := by decide +kernel
theorem dx_X12_isAlike_5 : decode (go_cc mx_X12_isAlike) 5 = .ok (.iload_n 2, 1) := by decide +kernel
theorem dx_X12_isAlike_6 : decode (go_cc mx_X12_isAlike) 6 = .ok (.iconst 1, 1) := by decide +kernel
theorem dx_X12_isAlike_7 : decode (go_cc mx_X12_isAlike) 7 = .ok (.isub, 1) := by decide +kernel
theorem dx_X12_isAlike_8 : decode (go_cc mx_X12_isAlike) 8 = .ok (.if_icmp .ne 20, 3) := by decide +kernel
theorem dx_X12_isAlike_11 : decode (go_cc mx_X12_isAlike) 11 = .ok (.aload_n 0, 1) := by decide +kernel
theorem dx_X12_isAlike_12 : decode (go_cc mx_X12_isAlike) 12 = .ok (.iload_n 1, 1) := by decide +kernel
theorem dx_X12_isAlike_13 : decode (go_cc mx_X12_isAlike) 13 = .ok (.invokevirtual 184, 3) := by decide +kernel
theorem dx_X12_isAlike_16 : decode (go_cc mx_X12_isAlike) 16 = .ok (.aload_n 0, 1) := by decide +kernel
theorem dx_X12_isAlike_17 : decode (go_cc mx_X12_isAlike) 17 = .ok (.getfield 20, 3) := by decide +kernel
theorem dx_X12_isAlike_20 : decode (go_cc mx_X12_isAlike) 20 = .ok (.iconst 0, 1) := by decide +kernel
theorem dx_X12_isAlike_21 : decode (go_cc mx_X12_isAlike) 21 = .ok (.iaload, 1) := by decide +kernel
theorem dx_X12_isAlike_22 : decode (go_cc mx_X12_isAlike) 22 = .ok (.invokestatic 187, 3) := by decide +kernel
theorem dx_X12_isAlike_25 : decode (go_cc mx_X12_isAlike) 25 = .ok (.if_icmp .eq 5, 3) := by decide +kernel
theorem dx_X12_isAlike_28 : decode (go_cc mx_X12_isAlike) 28 = .ok (.iconst 0, 1) := by decide +kernel
theorem dx_X12_isAlike_29 : decode (go_cc mx_X12_isAlike) 29 = .ok (.ireturn, 1) := by decide +kernel
theorem dx_X12_isAlike_30 : decode (go_cc mx_X12_isAlike) 30 = .ok (.iconst 1, 1) := by decide +kernel
theorem dx_X12_isAlike_31 : decode (go_cc mx_X12_isAlike) 31 = .ok (.istore_n 3, 1) := by decide +kernel
theorem dx_X12_isAlike_32 : decode (go_cc mx_X12_isAlike) 32 = .ok (.iload_n 3, 1) := by decide +kernel
theorem dx_X12_isAlike_33 : decode (go_cc mx_X12_isAlike) 33 = .ok (.iload_n 2, 1) := by decide +kernel
theorem dx_X12_isAlike_34 : decode (go_cc mx_X12_isAlike) 34 = .ok (.if_icmp .ge 31, 3) := by decide +kernel
theorem dx_X12_isAlike_37 : decode (go_cc mx_X12_isAlike) 37 = .ok (.aload_n 0, 1) := by decide +kernel
theorem dx_X12_isAlike_38 : decode (go_cc mx_X12_isAlike) 38 = .ok (.iload_n 1, 1) := by decide +kernel
theorem dx_X12_isAlike_39 : decode (go_cc mx_X12_isAlike) 39 = .ok (.iload_n 3, 1) := by decide +kernel
theorem dx_X12_isAlike_40 : decode (go_cc mx_X12_isAlike) 40 = .ok (.iconst 1, 1) := by decide +kernel
theorem dx_X12_isAlike_41 : decode (go_cc mx_X12_isAlike) 41 = .ok (.isub, 1) := by decide +kernel
theorem dx_X12_isAlike_42 : decode (go_cc mx_X12_isAlike) 42 = .ok (.invokevirtual 190, 3) := by decide +kernel
theorem dx_X12_isAlike_45 : decode (go_cc mx_X12_isAlike) 45 = .ok (.aload_n 0, 1) := by decide +kernel
theorem dx_X12_isAlike_46 : decode (go_cc mx_X12_isAlike) 46 = .ok (.getfield 20, 3) := by decide +kernel
theorem dx_X12_isAlike_49 : decode (go_cc mx_X12_isAlike) 49 = .ok (.iload_n 3, 1) := by decide +kernel
theorem dx_X12_isAlike_50 : decode (go_cc mx_X12_isAlike) 50 = .ok (.iaload, 1) := by decide +kernel
theorem dx_X12_isAlike_51 : decode (go_cc mx_X12_isAlike) 51 = .ok (.invokestatic 187, 3) := by decide +kernel
theorem dx_X12_isAlike_54 : decode (go_cc mx_X12_isAlike) 54 = .ok (.if_icmp .eq 5, 3) := by decide +kernel
theorem dx_X12_isAlike_57 : decode (go_cc mx_X12_isAlike) 57 = .ok (.iconst 0, 1) := by decide +kernel
theorem dx_X12_isAlike_58 : decode (go_cc mx_X12_isAlike) 58 = .ok (.ireturn, 1) := by decide +kernel
theorem dx_X12_isAlike_59 : decode (go_cc mx_X12_isAlike) 59 = .ok (.iinc 3 1, 3) := by decide +kernel
theorem dx_X12_isAlike_62 : decode (go_cc mx_X12_isAlike) 62 = .ok (.goto (-30), 3) := by decide +kernel
theorem dx_X12_isAlike_65 : decode (go_cc mx_X12_isAlike) 65 = .ok (.iconst 1, 1) := by decide +kernel
theorem dx_X12_isAlike_66 : decode (go_cc mx_X12_isAlike) 66 = .ok (.ireturn, 1) := by decide +kernel
theorem dx_X12_rule_0 : decode (go_cc mx_X12_rule) 0 = .ok (.aload_n 0, 1) := by decide +kernel
theorem dx_X12_rule_1 : decode (go_cc mx_X12_rule) 1 = .ok (.iconst 0, 1) := by decide +kernel
theorem dx_X12_rule_2 : decode (go_cc mx_X12_rule) 2 = .ok (.putfield 139, 3) := by decide +kernel
theorem dx_X12_rule_5 : decode (go_cc mx_X12_rule) 5 = .ok (.iload_n 1, 1) := by decide +kernel
theorem dx_X12_rule_6 : decode (go_cc mx_X12_rule) 6 = .ok (.i2l, 1) := by decide +kernel
theorem dx_X12_rule_7 : decode (go_cc mx_X12_rule) 7 = .ok (.lconst 0, 1) := by decide +kernel
theorem dx_X12_rule_8 : decode (go_cc mx_X12_rule) 8 = .ok (.aload_n 0, 1) := by decide +kernel
theorem dx_X12_rule_9 : decode (go_cc mx_X12_rule) 9 = .ok (.getfield 159, 3) := by decide +kernel
theorem dx_X12_rule_12 : decode (go_cc mx_X12_rule) 12 = .ok (.i2l, 1) := by decide +kernel
theorem dx_X12_rule_13 : decode (go_cc mx_X12_rule) 13 = .ok (.invokestatic 144, 3) := by decide +kernel
theorem dx_X12_rule_16 : decode (go_cc mx_X12_rule) 16 = .ok (.ifCond .ne 6, 3) := by decide +kernel
theorem dx_X12_rule_19 : decode (go_cc mx_X12_rule) 19 = .ok (.bipush (-3), 2) := by decide +kernel
theorem dx_X12_rule_21 : decode (go_cc mx_X12_rule) 21 = .ok (.ireturn, 1) := by decide +kernel
theorem dx_X12_rule_22 : decode (go_cc mx_X12_rule) 22 = .ok (.iconst 0, 1) := by decide +kernel
theorem dx_X12_rule_23 : decode (go_cc mx_X12_rule) 23 = .ok (.istore_n 2, 1) := by decide +kernel
theorem dx_X12_rule_24 : decode (go_cc mx_X12_rule) 24 = .ok (.iload_n 2, 1) := by decide +kernel
theorem dx_X12_rule_25 : decode (go_cc mx_X12_rule) 25 = .ok (.bipush 16, 2) := by decide +kernel
theorem dx_X12_rule_27 : decode (go_cc mx_X12_rule) 27 = .ok (.if_icmp .ge 17, 3) := by decide +kernel
theorem dx_X12_rule_30 : decode (go_cc mx_X12_rule) 30 = .ok (.aload_n 0, 1) := by decide +kernel
theorem dx_X12_rule_31 : decode (go_cc mx_X12_rule) 31 = .ok (.iload_n 2, 1) := by decide +kernel
theorem dx_X12_rule_32 : decode (go_cc mx_X12_rule) 32 = .ok (.invokevirtual 148, 3) := by decide +kernel
theorem dx_X12_rule_35 : decode (go_cc mx_X12_rule) 35 = .ok (.ifCond .le 9, 3) := by decide +kernel
theorem dx_X12_rule_38 : decode (go_cc mx_X12_rule) 38 = .ok (.iinc 2 1, 3) := by decide +kernel
theorem dx_X12_rule_41 : decode (go_cc mx_X12_rule) 41 = .ok (.goto (-17), 3) := by decide +kernel
theorem dx_X12_rule_44 : decode (go_cc mx_X12_rule) 44 = .ok (.iload_n 2, 1) := by decide +kernel
theorem dx_X12_rule_45 : decode (go_cc mx_X12_rule) 45 = .ok (.bipush 16, 2) := by decide +kernel
theorem dx_X12_rule_47 : decode (go_cc mx_X12_rule) 47 = .ok (.if_icmp .ne 6, 3) := by decide +kernel
theorem dx_X12_rule_50 : decode (go_cc mx_X12_rule) 50 = .ok (.bipush (-4), 2) := by decide +kernel
theorem dx_X12_rule_52 : decode (go_cc mx_X12_rule) 52 = .ok (.ireturn, 1) := by decide +kernel
theorem dx_X12_rule_53 : decode (go_cc mx_X12_rule) 53 = .ok (.aload_n 0, 1) := by decide +kernel
theorem dx_X12_rule_54 : decode (go_cc mx_X12_rule) 54 = .ok (.iconst 0, 1) := by decide +kernel
theorem dx_X12_rule_55 : decode (go_cc mx_X12_rule) 55 = .ok (.putfield 159, 3) := by decide +kernel
theorem dx_X12_rule_58 : decode (go_cc mx_X12_rule) 58 = .ok (.aload_n 0, 1) := by decide +kernel
theorem dx_X12_rule_59 : decode (go_cc mx_X12_rule) 59 = .ok (.iconst 0, 1) := by decide +kernel
theorem dx_X12_rule_60 : decode (go_cc mx_X12_rule) 60 = .ok (.putfield 162, 3) := by decide +kernel
theorem dx_X12_rule_63 : decode (go_cc mx_X12_rule) 63 = .ok (.aload_n 0, 1) := by decide +kernel
theorem dx_X12_rule_64 : decode (go_cc mx_X12_rule) 64 = .ok (.iconst (-1), 1) := by decide +kernel
theorem dx_X12_rule_65 : decode (go_cc mx_X12_rule) 65 = .ok (.putfield 23, 3) := by decide +kernel
theorem dx_X12_rule_68 : decode (go_cc mx_X12_rule) 68 = .ok (.aload_n 0, 1) := by decide +kernel
theorem dx_X12_rule_69 : decode (go_cc mx_X12_rule) 69 = .ok (.iload_n 1, 1) := by decide +kernel
theorem dx_X12_rule_70 : decode (go_cc mx_X12_rule) 70 = .ok (.invokevirtual 193, 3) := by decide +kernel
theorem dx_X12_rule_73 : decode (go_cc mx_X12_rule) 73 = .ok (.istore_n 3, 1) := by decide +kernel
theorem dx_X12_rule_74 : decode (go_cc mx_X12_rule) 74 = .ok (.iload_n 3, 1) := by decide +kernel
theorem dx_X12_rule_75 : decode (go_cc mx_X12_rule) 75 = .ok (.ifCond .eq 5, 3) := by decide +kernel
theorem dx_X12_rule_78 : decode (go_cc mx_X12_rule) 78 = .ok (.iload_n 3, 1) := by decide +kernel
theorem dx_X12_rule_79 : decode (go_cc mx_X12_rule) 79 = .ok (.ireturn, 1) := by decide +kernel
theorem dx_X12_rule_80 : decode (go_cc mx_X12_rule) 80 = .ok (.iconst 0, 1) := by decide +kernel
theorem dx_X12_rule_81 : decode (go_cc mx_X12_rule) 81 = .ok (.istore 4, 2) := by decide +kernel
theorem dx_X12_rule_83 : decode (go_cc mx_X12_rule) 83 = .ok (.iload 4, 2) := by decide +kernel
theorem dx_X12_rule_85 : decode (go_cc mx_X12_rule) 85 = .ok (.bipush 16, 2) := by decide +kernel
theorem dx_X12_rule_87 : decode (go_cc mx_X12_rule) 87 = .ok (.if_icmp .ge 22, 3) := by decide +kernel
theorem dx_X12_rule_90 : decode (go_cc mx_X12_rule) 90 = .ok (.aload_n 0, 1) := by decide +kernel
theorem dx_X12_rule_91 : decode (go_cc mx_X12_rule) 91 = .ok (.iload 4, 2) := by decide +kernel
theorem dx_X12_rule_93 : decode (go_cc mx_X12_rule) 93 = .ok (.iload_n 1, 1) := by decide +kernel
theorem dx_X12_rule_94 : decode (go_cc mx_X12_rule) 94 = .ok (.invokevirtual 196, 3) := by decide +kernel
theorem dx_X12_rule_97 : decode (go_cc mx_X12_rule) 97 = .ok (.ifCond .eq 6, 3) := by decide +kernel
theorem dx_X12_rule_100 : decode (go_cc mx_X12_rule) 100 = .ok (.bipush (-5), 2) := by decide +kernel
theorem dx_X12_rule_102 : decode (go_cc mx_X12_rule) 102 = .ok (.ireturn, 1) := by decide +kernel
theorem dx_X12_rule_103 : decode (go_cc mx_X12_rule) 103 = .ok (.iinc 4 1, 3) := by decide +kernel
theorem dx_X12_rule_106 : decode (go_cc mx_X12_rule) 106 = .ok (.goto (-23), 3) := by decide +kernel
theorem dx_X12_rule_109 : decode (go_cc mx_X12_rule) 109 = .ok (.aload_n 0, 1) := by decide +kernel
theorem dx_X12_rule_110 : decode (go_cc mx_X12_rule) 110 = .ok (.invokevirtual 200, 3) := by decide +kernel
theorem dx_X12_rule_113 : decode (go_cc mx_X12_rule) 113 = .ok (.aload_n 0, 1) := by decide +kernel
theorem dx_X12_rule_114 : decode (go_cc mx_X12_rule) 114 = .ok (.getfield 7, 3) := by decide +kernel
theorem dx_X12_rule_117 : decode (go_cc mx_X12_rule) 117 = .ok (.bipush 7, 2) := by decide +kernel
theorem dx_X12_rule_119 : decode (go_cc mx_X12_rule) 119 = .ok (.iload_n 2, 1) := by decide +kernel
theorem dx_X12_rule_120 : decode (go_cc mx_X12_rule) 120 = .ok (.imul, 1) := by decide +kernel
theorem dx_X12_rule_121 : decode (go_cc mx_X12_rule) 121 = .ok (.iconst 0, 1) := by decide +kernel
theorem dx_X12_rule_122 : decode (go_cc mx_X12_rule) 122 = .ok (.iadd, 1) := by decide +kernel
theorem dx_X12_rule_123 : decode (go_cc mx_X12_rule) 123 = .ok (.iload_n 1, 1) := by decide +kernel
theorem dx_X12_rule_124 : decode (go_cc mx_X12_rule) 124 = .ok (.iconst 1, 1) := by decide +kernel
theorem dx_X12_rule_125 : decode (go_cc mx_X12_rule) 125 = .ok (.isub, 1) := by decide +kernel
theorem dx_X12_rule_126 : decode (go_cc mx_X12_rule) 126 = .ok (.iastore, 1) := by decide +kernel
theorem dx_X12_rule_127 : decode (go_cc mx_X12_rule) 127 = .ok (.aload_n 0, 1) := by decide +kernel
theorem dx_X12_rule_128 : decode (go_cc mx_X12_rule) 128 = .ok (.getfield 7, 3) := by decide +kernel
theorem dx_X12_rule_131 : decode (go_cc mx_X12_rule) 131 = .ok (.bipush 7, 2) := by decide +kernel
theorem dx_X12_rule_133 : decode (go_cc mx_X12_rule) 133 = .ok (.iload_n 2, 1) := by decide +kernel
theorem dx_X12_rule_134 : decode (go_cc mx_X12_rule) 134 = .ok (.imul, 1) := by decide +kernel
theorem dx_X12_rule_135 : decode (go_cc mx_X12_rule) 135 = .ok (.iconst 1, 1) := by decide +kernel
theorem dx_X12_rule_136 : decode (go_cc mx_X12_rule) 136 = .ok (.iadd, 1) := by decide +kernel
theorem dx_X12_rule_137 : decode (go_cc mx_X12_rule) 137 = .ok (.aload_n 0, 1) := by decide +kernel
theorem dx_X12_rule_138 : decode (go_cc mx_X12_rule) 138 = .ok (.getfield 20, 3) := by decide +kernel
theorem dx_X12_rule_141 : decode (go_cc mx_X12_rule) 141 = .ok (.iconst 0, 1) := by decide +kernel
theorem dx_X12_rule_142 : decode (go_cc mx_X12_rule) 142 = .ok (.iaload, 1) := by decide +kernel
theorem dx_X12_rule_143 : decode (go_cc mx_X12_rule) 143 = .ok (.invokestatic 187, 3) := by decide +kernel
theorem dx_X12_rule_146 : decode (go_cc mx_X12_rule) 146 = .ok (.iastore, 1) := by decide +kernel
theorem dx_X12_rule_147 : decode (go_cc mx_X12_rule) 147 = .ok (.iconst 1, 1) := by decide +kernel
theorem dx_X12_rule_148 : decode (go_cc mx_X12_rule) 148 = .ok (.istore 4, 2) := by decide +kernel
theorem dx_X12_rule_150 : decode (go_cc mx_X12_rule) 150 = .ok (.iload 4, 2) := by decide +kernel
theorem dx_X12_rule_152 : decode (go_cc mx_X12_rule) 152 = .ok (.iload_n 1, 1) := by decide +kernel
theorem dx_X12_rule_153 : decode (go_cc mx_X12_rule) 153 = .ok (.if_icmp .ge 35, 3) := by decide +kernel
theorem dx_X12_rule_156 : decode (go_cc mx_X12_rule) 156 = .ok (.aload_n 0, 1) := by decide +kernel
theorem dx_X12_rule_157 : decode (go_cc mx_X12_rule) 157 = .ok (.getfield 7, 3) := by decide +kernel
theorem dx_X12_rule_160 : decode (go_cc mx_X12_rule) 160 = .ok (.bipush 7, 2) := by decide +kernel
theorem dx_X12_rule_162 : decode (go_cc mx_X12_rule) 162 = .ok (.iload_n 2, 1) := by decide +kernel
theorem dx_X12_rule_163 : decode (go_cc mx_X12_rule) 163 = .ok (.imul, 1) := by decide +kernel
theorem dx_X12_rule_164 : decode (go_cc mx_X12_rule) 164 = .ok (.iconst 2, 1) := by decide +kernel
theorem dx_X12_rule_165 : decode (go_cc mx_X12_rule) 165 = .ok (.iadd, 1) := by decide +kernel
theorem dx_X12_rule_166 : decode (go_cc mx_X12_rule) 166 = .ok (.iload 4, 2) := by decide +kernel
theorem dx_X12_rule_168 : decode (go_cc mx_X12_rule) 168 = .ok (.iadd, 1) := by decide +kernel
theorem dx_X12_rule_169 : decode (go_cc mx_X12_rule) 169 = .ok (.iconst 1, 1) := by decide +kernel
theorem dx_X12_rule_170 : decode (go_cc mx_X12_rule) 170 = .ok (.isub, 1) := by decide +kernel
theorem dx_X12_rule_171 : decode (go_cc mx_X12_rule) 171 = .ok (.aload_n 0, 1) := by decide +kernel
theorem dx_X12_rule_172 : decode (go_cc mx_X12_rule) 172 = .ok (.getfield 20, 3) := by decide +kernel
theorem dx_X12_rule_175 : decode (go_cc mx_X12_rule) 175 = .ok (.iload 4, 2) := by decide +kernel
theorem dx_X12_rule_177 : decode (go_cc mx_X12_rule) 177 = .ok (.iaload, 1) := by decide +kernel
theorem dx_X12_rule_178 : decode (go_cc mx_X12_rule) 178 = .ok (.invokestatic 187, 3) := by decide +kernel
theorem dx_X12_rule_181 : decode (go_cc mx_X12_rule) 181 = .ok (.iastore, 1) := by decide +kernel
theorem dx_X12_rule_182 : decode (go_cc mx_X12_rule) 182 = .ok (.iinc 4 1, 3) := by decide +kernel
theorem dx_X12_rule_185 : decode (go_cc mx_X12_rule) 185 = .ok (.goto (-35), 3) := by decide +kernel
theorem dx_X12_rule_188 : decode (go_cc mx_X12_rule) 188 = .ok (.iload_n 2, 1) := by decide +kernel
theorem dx_X12_rule_189 : decode (go_cc mx_X12_rule) 189 = .ok (.ireturn, 1) := by decide +kernel
theorem dx_X12_word_0 : decode (go_cc mx_X12_word) 0 = .ok (.aload_n 0, 1) := by decide +kernel
theorem dx_X12_word_1 : decode (go_cc mx_X12_word) 1 = .ok (.iconst 0, 1) := by decide +kernel
theorem dx_X12_word_2 : decode (go_cc mx_X12_word) 2 = .ok (.putfield 139, 3) := by decide +kernel
theorem dx_X12_word_5 : decode (go_cc mx_X12_word) 5 = .ok (.iload_n 1, 1) := by decide +kernel
theorem dx_X12_word_6 : decode (go_cc mx_X12_word) 6 = .ok (.i2l, 1) := by decide +kernel
theorem dx_X12_word_7 : decode (go_cc mx_X12_word) 7 = .ok (.lconst 0, 1) := by decide +kernel
theorem dx_X12_word_8 : decode (go_cc mx_X12_word) 8 = .ok (.aload_n 0, 1) := by decide +kernel
theorem dx_X12_word_9 : decode (go_cc mx_X12_word) 9 = .ok (.getfield 159, 3) := by decide +kernel
theorem dx_X12_word_12 : decode (go_cc mx_X12_word) 12 = .ok (.i2l, 1) := by decide +kernel
theorem dx_X12_word_13 : decode (go_cc mx_X12_word) 13 = .ok (.invokestatic 144, 3) := by decide +kernel
theorem dx_X12_word_16 : decode (go_cc mx_X12_word) 16 = .ok (.ifCond .ne 6, 3) := by decide +kernel
theorem dx_X12_word_19 : decode (go_cc mx_X12_word) 19 = .ok (.bipush (-3), 2) := by decide +kernel
theorem dx_X12_word_21 : decode (go_cc mx_X12_word) 21 = .ok (.ireturn, 1) := by decide +kernel
theorem dx_X12_word_22 : decode (go_cc mx_X12_word) 22 = .ok (.aload_n 0, 1) := by decide +kernel
theorem dx_X12_word_23 : decode (go_cc mx_X12_word) 23 = .ok (.iconst 0, 1) := by decide +kernel
theorem dx_X12_word_24 : decode (go_cc mx_X12_word) 24 = .ok (.putfield 159, 3) := by decide +kernel
theorem dx_X12_word_27 : decode (go_cc mx_X12_word) 27 = .ok (.aload_n 0, 1) := by decide +kernel
theorem dx_X12_word_28 : decode (go_cc mx_X12_word) 28 = .ok (.iconst 0, 1) := by decide +kernel
theorem dx_X12_word_29 : decode (go_cc mx_X12_word) 29 = .ok (.putfield 162, 3) := by decide +kernel
theorem dx_X12_word_32 : decode (go_cc mx_X12_word) 32 = .ok (.aload_n 0, 1) := by decide +kernel
theorem dx_X12_word_33 : decode (go_cc mx_X12_word) 33 = .ok (.iconst (-1), 1) := by decide +kernel
theorem dx_X12_word_34 : decode (go_cc mx_X12_word) 34 = .ok (.putfield 23, 3) := by decide +kernel
theorem dx_X12_word_37 : decode (go_cc mx_X12_word) 37 = .ok (.iconst 0, 1) := by decide +kernel
theorem dx_X12_word_38 : decode (go_cc mx_X12_word) 38 = .ok (.istore_n 2, 1) := by decide +kernel
theorem dx_X12_word_39 : decode (go_cc mx_X12_word) 39 = .ok (.iload_n 2, 1) := by decide +kernel
theorem dx_X12_word_40 : decode (go_cc mx_X12_word) 40 = .ok (.iload_n 1, 1) := by decide +kernel
theorem dx_X12_word_41 : decode (go_cc mx_X12_word) 41 = .ok (.if_icmp .ge 41, 3) := by decide +kernel
theorem dx_X12_word_44 : decode (go_cc mx_X12_word) 44 = .ok (.iload_n 2, 1) := by decide +kernel
theorem dx_X12_word_45 : decode (go_cc mx_X12_word) 45 = .ok (.bipush 14, 2) := by decide +kernel
theorem dx_X12_word_47 : decode (go_cc mx_X12_word) 47 = .ok (.if_icmp .ne 10, 3) := by decide +kernel
theorem dx_X12_word_50 : decode (go_cc mx_X12_word) 50 = .ok (.aload_n 0, 1) := by decide +kernel
theorem dx_X12_word_51 : decode (go_cc mx_X12_word) 51 = .ok (.iconst 3, 1) := by decide +kernel
theorem dx_X12_word_52 : decode (go_cc mx_X12_word) 52 = .ok (.iload_n 2, 1) := by decide +kernel
theorem dx_X12_word_53 : decode (go_cc mx_X12_word) 53 = .ok (.invokevirtual 173, 3) := by decide +kernel
theorem dx_X12_word_56 : decode (go_cc mx_X12_word) 56 = .ok (.ireturn, 1) := by decide +kernel
theorem dx_X12_word_57 : decode (go_cc mx_X12_word) 57 = .ok (.aload_n 0, 1) := by decide +kernel
theorem dx_X12_word_58 : decode (go_cc mx_X12_word) 58 = .ok (.getfield 20, 3) := by decide +kernel
theorem dx_X12_word_61 : decode (go_cc mx_X12_word) 61 = .ok (.iload_n 2, 1) := by decide +kernel
theorem dx_X12_word_62 : decode (go_cc mx_X12_word) 62 = .ok (.iaload, 1) := by decide +kernel
theorem dx_X12_word_63 : decode (go_cc mx_X12_word) 63 = .ok (.invokestatic 181, 3) := by decide +kernel
theorem dx_X12_word_66 : decode (go_cc mx_X12_word) 66 = .ok (.ifCond .ne 10, 3) := by decide +kernel
theorem dx_X12_word_69 : decode (go_cc mx_X12_word) 69 = .ok (.aload_n 0, 1) := by decide +kernel
theorem dx_X12_word_70 : decode (go_cc mx_X12_word) 70 = .ok (.iconst 1, 1) := by decide +kernel
theorem dx_X12_word_71 : decode (go_cc mx_X12_word) 71 = .ok (.iload_n 2, 1) := by decide +kernel
theorem dx_X12_word_72 : decode (go_cc mx_X12_word) 72 = .ok (.invokevirtual 173, 3) := by decide +kernel
theorem dx_X12_word_75 : decode (go_cc mx_X12_word) 75 = .ok (.ireturn, 1) := by decide +kernel
theorem dx_X12_word_76 : decode (go_cc mx_X12_word) 76 = .ok (.iinc 2 1, 3) := by decide +kernel
theorem dx_X12_word_79 : decode (go_cc mx_X12_word) 79 = .ok (.goto (-40), 3) := by decide +kernel
theorem dx_X12_word_82 : decode (go_cc mx_X12_word) 82 = .ok (.aload_n 0, 1) := by decide +kernel
theorem dx_X12_word_83 : decode (go_cc mx_X12_word) 83 = .ok (.invokevirtual 200, 3) := by decide +kernel
theorem dx_X12_word_86 : decode (go_cc mx_X12_word) 86 = .ok (.aload_n 0, 1) := by decide +kernel
theorem dx_X12_word_87 : decode (go_cc mx_X12_word) 87 = .ok (.getfield 7, 3) := by decide +kernel
theorem dx_X12_word_90 : decode (go_cc mx_X12_word) 90 = .ok (.bipush 113, 2) := by decide +kernel
theorem dx_X12_word_92 : decode (go_cc mx_X12_word) 92 = .ok (.iload_n 1, 1) := by decide +kernel
theorem dx_X12_word_93 : decode (go_cc mx_X12_word) 93 = .ok (.iastore, 1) := by decide +kernel
theorem dx_X12_word_94 : decode (go_cc mx_X12_word) 94 = .ok (.iconst 0, 1) := by decide +kernel
theorem dx_X12_word_95 : decode (go_cc mx_X12_word) 95 = .ok (.istore_n 2, 1) := by decide +kernel
theorem dx_X12_word_96 : decode (go_cc mx_X12_word) 96 = .ok (.iload_n 2, 1) := by decide +kernel
theorem dx_X12_word_97 : decode (go_cc mx_X12_word) 97 = .ok (.bipush 14, 2) := by decide +kernel
theorem dx_X12_word_99 : decode (go_cc mx_X12_word) 99 = .ok (.if_icmp .ge 36, 3) := by decide +kernel
theorem dx_X12_word_102 : decode (go_cc mx_X12_word) 102 = .ok (.aload_n 0, 1) := by decide +kernel
theorem dx_X12_word_103 : decode (go_cc mx_X12_word) 103 = .ok (.getfield 7, 3) := by decide +kernel
theorem dx_X12_word_106 : decode (go_cc mx_X12_word) 106 = .ok (.bipush 114, 2) := by decide +kernel
theorem dx_X12_word_108 : decode (go_cc mx_X12_word) 108 = .ok (.iload_n 2, 1) := by decide +kernel
theorem dx_X12_word_109 : decode (go_cc mx_X12_word) 109 = .ok (.iadd, 1) := by decide +kernel
theorem dx_X12_word_110 : decode (go_cc mx_X12_word) 110 = .ok (.iload_n 2, 1) := by decide +kernel
theorem dx_X12_word_111 : decode (go_cc mx_X12_word) 111 = .ok (.iload_n 1, 1) := by decide +kernel
theorem dx_X12_word_112 : decode (go_cc mx_X12_word) 112 = .ok (.if_icmp .ge 15, 3) := by decide +kernel
theorem dx_X12_word_115 : decode (go_cc mx_X12_word) 115 = .ok (.aload_n 0, 1) := by decide +kernel
theorem dx_X12_word_116 : decode (go_cc mx_X12_word) 116 = .ok (.getfield 20, 3) := by decide +kernel
theorem dx_X12_word_119 : decode (go_cc mx_X12_word) 119 = .ok (.iload_n 2, 1) := by decide +kernel
theorem dx_X12_word_120 : decode (go_cc mx_X12_word) 120 = .ok (.iaload, 1) := by decide +kernel
theorem dx_X12_word_121 : decode (go_cc mx_X12_word) 121 = .ok (.invokestatic 187, 3) := by decide +kernel
theorem dx_X12_word_124 : decode (go_cc mx_X12_word) 124 = .ok (.goto 4, 3) := by decide +kernel
theorem dx_X12_word_127 : decode (go_cc mx_X12_word) 127 = .ok (.iconst 0, 1) := by decide +kernel
theorem dx_X12_word_128 : decode (go_cc mx_X12_word) 128 = .ok (.iastore, 1) := by decide +kernel
theorem dx_X12_word_129 : decode (go_cc mx_X12_word) 129 = .ok (.iinc 2 1, 3) := by decide +kernel
theorem dx_X12_word_132 : decode (go_cc mx_X12_word) 132 = .ok (.goto (-36), 3) := by decide +kernel
theorem dx_X12_word_135 : decode (go_cc mx_X12_word) 135 = .ok (.iload_n 1, 1) := by decide +kernel
theorem dx_X12_word_136 : decode (go_cc mx_X12_word) 136 = .ok (.ireturn, 1) := by decide +kernel
theorem dx_X12_fault_0 : decode (go_cc mx_X12_fault) 0 = .ok (.aload_n 0, 1) := by decide +kernel
theorem dx_X12_fault_1 : decode (go_cc mx_X12_fault) 1 = .ok (.iconst 0, 1) := by decide +kernel
theorem dx_X12_fault_2 : decode (go_cc mx_X12_fault) 2 = .ok (.putfield 139, 3) := by decide +kernel
theorem dx_X12_fault_5 : decode (go_cc mx_X12_fault) 5 = .ok (.iload_n 1, 1) := by decide +kernel
theorem dx_X12_fault_6 : decode (go_cc mx_X12_fault) 6 = .ok (.ifCond .ne 10, 3) := by decide +kernel
theorem dx_X12_fault_9 : decode (go_cc mx_X12_fault) 9 = .ok (.aload_n 0, 1) := by decide +kernel
theorem dx_X12_fault_10 : decode (go_cc mx_X12_fault) 10 = .ok (.getfield 162, 3) := by decide +kernel
theorem dx_X12_fault_13 : decode (go_cc mx_X12_fault) 13 = .ok (.goto 16, 3) := by decide +kernel
theorem dx_X12_fault_16 : decode (go_cc mx_X12_fault) 16 = .ok (.iload_n 1, 1) := by decide +kernel
theorem dx_X12_fault_17 : decode (go_cc mx_X12_fault) 17 = .ok (.iconst 1, 1) := by decide +kernel
theorem dx_X12_fault_18 : decode (go_cc mx_X12_fault) 18 = .ok (.if_icmp .ne 10, 3) := by decide +kernel
theorem dx_X12_fault_21 : decode (go_cc mx_X12_fault) 21 = .ok (.aload_n 0, 1) := by decide +kernel
theorem dx_X12_fault_22 : decode (go_cc mx_X12_fault) 22 = .ok (.getfield 23, 3) := by decide +kernel
theorem dx_X12_fault_25 : decode (go_cc mx_X12_fault) 25 = .ok (.goto 4, 3) := by decide +kernel
theorem dx_X12_fault_28 : decode (go_cc mx_X12_fault) 28 = .ok (.iconst (-1), 1) := by decide +kernel
theorem dx_X12_fault_29 : decode (go_cc mx_X12_fault) 29 = .ok (.ireturn, 1) := by decide +kernel
theorem dx_X12_ruleMany_0 : decode (go_cc mx_X12_ruleMany) 0 = .ok (.iconst 0, 1) := by decide +kernel
theorem dx_X12_ruleMany_1 : decode (go_cc mx_X12_ruleMany) 1 = .ok (.istore_n 1, 1) := by decide +kernel
theorem dx_X12_ruleMany_2 : decode (go_cc mx_X12_ruleMany) 2 = .ok (.iconst 0, 1) := by decide +kernel
theorem dx_X12_ruleMany_3 : decode (go_cc mx_X12_ruleMany) 3 = .ok (.istore_n 2, 1) := by decide +kernel
theorem dx_X12_ruleMany_4 : decode (go_cc mx_X12_ruleMany) 4 = .ok (.iload_n 2, 1) := by decide +kernel
theorem dx_X12_ruleMany_5 : decode (go_cc mx_X12_ruleMany) 5 = .ok (.bipush 16, 2) := by decide +kernel
theorem dx_X12_ruleMany_7 : decode (go_cc mx_X12_ruleMany) 7 = .ok (.if_icmp .ge 25, 3) := by decide +kernel
theorem dx_X12_ruleMany_10 : decode (go_cc mx_X12_ruleMany) 10 = .ok (.iload_n 1, 1) := by decide +kernel
theorem dx_X12_ruleMany_11 : decode (go_cc mx_X12_ruleMany) 11 = .ok (.aload_n 0, 1) := by decide +kernel
theorem dx_X12_ruleMany_12 : decode (go_cc mx_X12_ruleMany) 12 = .ok (.iload_n 2, 1) := by decide +kernel
theorem dx_X12_ruleMany_13 : decode (go_cc mx_X12_ruleMany) 13 = .ok (.invokevirtual 148, 3) := by decide +kernel
theorem dx_X12_ruleMany_16 : decode (go_cc mx_X12_ruleMany) 16 = .ok (.ifCond .le 7, 3) := by decide +kernel
theorem dx_X12_ruleMany_19 : decode (go_cc mx_X12_ruleMany) 19 = .ok (.iconst 1, 1) := by decide +kernel
theorem dx_X12_ruleMany_20 : decode (go_cc mx_X12_ruleMany) 20 = .ok (.goto 4, 3) := by decide +kernel
theorem dx_X12_ruleMany_23 : decode (go_cc mx_X12_ruleMany) 23 = .ok (.iconst 0, 1) := by decide +kernel
theorem dx_X12_ruleMany_24 : decode (go_cc mx_X12_ruleMany) 24 = .ok (.iadd, 1) := by decide +kernel
theorem dx_X12_ruleMany_25 : decode (go_cc mx_X12_ruleMany) 25 = .ok (.istore_n 1, 1) := by decide +kernel
theorem dx_X12_ruleMany_26 : decode (go_cc mx_X12_ruleMany) 26 = .ok (.iinc 2 1, 3) := by decide +kernel
theorem dx_X12_ruleMany_29 : decode (go_cc mx_X12_ruleMany) 29 = .ok (.goto (-25), 3) := by decide +kernel
theorem dx_X12_ruleMany_32 : decode (go_cc mx_X12_ruleMany) 32 = .ok (.iload_n 1, 1) := by decide +kernel
theorem dx_X12_ruleMany_33 : decode (go_cc mx_X12_ruleMany) 33 = .ok (.ireturn, 1) := by decide +kernel
theorem dx_X12_drop_0 : decode (go_cc mx_X12_drop) 0 = .ok (.aload_n 0, 1) := by decide +kernel
theorem dx_X12_drop_1 : decode (go_cc mx_X12_drop) 1 = .ok (.iconst 0, 1) := by decide +kernel
theorem dx_X12_drop_2 : decode (go_cc mx_X12_drop) 2 = .ok (.putfield 139, 3) := by decide +kernel
theorem dx_X12_drop_5 : decode (go_cc mx_X12_drop) 5 = .ok (.aload_n 0, 1) := by decide +kernel
theorem dx_X12_drop_6 : decode (go_cc mx_X12_drop) 6 = .ok (.iload_n 1, 1) := by decide +kernel
theorem dx_X12_drop_7 : decode (go_cc mx_X12_drop) 7 = .ok (.invokevirtual 203, 3) := by decide +kernel
theorem dx_X12_drop_10 : decode (go_cc mx_X12_drop) 10 = .ok (.ifCond .ne 6, 3) := by decide +kernel
theorem dx_X12_drop_13 : decode (go_cc mx_X12_drop) 13 = .ok (.bipush (-2), 2) := by decide +kernel
theorem dx_X12_drop_15 : decode (go_cc mx_X12_drop) 15 = .ok (.ireturn, 1) := by decide +kernel
theorem dx_X12_drop_16 : decode (go_cc mx_X12_drop) 16 = .ok (.aload_n 0, 1) := by decide +kernel
theorem dx_X12_drop_17 : decode (go_cc mx_X12_drop) 17 = .ok (.invokevirtual 200, 3) := by decide +kernel
theorem dx_X12_drop_20 : decode (go_cc mx_X12_drop) 20 = .ok (.iconst 0, 1) := by decide +kernel
theorem dx_X12_drop_21 : decode (go_cc mx_X12_drop) 21 = .ok (.istore_n 2, 1) := by decide +kernel
theorem dx_X12_drop_22 : decode (go_cc mx_X12_drop) 22 = .ok (.iload_n 2, 1) := by decide +kernel
theorem dx_X12_drop_23 : decode (go_cc mx_X12_drop) 23 = .ok (.bipush 7, 2) := by decide +kernel
theorem dx_X12_drop_25 : decode (go_cc mx_X12_drop) 25 = .ok (.if_icmp .ge 21, 3) := by decide +kernel
theorem dx_X12_drop_28 : decode (go_cc mx_X12_drop) 28 = .ok (.aload_n 0, 1) := by decide +kernel
theorem dx_X12_drop_29 : decode (go_cc mx_X12_drop) 29 = .ok (.getfield 7, 3) := by decide +kernel
theorem dx_X12_drop_32 : decode (go_cc mx_X12_drop) 32 = .ok (.bipush 7, 2) := by decide +kernel
theorem dx_X12_drop_34 : decode (go_cc mx_X12_drop) 34 = .ok (.iload_n 1, 1) := by decide +kernel
theorem dx_X12_drop_35 : decode (go_cc mx_X12_drop) 35 = .ok (.imul, 1) := by decide +kernel
theorem dx_X12_drop_36 : decode (go_cc mx_X12_drop) 36 = .ok (.iload_n 2, 1) := by decide +kernel
theorem dx_X12_drop_37 : decode (go_cc mx_X12_drop) 37 = .ok (.iadd, 1) := by decide +kernel
theorem dx_X12_drop_38 : decode (go_cc mx_X12_drop) 38 = .ok (.iconst 0, 1) := by decide +kernel
theorem dx_X12_drop_39 : decode (go_cc mx_X12_drop) 39 = .ok (.iastore, 1) := by decide +kernel
theorem dx_X12_drop_40 : decode (go_cc mx_X12_drop) 40 = .ok (.iinc 2 1, 3) := by decide +kernel
theorem dx_X12_drop_43 : decode (go_cc mx_X12_drop) 43 = .ok (.goto (-21), 3) := by decide +kernel
theorem dx_X12_drop_46 : decode (go_cc mx_X12_drop) 46 = .ok (.aload_n 0, 1) := by decide +kernel
theorem dx_X12_drop_47 : decode (go_cc mx_X12_drop) 47 = .ok (.invokevirtual 206, 3) := by decide +kernel
theorem dx_X12_drop_50 : decode (go_cc mx_X12_drop) 50 = .ok (.ireturn, 1) := by decide +kernel
theorem dx_X12_isSymbol_0 : decode (go_cc mx_X12_isSymbol) 0 = .ok (.iload_n 0, 1) := by decide +kernel
theorem dx_X12_isSymbol_1 : decode (go_cc mx_X12_isSymbol) 1 = .ok (.i2l, 1) := by decide +kernel
theorem dx_X12_isSymbol_2 : decode (go_cc mx_X12_isSymbol) 2 = .ok (.lconst 0, 1) := by decide +kernel
theorem dx_X12_isSymbol_3 : decode (go_cc mx_X12_isSymbol) 3 = .ok (.ldc2_w 210, 3) := by decide +kernel
theorem dx_X12_isSymbol_6 : decode (go_cc mx_X12_isSymbol) 6 = .ok (.invokestatic 144, 3) := by decide +kernel
theorem dx_X12_isSymbol_9 : decode (go_cc mx_X12_isSymbol) 9 = .ok (.ireturn, 1) := by decide +kernel
theorem dx_X12_start_0 : decode (go_cc mx_X12_start) 0 = .ok (.aload_n 0, 1) := by decide +kernel
theorem dx_X12_start_1 : decode (go_cc mx_X12_start) 1 = .ok (.iconst 0, 1) := by decide +kernel
theorem dx_X12_start_2 : decode (go_cc mx_X12_start) 2 = .ok (.putfield 139, 3) := by decide +kernel
theorem dx_X12_start_5 : decode (go_cc mx_X12_start) 5 = .ok (.iload_n 1, 1) := by decide +kernel
theorem dx_X12_start_6 : decode (go_cc mx_X12_start) 6 = .ok (.invokestatic 212, 3) := by decide +kernel
theorem dx_X12_start_9 : decode (go_cc mx_X12_start) 9 = .ok (.ifCond .ne 6, 3) := by decide +kernel
theorem dx_X12_start_12 : decode (go_cc mx_X12_start) 12 = .ok (.bipush (-2), 2) := by decide +kernel
theorem dx_X12_start_14 : decode (go_cc mx_X12_start) 14 = .ok (.ireturn, 1) := by decide +kernel
theorem dx_X12_start_15 : decode (go_cc mx_X12_start) 15 = .ok (.aload_n 0, 1) := by decide +kernel
theorem dx_X12_start_16 : decode (go_cc mx_X12_start) 16 = .ok (.getfield 7, 3) := by decide +kernel
theorem dx_X12_start_19 : decode (go_cc mx_X12_start) 19 = .ok (.bipush 112, 2) := by decide +kernel
theorem dx_X12_start_21 : decode (go_cc mx_X12_start) 21 = .ok (.iaload, 1) := by decide +kernel
theorem dx_X12_start_22 : decode (go_cc mx_X12_start) 22 = .ok (.istore_n 2, 1) := by decide +kernel
theorem dx_X12_start_23 : decode (go_cc mx_X12_start) 23 = .ok (.iload_n 2, 1) := by decide +kernel
theorem dx_X12_start_24 : decode (go_cc mx_X12_start) 24 = .ok (.iload_n 1, 1) := by decide +kernel
theorem dx_X12_start_25 : decode (go_cc mx_X12_start) 25 = .ok (.if_icmp .ne 6, 3) := by decide +kernel
theorem dx_X12_start_28 : decode (go_cc mx_X12_start) 28 = .ok (.bipush (-5), 2) := by decide +kernel
theorem dx_X12_start_30 : decode (go_cc mx_X12_start) 30 = .ok (.ireturn, 1) := by decide +kernel
theorem dx_X12_start_31 : decode (go_cc mx_X12_start) 31 = .ok (.aload_n 0, 1) := by decide +kernel
theorem dx_X12_start_32 : decode (go_cc mx_X12_start) 32 = .ok (.invokevirtual 200, 3) := by decide +kernel
theorem dx_X12_start_35 : decode (go_cc mx_X12_start) 35 = .ok (.aload_n 0, 1) := by decide +kernel
theorem dx_X12_start_36 : decode (go_cc mx_X12_start) 36 = .ok (.getfield 7, 3) := by decide +kernel
theorem dx_X12_start_39 : decode (go_cc mx_X12_start) 39 = .ok (.bipush 112, 2) := by decide +kernel
theorem dx_X12_start_41 : decode (go_cc mx_X12_start) 41 = .ok (.iload_n 1, 1) := by decide +kernel
theorem dx_X12_start_42 : decode (go_cc mx_X12_start) 42 = .ok (.iastore, 1) := by decide +kernel
theorem dx_X12_start_43 : decode (go_cc mx_X12_start) 43 = .ok (.iload_n 2, 1) := by decide +kernel
theorem dx_X12_start_44 : decode (go_cc mx_X12_start) 44 = .ok (.ireturn, 1) := by decide +kernel
theorem dx_X12_part_0 : decode (go_cc mx_X12_part) 0 = .ok (.aload_n 0, 1) := by decide +kernel
theorem dx_X12_part_1 : decode (go_cc mx_X12_part) 1 = .ok (.iconst 0, 1) := by decide +kernel
theorem dx_X12_part_2 : decode (go_cc mx_X12_part) 2 = .ok (.putfield 139, 3) := by decide +kernel
theorem dx_X12_part_5 : decode (go_cc mx_X12_part) 5 = .ok (.aload_n 0, 1) := by decide +kernel
theorem dx_X12_part_6 : decode (go_cc mx_X12_part) 6 = .ok (.iload_n 1, 1) := by decide +kernel
theorem dx_X12_part_7 : decode (go_cc mx_X12_part) 7 = .ok (.invokevirtual 203, 3) := by decide +kernel
theorem dx_X12_part_10 : decode (go_cc mx_X12_part) 10 = .ok (.ifCond .ne 6, 3) := by decide +kernel
theorem dx_X12_part_13 : decode (go_cc mx_X12_part) 13 = .ok (.bipush (-2), 2) := by decide +kernel
theorem dx_X12_part_15 : decode (go_cc mx_X12_part) 15 = .ok (.ireturn, 1) := by decide +kernel
theorem dx_X12_part_16 : decode (go_cc mx_X12_part) 16 = .ok (.iload_n 2, 1) := by decide +kernel
theorem dx_X12_part_17 : decode (go_cc mx_X12_part) 17 = .ok (.iconst (-1), 1) := by decide +kernel
theorem dx_X12_part_18 : decode (go_cc mx_X12_part) 18 = .ok (.if_icmp .ge 6, 3) := by decide +kernel
theorem dx_X12_part_21 : decode (go_cc mx_X12_part) 21 = .ok (.bipush (-3), 2) := by decide +kernel
theorem dx_X12_part_23 : decode (go_cc mx_X12_part) 23 = .ok (.ireturn, 1) := by decide +kernel
theorem dx_X12_part_24 : decode (go_cc mx_X12_part) 24 = .ok (.iload_n 2, 1) := by decide +kernel
theorem dx_X12_part_25 : decode (go_cc mx_X12_part) 25 = .ok (.iconst (-1), 1) := by decide +kernel
theorem dx_X12_part_26 : decode (go_cc mx_X12_part) 26 = .ok (.if_icmp .ne 9, 3) := by decide +kernel
theorem dx_X12_part_29 : decode (go_cc mx_X12_part) 29 = .ok (.aload_n 0, 1) := by decide +kernel
theorem dx_X12_part_30 : decode (go_cc mx_X12_part) 30 = .ok (.iload_n 1, 1) := by decide +kernel
theorem dx_X12_part_31 : decode (go_cc mx_X12_part) 31 = .ok (.invokevirtual 184, 3) := by decide +kernel
theorem dx_X12_part_34 : decode (go_cc mx_X12_part) 34 = .ok (.ireturn, 1) := by decide +kernel
theorem dx_X12_part_35 : decode (go_cc mx_X12_part) 35 = .ok (.iload_n 2, 1) := by decide +kernel
theorem dx_X12_part_36 : decode (go_cc mx_X12_part) 36 = .ok (.aload_n 0, 1) := by decide +kernel
theorem dx_X12_part_37 : decode (go_cc mx_X12_part) 37 = .ok (.iload_n 1, 1) := by decide +kernel
theorem dx_X12_part_38 : decode (go_cc mx_X12_part) 38 = .ok (.invokevirtual 148, 3) := by decide +kernel
theorem dx_X12_part_41 : decode (go_cc mx_X12_part) 41 = .ok (.if_icmp .ge 12, 3) := by decide +kernel
theorem dx_X12_part_44 : decode (go_cc mx_X12_part) 44 = .ok (.aload_n 0, 1) := by decide +kernel
theorem dx_X12_part_45 : decode (go_cc mx_X12_part) 45 = .ok (.iload_n 1, 1) := by decide +kernel
theorem dx_X12_part_46 : decode (go_cc mx_X12_part) 46 = .ok (.iload_n 2, 1) := by decide +kernel
theorem dx_X12_part_47 : decode (go_cc mx_X12_part) 47 = .ok (.invokevirtual 190, 3) := by decide +kernel
theorem dx_X12_part_50 : decode (go_cc mx_X12_part) 50 = .ok (.goto 4, 3) := by decide +kernel
theorem dx_X12_part_53 : decode (go_cc mx_X12_part) 53 = .ok (.iconst (-1), 1) := by decide +kernel
theorem dx_X12_part_54 : decode (go_cc mx_X12_part) 54 = .ok (.ireturn, 1) := by decide +kernel
theorem dx_X12_laysPairs_0 : decode (go_cc mx_X12_laysPairs) 0 = .ok (.aload_n 0, 1) := by decide +kernel
theorem dx_X12_laysPairs_1 : decode (go_cc mx_X12_laysPairs) 1 = .ok (.iconst 0, 1) := by decide +kernel
theorem dx_X12_laysPairs_2 : decode (go_cc mx_X12_laysPairs) 2 = .ok (.putfield 215, 3) := by decide +kernel
theorem dx_X12_laysPairs_5 : decode (go_cc mx_X12_laysPairs) 5 = .ok (.aload_n 0, 1) := by decide +kernel
theorem dx_X12_laysPairs_6 : decode (go_cc mx_X12_laysPairs) 6 = .ok (.iconst 0, 1) := by decide +kernel
theorem dx_X12_laysPairs_7 : decode (go_cc mx_X12_laysPairs) 7 = .ok (.putfield 218, 3) := by decide +kernel
theorem dx_X12_laysPairs_10 : decode (go_cc mx_X12_laysPairs) 10 = .ok (.iconst 0, 1) := by decide +kernel
theorem dx_X12_laysPairs_11 : decode (go_cc mx_X12_laysPairs) 11 = .ok (.istore_n 1, 1) := by decide +kernel
theorem dx_X12_laysPairs_12 : decode (go_cc mx_X12_laysPairs) 12 = .ok (.iload_n 1, 1) := by decide +kernel
theorem dx_X12_laysPairs_13 : decode (go_cc mx_X12_laysPairs) 13 = .ok (.bipush 16, 2) := by decide +kernel
theorem dx_X12_laysPairs_15 : decode (go_cc mx_X12_laysPairs) 15 = .ok (.if_icmp .ge 181, 3) := by decide +kernel
theorem dx_X12_laysPairs_18 : decode (go_cc mx_X12_laysPairs) 18 = .ok (.aload_n 0, 1) := by decide +kernel
theorem dx_X12_laysPairs_19 : decode (go_cc mx_X12_laysPairs) 19 = .ok (.iload_n 1, 1) := by decide +kernel
theorem dx_X12_laysPairs_20 : decode (go_cc mx_X12_laysPairs) 20 = .ok (.invokevirtual 148, 3) := by decide +kernel
theorem dx_X12_laysPairs_23 : decode (go_cc mx_X12_laysPairs) 23 = .ok (.istore_n 2, 1) := by decide +kernel
theorem dx_X12_laysPairs_24 : decode (go_cc mx_X12_laysPairs) 24 = .ok (.aload_n 0, 1) := by decide +kernel
theorem dx_X12_laysPairs_25 : decode (go_cc mx_X12_laysPairs) 25 = .ok (.iload_n 1, 1) := by decide +kernel
theorem dx_X12_laysPairs_26 : decode (go_cc mx_X12_laysPairs) 26 = .ok (.invokevirtual 184, 3) := by decide +kernel
theorem dx_X12_laysPairs_29 : decode (go_cc mx_X12_laysPairs) 29 = .ok (.istore_n 3, 1) := by decide +kernel
theorem dx_X12_laysPairs_30 : decode (go_cc mx_X12_laysPairs) 30 = .ok (.iconst 0, 1) := by decide +kernel
theorem dx_X12_laysPairs_31 : decode (go_cc mx_X12_laysPairs) 31 = .ok (.istore 4, 2) := by decide +kernel
theorem dx_X12_laysPairs_33 : decode (go_cc mx_X12_laysPairs) 33 = .ok (.iload 4, 2) := by decide +kernel
theorem dx_X12_laysPairs_35 : decode (go_cc mx_X12_laysPairs) 35 = .ok (.iconst 1, 1) := by decide +kernel
theorem dx_X12_laysPairs_36 : decode (go_cc mx_X12_laysPairs) 36 = .ok (.iadd, 1) := by decide +kernel
theorem dx_X12_laysPairs_37 : decode (go_cc mx_X12_laysPairs) 37 = .ok (.iload_n 2, 1) := by decide +kernel
theorem dx_X12_laysPairs_38 : decode (go_cc mx_X12_laysPairs) 38 = .ok (.if_icmp .ge 152, 3) := by decide +kernel
theorem dx_X12_laysPairs_41 : decode (go_cc mx_X12_laysPairs) 41 = .ok (.iload 4, 2) := by decide +kernel
theorem dx_X12_laysPairs_43 : decode (go_cc mx_X12_laysPairs) 43 = .ok (.iconst 2, 1) := by decide +kernel
theorem dx_X12_laysPairs_44 : decode (go_cc mx_X12_laysPairs) 44 = .ok (.iadd, 1) := by decide +kernel
theorem dx_X12_laysPairs_45 : decode (go_cc mx_X12_laysPairs) 45 = .ok (.iload_n 2, 1) := by decide +kernel
theorem dx_X12_laysPairs_46 : decode (go_cc mx_X12_laysPairs) 46 = .ok (.if_icmp .ne 7, 3) := by decide +kernel
theorem dx_X12_laysPairs_49 : decode (go_cc mx_X12_laysPairs) 49 = .ok (.iconst 1, 1) := by decide +kernel
theorem dx_X12_laysPairs_50 : decode (go_cc mx_X12_laysPairs) 50 = .ok (.goto 4, 3) := by decide +kernel
theorem dx_X12_laysPairs_53 : decode (go_cc mx_X12_laysPairs) 53 = .ok (.iconst 0, 1) := by decide +kernel
theorem dx_X12_laysPairs_54 : decode (go_cc mx_X12_laysPairs) 54 = .ok (.istore 5, 2) := by decide +kernel
theorem dx_X12_laysPairs_56 : decode (go_cc mx_X12_laysPairs) 56 = .ok (.aload_n 0, 1) := by decide +kernel
theorem dx_X12_laysPairs_57 : decode (go_cc mx_X12_laysPairs) 57 = .ok (.getfield 27, 3) := by decide +kernel
theorem dx_X12_laysPairs_60 : decode (go_cc mx_X12_laysPairs) 60 = .ok (.aload_n 0, 1) := by decide +kernel
theorem dx_X12_laysPairs_61 : decode (go_cc mx_X12_laysPairs) 61 = .ok (.getfield 215, 3) := by decide +kernel
theorem dx_X12_laysPairs_64 : decode (go_cc mx_X12_laysPairs) 64 = .ok (.iload_n 3, 1) := by decide +kernel
theorem dx_X12_laysPairs_65 : decode (go_cc mx_X12_laysPairs) 65 = .ok (.iastore, 1) := by decide +kernel
theorem dx_X12_laysPairs_66 : decode (go_cc mx_X12_laysPairs) 66 = .ok (.aload_n 0, 1) := by decide +kernel
theorem dx_X12_laysPairs_67 : decode (go_cc mx_X12_laysPairs) 67 = .ok (.getfield 30, 3) := by decide +kernel
theorem dx_X12_laysPairs_70 : decode (go_cc mx_X12_laysPairs) 70 = .ok (.aload_n 0, 1) := by decide +kernel
theorem dx_X12_laysPairs_71 : decode (go_cc mx_X12_laysPairs) 71 = .ok (.getfield 215, 3) := by decide +kernel
theorem dx_X12_laysPairs_74 : decode (go_cc mx_X12_laysPairs) 74 = .ok (.aload_n 0, 1) := by decide +kernel
theorem dx_X12_laysPairs_75 : decode (go_cc mx_X12_laysPairs) 75 = .ok (.iload_n 1, 1) := by decide +kernel
theorem dx_X12_laysPairs_76 : decode (go_cc mx_X12_laysPairs) 76 = .ok (.iload 4, 2) := by decide +kernel
theorem dx_X12_laysPairs_78 : decode (go_cc mx_X12_laysPairs) 78 = .ok (.invokevirtual 190, 3) := by decide +kernel
theorem dx_X12_laysPairs_81 : decode (go_cc mx_X12_laysPairs) 81 = .ok (.iastore, 1) := by decide +kernel
theorem dx_X12_laysPairs_82 : decode (go_cc mx_X12_laysPairs) 82 = .ok (.aload_n 0, 1) := by decide +kernel
theorem dx_X12_laysPairs_83 : decode (go_cc mx_X12_laysPairs) 83 = .ok (.getfield 33, 3) := by decide +kernel
theorem dx_X12_laysPairs_86 : decode (go_cc mx_X12_laysPairs) 86 = .ok (.aload_n 0, 1) := by decide +kernel
theorem dx_X12_laysPairs_87 : decode (go_cc mx_X12_laysPairs) 87 = .ok (.getfield 215, 3) := by decide +kernel
theorem dx_X12_laysPairs_90 : decode (go_cc mx_X12_laysPairs) 90 = .ok (.iload 5, 2) := by decide +kernel
theorem dx_X12_laysPairs_92 : decode (go_cc mx_X12_laysPairs) 92 = .ok (.ifCond .eq 15, 3) := by decide +kernel
theorem dx_X12_laysPairs_95 : decode (go_cc mx_X12_laysPairs) 95 = .ok (.aload_n 0, 1) := by decide +kernel
theorem dx_X12_laysPairs_96 : decode (go_cc mx_X12_laysPairs) 96 = .ok (.iload_n 1, 1) := by decide +kernel
theorem dx_X12_laysPairs_97 : decode (go_cc mx_X12_laysPairs) 97 = .ok (.iload 4, 2) := by decide +kernel
theorem dx_X12_laysPairs_99 : decode (go_cc mx_X12_laysPairs) 99 = .ok (.iconst 1, 1) := by decide +kernel
theorem dx_X12_laysPairs_100 : decode (go_cc mx_X12_laysPairs) 100 = .ok (.iadd, 1) := by decide +kernel
theorem dx_X12_laysPairs_101 : decode (go_cc mx_X12_laysPairs) 101 = .ok (.invokevirtual 190, 3) := by decide +kernel
theorem dx_X12_laysPairs_104 : decode (go_cc mx_X12_laysPairs) 104 = .ok (.goto 10, 3) := by decide +kernel
theorem dx_X12_laysPairs_107 : decode (go_cc mx_X12_laysPairs) 107 = .ok (.bipush 14, 2) := by decide +kernel
theorem dx_X12_laysPairs_109 : decode (go_cc mx_X12_laysPairs) 109 = .ok (.aload_n 0, 1) := by decide +kernel
theorem dx_X12_laysPairs_110 : decode (go_cc mx_X12_laysPairs) 110 = .ok (.getfield 218, 3) := by decide +kernel
theorem dx_X12_laysPairs_113 : decode (go_cc mx_X12_laysPairs) 113 = .ok (.iadd, 1) := by decide +kernel
theorem dx_X12_laysPairs_114 : decode (go_cc mx_X12_laysPairs) 114 = .ok (.iastore, 1) := by decide +kernel
theorem dx_X12_laysPairs_115 : decode (go_cc mx_X12_laysPairs) 115 = .ok (.aload_n 0, 1) := by decide +kernel
theorem dx_X12_laysPairs_116 : decode (go_cc mx_X12_laysPairs) 116 = .ok (.getfield 36, 3) := by decide +kernel
theorem dx_X12_laysPairs_119 : decode (go_cc mx_X12_laysPairs) 119 = .ok (.aload_n 0, 1) := by decide +kernel
theorem dx_X12_laysPairs_120 : decode (go_cc mx_X12_laysPairs) 120 = .ok (.getfield 215, 3) := by decide +kernel
theorem dx_X12_laysPairs_123 : decode (go_cc mx_X12_laysPairs) 123 = .ok (.iload_n 1, 1) := by decide +kernel
theorem dx_X12_laysPairs_124 : decode (go_cc mx_X12_laysPairs) 124 = .ok (.iastore, 1) := by decide +kernel
theorem dx_X12_laysPairs_125 : decode (go_cc mx_X12_laysPairs) 125 = .ok (.aload_n 0, 1) := by decide +kernel
theorem dx_X12_laysPairs_126 : decode (go_cc mx_X12_laysPairs) 126 = .ok (.dup, 1) := by decide +kernel
theorem dx_X12_laysPairs_127 : decode (go_cc mx_X12_laysPairs) 127 = .ok (.getfield 215, 3) := by decide +kernel
theorem dx_X12_laysPairs_130 : decode (go_cc mx_X12_laysPairs) 130 = .ok (.iconst 1, 1) := by decide +kernel
theorem dx_X12_laysPairs_131 : decode (go_cc mx_X12_laysPairs) 131 = .ok (.iadd, 1) := by decide +kernel
theorem dx_X12_laysPairs_132 : decode (go_cc mx_X12_laysPairs) 132 = .ok (.putfield 215, 3) := by decide +kernel
theorem dx_X12_laysPairs_135 : decode (go_cc mx_X12_laysPairs) 135 = .ok (.iload 5, 2) := by decide +kernel
theorem dx_X12_laysPairs_137 : decode (go_cc mx_X12_laysPairs) 137 = .ok (.ifCond .eq 6, 3) := by decide +kernel
theorem dx_X12_laysPairs_140 : decode (go_cc mx_X12_laysPairs) 140 = .ok (.goto 44, 3) := by decide +kernel
theorem dx_X12_laysPairs_143 : decode (go_cc mx_X12_laysPairs) 143 = .ok (.bipush 14, 2) := by decide +kernel
theorem dx_X12_laysPairs_145 : decode (go_cc mx_X12_laysPairs) 145 = .ok (.aload_n 0, 1) := by decide +kernel
theorem dx_X12_laysPairs_146 : decode (go_cc mx_X12_laysPairs) 146 = .ok (.getfield 218, 3) := by decide +kernel
theorem dx_X12_laysPairs_149 : decode (go_cc mx_X12_laysPairs) 149 = .ok (.iadd, 1) := by decide +kernel
theorem dx_X12_laysPairs_150 : decode (go_cc mx_X12_laysPairs) 150 = .ok (.istore_n 3, 1) := by decide +kernel
theorem dx_X12_laysPairs_151 : decode (go_cc mx_X12_laysPairs) 151 = .ok (.aload_n 0, 1) := by decide +kernel
theorem dx_X12_laysPairs_152 : decode (go_cc mx_X12_laysPairs) 152 = .ok (.getfield 39, 3) := by decide +kernel
theorem dx_X12_laysPairs_155 : decode (go_cc mx_X12_laysPairs) 155 = .ok (.aload_n 0, 1) := by decide +kernel
theorem dx_X12_laysPairs_156 : decode (go_cc mx_X12_laysPairs) 156 = .ok (.getfield 218, 3) := by decide +kernel
theorem dx_X12_laysPairs_159 : decode (go_cc mx_X12_laysPairs) 159 = .ok (.iload_n 1, 1) := by decide +kernel
theorem dx_X12_laysPairs_160 : decode (go_cc mx_X12_laysPairs) 160 = .ok (.iastore, 1) := by decide +kernel
theorem dx_X12_laysPairs_161 : decode (go_cc mx_X12_laysPairs) 161 = .ok (.aload_n 0, 1) := by decide +kernel
theorem dx_X12_laysPairs_162 : decode (go_cc mx_X12_laysPairs) 162 = .ok (.getfield 42, 3) := by decide +kernel
theorem dx_X12_laysPairs_165 : decode (go_cc mx_X12_laysPairs) 165 = .ok (.aload_n 0, 1) := by decide +kernel
theorem dx_X12_laysPairs_166 : decode (go_cc mx_X12_laysPairs) 166 = .ok (.getfield 218, 3) := by decide +kernel
theorem dx_X12_laysPairs_169 : decode (go_cc mx_X12_laysPairs) 169 = .ok (.iload 4, 2) := by decide +kernel
theorem dx_X12_laysPairs_171 : decode (go_cc mx_X12_laysPairs) 171 = .ok (.iconst 1, 1) := by decide +kernel
theorem dx_X12_laysPairs_172 : decode (go_cc mx_X12_laysPairs) 172 = .ok (.iadd, 1) := by decide +kernel
theorem dx_X12_laysPairs_173 : decode (go_cc mx_X12_laysPairs) 173 = .ok (.iastore, 1) := by decide +kernel
theorem dx_X12_laysPairs_174 : decode (go_cc mx_X12_laysPairs) 174 = .ok (.aload_n 0, 1) := by decide +kernel
theorem dx_X12_laysPairs_175 : decode (go_cc mx_X12_laysPairs) 175 = .ok (.dup, 1) := by decide +kernel
theorem dx_X12_laysPairs_176 : decode (go_cc mx_X12_laysPairs) 176 = .ok (.getfield 218, 3) := by decide +kernel
theorem dx_X12_laysPairs_179 : decode (go_cc mx_X12_laysPairs) 179 = .ok (.iconst 1, 1) := by decide +kernel
theorem dx_X12_laysPairs_180 : decode (go_cc mx_X12_laysPairs) 180 = .ok (.iadd, 1) := by decide +kernel
theorem dx_X12_laysPairs_181 : decode (go_cc mx_X12_laysPairs) 181 = .ok (.putfield 218, 3) := by decide +kernel
theorem dx_X12_laysPairs_184 : decode (go_cc mx_X12_laysPairs) 184 = .ok (.iinc 4 1, 3) := by decide +kernel
theorem dx_X12_laysPairs_187 : decode (go_cc mx_X12_laysPairs) 187 = .ok (.goto (-154), 3) := by decide +kernel
theorem dx_X12_laysPairs_190 : decode (go_cc mx_X12_laysPairs) 190 = .ok (.iinc 1 1, 3) := by decide +kernel
theorem dx_X12_laysPairs_193 : decode (go_cc mx_X12_laysPairs) 193 = .ok (.goto (-181), 3) := by decide +kernel
theorem dx_X12_laysPairs_196 : decode (go_cc mx_X12_laysPairs) 196 = .ok (.return_, 1) := by decide +kernel
theorem dx_X12_pairs_0 : decode (go_cc mx_X12_pairs) 0 = .ok (.aload_n 0, 1) := by decide +kernel
theorem dx_X12_pairs_1 : decode (go_cc mx_X12_pairs) 1 = .ok (.iconst 0, 1) := by decide +kernel
theorem dx_X12_pairs_2 : decode (go_cc mx_X12_pairs) 2 = .ok (.putfield 139, 3) := by decide +kernel
theorem dx_X12_pairs_5 : decode (go_cc mx_X12_pairs) 5 = .ok (.aload_n 0, 1) := by decide +kernel
theorem dx_X12_pairs_6 : decode (go_cc mx_X12_pairs) 6 = .ok (.invokevirtual 221, 3) := by decide +kernel
theorem dx_X12_pairs_9 : decode (go_cc mx_X12_pairs) 9 = .ok (.aload_n 0, 1) := by decide +kernel
theorem dx_X12_pairs_10 : decode (go_cc mx_X12_pairs) 10 = .ok (.getfield 215, 3) := by decide +kernel
theorem dx_X12_pairs_13 : decode (go_cc mx_X12_pairs) 13 = .ok (.ireturn, 1) := by decide +kernel
theorem dx_X12_pair_0 : decode (go_cc mx_X12_pair) 0 = .ok (.aload_n 0, 1) := by decide +kernel
theorem dx_X12_pair_1 : decode (go_cc mx_X12_pair) 1 = .ok (.iconst 0, 1) := by decide +kernel
theorem dx_X12_pair_2 : decode (go_cc mx_X12_pair) 2 = .ok (.putfield 139, 3) := by decide +kernel
theorem dx_X12_pair_5 : decode (go_cc mx_X12_pair) 5 = .ok (.aload_n 0, 1) := by decide +kernel
theorem dx_X12_pair_6 : decode (go_cc mx_X12_pair) 6 = .ok (.invokevirtual 221, 3) := by decide +kernel
theorem dx_X12_pair_9 : decode (go_cc mx_X12_pair) 9 = .ok (.iload_n 1, 1) := by decide +kernel
theorem dx_X12_pair_10 : decode (go_cc mx_X12_pair) 10 = .ok (.i2l, 1) := by decide +kernel
theorem dx_X12_pair_11 : decode (go_cc mx_X12_pair) 11 = .ok (.lconst 0, 1) := by decide +kernel
theorem dx_X12_pair_12 : decode (go_cc mx_X12_pair) 12 = .ok (.aload_n 0, 1) := by decide +kernel
theorem dx_X12_pair_13 : decode (go_cc mx_X12_pair) 13 = .ok (.getfield 215, 3) := by decide +kernel
theorem dx_X12_pair_16 : decode (go_cc mx_X12_pair) 16 = .ok (.iconst 1, 1) := by decide +kernel
theorem dx_X12_pair_17 : decode (go_cc mx_X12_pair) 17 = .ok (.isub, 1) := by decide +kernel
theorem dx_X12_pair_18 : decode (go_cc mx_X12_pair) 18 = .ok (.i2l, 1) := by decide +kernel
theorem dx_X12_pair_19 : decode (go_cc mx_X12_pair) 19 = .ok (.invokestatic 144, 3) := by decide +kernel
theorem dx_X12_pair_22 : decode (go_cc mx_X12_pair) 22 = .ok (.ifCond .eq 15, 3) := by decide +kernel
theorem dx_X12_pair_25 : decode (go_cc mx_X12_pair) 25 = .ok (.iload_n 2, 1) := by decide +kernel
theorem dx_X12_pair_26 : decode (go_cc mx_X12_pair) 26 = .ok (.i2l, 1) := by decide +kernel
theorem dx_X12_pair_27 : decode (go_cc mx_X12_pair) 27 = .ok (.lconst 0, 1) := by decide +kernel
theorem dx_X12_pair_28 : decode (go_cc mx_X12_pair) 28 = .ok (.ldc2_w 224, 3) := by decide +kernel
theorem dx_X12_pair_31 : decode (go_cc mx_X12_pair) 31 = .ok (.invokestatic 144, 3) := by decide +kernel
theorem dx_X12_pair_34 : decode (go_cc mx_X12_pair) 34 = .ok (.ifCond .ne 6, 3) := by decide +kernel
theorem dx_X12_pair_37 : decode (go_cc mx_X12_pair) 37 = .ok (.bipush (-2), 2) := by decide +kernel
theorem dx_X12_pair_39 : decode (go_cc mx_X12_pair) 39 = .ok (.ireturn, 1) := by decide +kernel
theorem dx_X12_pair_40 : decode (go_cc mx_X12_pair) 40 = .ok (.iload_n 2, 1) := by decide +kernel
theorem dx_X12_pair_41 : decode (go_cc mx_X12_pair) 41 = .ok (.ifCond .ne 12, 3) := by decide +kernel
theorem dx_X12_pair_44 : decode (go_cc mx_X12_pair) 44 = .ok (.aload_n 0, 1) := by decide +kernel
theorem dx_X12_pair_45 : decode (go_cc mx_X12_pair) 45 = .ok (.getfield 27, 3) := by decide +kernel
theorem dx_X12_pair_48 : decode (go_cc mx_X12_pair) 48 = .ok (.iload_n 1, 1) := by decide +kernel
theorem dx_X12_pair_49 : decode (go_cc mx_X12_pair) 49 = .ok (.iaload, 1) := by decide +kernel
theorem dx_X12_pair_50 : decode (go_cc mx_X12_pair) 50 = .ok (.goto 37, 3) := by decide +kernel
theorem dx_X12_pair_53 : decode (go_cc mx_X12_pair) 53 = .ok (.iload_n 2, 1) := by decide +kernel
theorem dx_X12_pair_54 : decode (go_cc mx_X12_pair) 54 = .ok (.iconst 1, 1) := by decide +kernel
theorem dx_X12_pair_55 : decode (go_cc mx_X12_pair) 55 = .ok (.if_icmp .ne 12, 3) := by decide +kernel
theorem dx_X12_pair_58 : decode (go_cc mx_X12_pair) 58 = .ok (.aload_n 0, 1) := by decide +kernel
theorem dx_X12_pair_59 : decode (go_cc mx_X12_pair) 59 = .ok (.getfield 30, 3) := by decide +kernel
theorem dx_X12_pair_62 : decode (go_cc mx_X12_pair) 62 = .ok (.iload_n 1, 1) := by decide +kernel
theorem dx_X12_pair_63 : decode (go_cc mx_X12_pair) 63 = .ok (.iaload, 1) := by decide +kernel
theorem dx_X12_pair_64 : decode (go_cc mx_X12_pair) 64 = .ok (.goto 23, 3) := by decide +kernel
theorem dx_X12_pair_67 : decode (go_cc mx_X12_pair) 67 = .ok (.iload_n 2, 1) := by decide +kernel
theorem dx_X12_pair_68 : decode (go_cc mx_X12_pair) 68 = .ok (.iconst 2, 1) := by decide +kernel
theorem dx_X12_pair_69 : decode (go_cc mx_X12_pair) 69 = .ok (.if_icmp .ne 12, 3) := by decide +kernel
theorem dx_X12_pair_72 : decode (go_cc mx_X12_pair) 72 = .ok (.aload_n 0, 1) := by decide +kernel
theorem dx_X12_pair_73 : decode (go_cc mx_X12_pair) 73 = .ok (.getfield 33, 3) := by decide +kernel
theorem dx_X12_pair_76 : decode (go_cc mx_X12_pair) 76 = .ok (.iload_n 1, 1) := by decide +kernel
theorem dx_X12_pair_77 : decode (go_cc mx_X12_pair) 77 = .ok (.iaload, 1) := by decide +kernel
theorem dx_X12_pair_78 : decode (go_cc mx_X12_pair) 78 = .ok (.goto 9, 3) := by decide +kernel
theorem dx_X12_pair_81 : decode (go_cc mx_X12_pair) 81 = .ok (.aload_n 0, 1) := by decide +kernel
theorem dx_X12_pair_82 : decode (go_cc mx_X12_pair) 82 = .ok (.getfield 36, 3) := by decide +kernel
theorem dx_X12_pair_85 : decode (go_cc mx_X12_pair) 85 = .ok (.iload_n 1, 1) := by decide +kernel
theorem dx_X12_pair_86 : decode (go_cc mx_X12_pair) 86 = .ok (.iaload, 1) := by decide +kernel
theorem dx_X12_pair_87 : decode (go_cc mx_X12_pair) 87 = .ok (.ireturn, 1) := by decide +kernel
theorem dx_X12_back_0 : decode (go_cc mx_X12_back) 0 = .ok (.aload_n 0, 1) := by decide +kernel
theorem dx_X12_back_1 : decode (go_cc mx_X12_back) 1 = .ok (.iconst 0, 1) := by decide +kernel
theorem dx_X12_back_2 : decode (go_cc mx_X12_back) 2 = .ok (.putfield 139, 3) := by decide +kernel
theorem dx_X12_back_5 : decode (go_cc mx_X12_back) 5 = .ok (.aload_n 0, 1) := by decide +kernel
theorem dx_X12_back_6 : decode (go_cc mx_X12_back) 6 = .ok (.invokevirtual 221, 3) := by decide +kernel
theorem dx_X12_back_9 : decode (go_cc mx_X12_back) 9 = .ok (.iload_n 1, 1) := by decide +kernel
theorem dx_X12_back_10 : decode (go_cc mx_X12_back) 10 = .ok (.i2l, 1) := by decide +kernel
theorem dx_X12_back_11 : decode (go_cc mx_X12_back) 11 = .ok (.ldc2_w 226, 3) := by decide +kernel
theorem dx_X12_back_14 : decode (go_cc mx_X12_back) 14 = .ok (.bipush 14, 2) := by decide +kernel
theorem dx_X12_back_16 : decode (go_cc mx_X12_back) 16 = .ok (.aload_n 0, 1) := by decide +kernel
theorem dx_X12_back_17 : decode (go_cc mx_X12_back) 17 = .ok (.getfield 218, 3) := by decide +kernel
theorem dx_X12_back_20 : decode (go_cc mx_X12_back) 20 = .ok (.iadd, 1) := by decide +kernel
theorem dx_X12_back_21 : decode (go_cc mx_X12_back) 21 = .ok (.iconst 1, 1) := by decide +kernel
theorem dx_X12_back_22 : decode (go_cc mx_X12_back) 22 = .ok (.isub, 1) := by decide +kernel
theorem dx_X12_back_23 : decode (go_cc mx_X12_back) 23 = .ok (.i2l, 1) := by decide +kernel
theorem dx_X12_back_24 : decode (go_cc mx_X12_back) 24 = .ok (.invokestatic 144, 3) := by decide +kernel
theorem dx_X12_back_27 : decode (go_cc mx_X12_back) 27 = .ok (.ifCond .eq 13, 3) := by decide +kernel
theorem dx_X12_back_30 : decode (go_cc mx_X12_back) 30 = .ok (.iload_n 2, 1) := by decide +kernel
theorem dx_X12_back_31 : decode (go_cc mx_X12_back) 31 = .ok (.i2l, 1) := by decide +kernel
theorem dx_X12_back_32 : decode (go_cc mx_X12_back) 32 = .ok (.lconst 0, 1) := by decide +kernel
theorem dx_X12_back_33 : decode (go_cc mx_X12_back) 33 = .ok (.lconst 1, 1) := by decide +kernel
theorem dx_X12_back_34 : decode (go_cc mx_X12_back) 34 = .ok (.invokestatic 144, 3) := by decide +kernel
theorem dx_X12_back_37 : decode (go_cc mx_X12_back) 37 = .ok (.ifCond .ne 6, 3) := by decide +kernel
theorem dx_X12_back_40 : decode (go_cc mx_X12_back) 40 = .ok (.bipush (-2), 2) := by decide +kernel
theorem dx_X12_back_42 : decode (go_cc mx_X12_back) 42 = .ok (.ireturn, 1) := by decide +kernel
theorem dx_X12_back_43 : decode (go_cc mx_X12_back) 43 = .ok (.iload_n 2, 1) := by decide +kernel
theorem dx_X12_back_44 : decode (go_cc mx_X12_back) 44 = .ok (.ifCond .ne 15, 3) := by decide +kernel
theorem dx_X12_back_47 : decode (go_cc mx_X12_back) 47 = .ok (.aload_n 0, 1) := by decide +kernel
theorem dx_X12_back_48 : decode (go_cc mx_X12_back) 48 = .ok (.getfield 39, 3) := by decide +kernel
theorem dx_X12_back_51 : decode (go_cc mx_X12_back) 51 = .ok (.iload_n 1, 1) := by decide +kernel
theorem dx_X12_back_52 : decode (go_cc mx_X12_back) 52 = .ok (.bipush 14, 2) := by decide +kernel
theorem dx_X12_back_54 : decode (go_cc mx_X12_back) 54 = .ok (.isub, 1) := by decide +kernel
theorem dx_X12_back_55 : decode (go_cc mx_X12_back) 55 = .ok (.iaload, 1) := by decide +kernel
theorem dx_X12_back_56 : decode (go_cc mx_X12_back) 56 = .ok (.goto 12, 3) := by decide +kernel
theorem dx_X12_back_59 : decode (go_cc mx_X12_back) 59 = .ok (.aload_n 0, 1) := by decide +kernel
theorem dx_X12_back_60 : decode (go_cc mx_X12_back) 60 = .ok (.getfield 42, 3) := by decide +kernel
theorem dx_X12_back_63 : decode (go_cc mx_X12_back) 63 = .ok (.iload_n 1, 1) := by decide +kernel
theorem dx_X12_back_64 : decode (go_cc mx_X12_back) 64 = .ok (.bipush 14, 2) := by decide +kernel
theorem dx_X12_back_66 : decode (go_cc mx_X12_back) 66 = .ok (.isub, 1) := by decide +kernel
theorem dx_X12_back_67 : decode (go_cc mx_X12_back) 67 = .ok (.iaload, 1) := by decide +kernel
theorem dx_X12_back_68 : decode (go_cc mx_X12_back) 68 = .ok (.ireturn, 1) := by decide +kernel
theorem dx_X12_unitsFrom_0 : decode (go_cc mx_X12_unitsFrom) 0 = .ok (.iload_n 1, 1) := by decide +kernel
theorem dx_X12_unitsFrom_1 : decode (go_cc mx_X12_unitsFrom) 1 = .ok (.istore_n 2, 1) := by decide +kernel
theorem dx_X12_unitsFrom_2 : decode (go_cc mx_X12_unitsFrom) 2 = .ok (.iconst 1, 1) := by decide +kernel
theorem dx_X12_unitsFrom_3 : decode (go_cc mx_X12_unitsFrom) 3 = .ok (.istore_n 3, 1) := by decide +kernel
theorem dx_X12_unitsFrom_4 : decode (go_cc mx_X12_unitsFrom) 4 = .ok (.iload_n 3, 1) := by decide +kernel
theorem dx_X12_unitsFrom_5 : decode (go_cc mx_X12_unitsFrom) 5 = .ok (.ifCond .eq 73, 3) := by decide +kernel
theorem dx_X12_unitsFrom_8 : decode (go_cc mx_X12_unitsFrom) 8 = .ok (.iload_n 2, 1) := by decide +kernel
theorem dx_X12_unitsFrom_9 : decode (go_cc mx_X12_unitsFrom) 9 = .ok (.istore 4, 2) := by decide +kernel
theorem dx_X12_unitsFrom_11 : decode (go_cc mx_X12_unitsFrom) 11 = .ok (.iconst 0, 1) := by decide +kernel
theorem dx_X12_unitsFrom_12 : decode (go_cc mx_X12_unitsFrom) 12 = .ok (.istore 5, 2) := by decide +kernel
theorem dx_X12_unitsFrom_14 : decode (go_cc mx_X12_unitsFrom) 14 = .ok (.iload 5, 2) := by decide +kernel
theorem dx_X12_unitsFrom_16 : decode (go_cc mx_X12_unitsFrom) 16 = .ok (.bipush 16, 2) := by decide +kernel
theorem dx_X12_unitsFrom_18 : decode (go_cc mx_X12_unitsFrom) 18 = .ok (.if_icmp .ge 45, 3) := by decide +kernel
theorem dx_X12_unitsFrom_21 : decode (go_cc mx_X12_unitsFrom) 21 = .ok (.aload_n 0, 1) := by decide +kernel
theorem dx_X12_unitsFrom_22 : decode (go_cc mx_X12_unitsFrom) 22 = .ok (.iload 5, 2) := by decide +kernel
theorem dx_X12_unitsFrom_24 : decode (go_cc mx_X12_unitsFrom) 24 = .ok (.invokevirtual 148, 3) := by decide +kernel
theorem dx_X12_unitsFrom_27 : decode (go_cc mx_X12_unitsFrom) 27 = .ok (.iconst 1, 1) := by decide +kernel
theorem dx_X12_unitsFrom_28 : decode (go_cc mx_X12_unitsFrom) 28 = .ok (.if_icmp .ne 29, 3) := by decide +kernel
theorem dx_X12_unitsFrom_31 : decode (go_cc mx_X12_unitsFrom) 31 = .ok (.iload_n 2, 1) := by decide +kernel
theorem dx_X12_unitsFrom_32 : decode (go_cc mx_X12_unitsFrom) 32 = .ok (.aload_n 0, 1) := by decide +kernel
theorem dx_X12_unitsFrom_33 : decode (go_cc mx_X12_unitsFrom) 33 = .ok (.iload 5, 2) := by decide +kernel
theorem dx_X12_unitsFrom_35 : decode (go_cc mx_X12_unitsFrom) 35 = .ok (.invokevirtual 184, 3) := by decide +kernel
theorem dx_X12_unitsFrom_38 : decode (go_cc mx_X12_unitsFrom) 38 = .ok (.ishr, 1) := by decide +kernel
theorem dx_X12_unitsFrom_39 : decode (go_cc mx_X12_unitsFrom) 39 = .ok (.iconst 1, 1) := by decide +kernel
theorem dx_X12_unitsFrom_40 : decode (go_cc mx_X12_unitsFrom) 40 = .ok (.iand, 1) := by decide +kernel
theorem dx_X12_unitsFrom_41 : decode (go_cc mx_X12_unitsFrom) 41 = .ok (.iconst 1, 1) := by decide +kernel
theorem dx_X12_unitsFrom_42 : decode (go_cc mx_X12_unitsFrom) 42 = .ok (.if_icmp .ne 15, 3) := by decide +kernel
theorem dx_X12_unitsFrom_45 : decode (go_cc mx_X12_unitsFrom) 45 = .ok (.iload_n 2, 1) := by decide +kernel
theorem dx_X12_unitsFrom_46 : decode (go_cc mx_X12_unitsFrom) 46 = .ok (.iconst 1, 1) := by decide +kernel
theorem dx_X12_unitsFrom_47 : decode (go_cc mx_X12_unitsFrom) 47 = .ok (.aload_n 0, 1) := by decide +kernel
theorem dx_X12_unitsFrom_48 : decode (go_cc mx_X12_unitsFrom) 48 = .ok (.iload 5, 2) := by decide +kernel
theorem dx_X12_unitsFrom_50 : decode (go_cc mx_X12_unitsFrom) 50 = .ok (.iconst 0, 1) := by decide +kernel
theorem dx_X12_unitsFrom_51 : decode (go_cc mx_X12_unitsFrom) 51 = .ok (.invokevirtual 190, 3) := by decide +kernel
theorem dx_X12_unitsFrom_54 : decode (go_cc mx_X12_unitsFrom) 54 = .ok (.ishl, 1) := by decide +kernel
theorem dx_X12_unitsFrom_55 : decode (go_cc mx_X12_unitsFrom) 55 = .ok (.ior, 1) := by decide +kernel
theorem dx_X12_unitsFrom_56 : decode (go_cc mx_X12_unitsFrom) 56 = .ok (.istore_n 2, 1) := by decide +kernel
theorem dx_X12_unitsFrom_57 : decode (go_cc mx_X12_unitsFrom) 57 = .ok (.iinc 5 1, 3) := by decide +kernel
theorem dx_X12_unitsFrom_60 : decode (go_cc mx_X12_unitsFrom) 60 = .ok (.goto (-46), 3) := by decide +kernel
theorem dx_X12_unitsFrom_63 : decode (go_cc mx_X12_unitsFrom) 63 = .ok (.iload_n 2, 1) := by decide +kernel
theorem dx_X12_unitsFrom_64 : decode (go_cc mx_X12_unitsFrom) 64 = .ok (.iload 4, 2) := by decide +kernel
theorem dx_X12_unitsFrom_66 : decode (go_cc mx_X12_unitsFrom) 66 = .ok (.if_icmp .eq 7, 3) := by decide +kernel
theorem dx_X12_unitsFrom_69 : decode (go_cc mx_X12_unitsFrom) 69 = .ok (.iconst 1, 1) := by decide +kernel
theorem dx_X12_unitsFrom_70 : decode (go_cc mx_X12_unitsFrom) 70 = .ok (.goto 4, 3) := by decide +kernel
theorem dx_X12_unitsFrom_73 : decode (go_cc mx_X12_unitsFrom) 73 = .ok (.iconst 0, 1) := by decide +kernel
theorem dx_X12_unitsFrom_74 : decode (go_cc mx_X12_unitsFrom) 74 = .ok (.istore_n 3, 1) := by decide +kernel
theorem dx_X12_unitsFrom_75 : decode (go_cc mx_X12_unitsFrom) 75 = .ok (.goto (-71), 3) := by decide +kernel
theorem dx_X12_unitsFrom_78 : decode (go_cc mx_X12_unitsFrom) 78 = .ok (.iload_n 2, 1) := by decide +kernel
theorem dx_X12_unitsFrom_79 : decode (go_cc mx_X12_unitsFrom) 79 = .ok (.ireturn, 1) := by decide +kernel
theorem dx_X12_units_0 : decode (go_cc mx_X12_units) 0 = .ok (.aload_n 0, 1) := by decide +kernel
theorem dx_X12_units_1 : decode (go_cc mx_X12_units) 1 = .ok (.iconst 0, 1) := by decide +kernel
theorem dx_X12_units_2 : decode (go_cc mx_X12_units) 2 = .ok (.putfield 139, 3) := by decide +kernel
theorem dx_X12_units_5 : decode (go_cc mx_X12_units) 5 = .ok (.iload_n 1, 1) := by decide +kernel
theorem dx_X12_units_6 : decode (go_cc mx_X12_units) 6 = .ok (.invokestatic 212, 3) := by decide +kernel
theorem dx_X12_units_9 : decode (go_cc mx_X12_units) 9 = .ok (.ifCond .eq 13, 3) := by decide +kernel
theorem dx_X12_units_12 : decode (go_cc mx_X12_units) 12 = .ok (.aload_n 0, 1) := by decide +kernel
theorem dx_X12_units_13 : decode (go_cc mx_X12_units) 13 = .ok (.iconst 1, 1) := by decide +kernel
theorem dx_X12_units_14 : decode (go_cc mx_X12_units) 14 = .ok (.iload_n 1, 1) := by decide +kernel
theorem dx_X12_units_15 : decode (go_cc mx_X12_units) 15 = .ok (.ishl, 1) := by decide +kernel
theorem dx_X12_units_16 : decode (go_cc mx_X12_units) 16 = .ok (.invokevirtual 228, 3) := by decide +kernel
theorem dx_X12_units_19 : decode (go_cc mx_X12_units) 19 = .ok (.goto 5, 3) := by decide +kernel
theorem dx_X12_units_22 : decode (go_cc mx_X12_units) 22 = .ok (.bipush (-2), 2) := by decide +kernel
theorem dx_X12_units_24 : decode (go_cc mx_X12_units) 24 = .ok (.ireturn, 1) := by decide +kernel
theorem dx_X12_rounds_0 : decode (go_cc mx_X12_rounds) 0 = .ok (.aload_n 0, 1) := by decide +kernel
theorem dx_X12_rounds_1 : decode (go_cc mx_X12_rounds) 1 = .ok (.iconst 0, 1) := by decide +kernel
theorem dx_X12_rounds_2 : decode (go_cc mx_X12_rounds) 2 = .ok (.putfield 139, 3) := by decide +kernel
theorem dx_X12_rounds_5 : decode (go_cc mx_X12_rounds) 5 = .ok (.iconst 0, 1) := by decide +kernel
theorem dx_X12_rounds_6 : decode (go_cc mx_X12_rounds) 6 = .ok (.istore_n 1, 1) := by decide +kernel
theorem dx_X12_rounds_7 : decode (go_cc mx_X12_rounds) 7 = .ok (.iconst 0, 1) := by decide +kernel
theorem dx_X12_rounds_8 : decode (go_cc mx_X12_rounds) 8 = .ok (.istore_n 2, 1) := by decide +kernel
theorem dx_X12_rounds_9 : decode (go_cc mx_X12_rounds) 9 = .ok (.iload_n 2, 1) := by decide +kernel
theorem dx_X12_rounds_10 : decode (go_cc mx_X12_rounds) 10 = .ok (.bipush 8, 2) := by decide +kernel
theorem dx_X12_rounds_12 : decode (go_cc mx_X12_rounds) 12 = .ok (.if_icmp .ge 71, 3) := by decide +kernel
theorem dx_X12_rounds_15 : decode (go_cc mx_X12_rounds) 15 = .ok (.iconst 0, 1) := by decide +kernel
theorem dx_X12_rounds_16 : decode (go_cc mx_X12_rounds) 16 = .ok (.istore_n 3, 1) := by decide +kernel
theorem dx_X12_rounds_17 : decode (go_cc mx_X12_rounds) 17 = .ok (.iconst 0, 1) := by decide +kernel
theorem dx_X12_rounds_18 : decode (go_cc mx_X12_rounds) 18 = .ok (.istore 4, 2) := by decide +kernel
theorem dx_X12_rounds_20 : decode (go_cc mx_X12_rounds) 20 = .ok (.iload 4, 2) := by decide +kernel
theorem dx_X12_rounds_22 : decode (go_cc mx_X12_rounds) 22 = .ok (.bipush 16, 2) := by decide +kernel
theorem dx_X12_rounds_24 : decode (go_cc mx_X12_rounds) 24 = .ok (.if_icmp .ge 41, 3) := by decide +kernel
theorem dx_X12_rounds_27 : decode (go_cc mx_X12_rounds) 27 = .ok (.aload_n 0, 1) := by decide +kernel
theorem dx_X12_rounds_28 : decode (go_cc mx_X12_rounds) 28 = .ok (.iload 4, 2) := by decide +kernel
theorem dx_X12_rounds_30 : decode (go_cc mx_X12_rounds) 30 = .ok (.invokevirtual 148, 3) := by decide +kernel
theorem dx_X12_rounds_33 : decode (go_cc mx_X12_rounds) 33 = .ok (.iconst 1, 1) := by decide +kernel
theorem dx_X12_rounds_34 : decode (go_cc mx_X12_rounds) 34 = .ok (.if_icmp .ne 25, 3) := by decide +kernel
theorem dx_X12_rounds_37 : decode (go_cc mx_X12_rounds) 37 = .ok (.aload_n 0, 1) := by decide +kernel
theorem dx_X12_rounds_38 : decode (go_cc mx_X12_rounds) 38 = .ok (.iload 4, 2) := by decide +kernel
theorem dx_X12_rounds_40 : decode (go_cc mx_X12_rounds) 40 = .ok (.invokevirtual 184, 3) := by decide +kernel
theorem dx_X12_rounds_43 : decode (go_cc mx_X12_rounds) 43 = .ok (.iload_n 2, 1) := by decide +kernel
theorem dx_X12_rounds_44 : decode (go_cc mx_X12_rounds) 44 = .ok (.if_icmp .ne 15, 3) := by decide +kernel
theorem dx_X12_rounds_47 : decode (go_cc mx_X12_rounds) 47 = .ok (.iload_n 3, 1) := by decide +kernel
theorem dx_X12_rounds_48 : decode (go_cc mx_X12_rounds) 48 = .ok (.iconst 1, 1) := by decide +kernel
theorem dx_X12_rounds_49 : decode (go_cc mx_X12_rounds) 49 = .ok (.aload_n 0, 1) := by decide +kernel
theorem dx_X12_rounds_50 : decode (go_cc mx_X12_rounds) 50 = .ok (.iload 4, 2) := by decide +kernel
theorem dx_X12_rounds_52 : decode (go_cc mx_X12_rounds) 52 = .ok (.iconst 0, 1) := by decide +kernel
theorem dx_X12_rounds_53 : decode (go_cc mx_X12_rounds) 53 = .ok (.invokevirtual 190, 3) := by decide +kernel
theorem dx_X12_rounds_56 : decode (go_cc mx_X12_rounds) 56 = .ok (.ishl, 1) := by decide +kernel
theorem dx_X12_rounds_57 : decode (go_cc mx_X12_rounds) 57 = .ok (.ior, 1) := by decide +kernel
theorem dx_X12_rounds_58 : decode (go_cc mx_X12_rounds) 58 = .ok (.istore_n 3, 1) := by decide +kernel
theorem dx_X12_rounds_59 : decode (go_cc mx_X12_rounds) 59 = .ok (.iinc 4 1, 3) := by decide +kernel
theorem dx_X12_rounds_62 : decode (go_cc mx_X12_rounds) 62 = .ok (.goto (-42), 3) := by decide +kernel
theorem dx_X12_rounds_65 : decode (go_cc mx_X12_rounds) 65 = .ok (.iload_n 1, 1) := by decide +kernel
theorem dx_X12_rounds_66 : decode (go_cc mx_X12_rounds) 66 = .ok (.aload_n 0, 1) := by decide +kernel
theorem dx_X12_rounds_67 : decode (go_cc mx_X12_rounds) 67 = .ok (.iload_n 3, 1) := by decide +kernel
theorem dx_X12_rounds_68 : decode (go_cc mx_X12_rounds) 68 = .ok (.invokevirtual 228, 3) := by decide +kernel
theorem dx_X12_rounds_71 : decode (go_cc mx_X12_rounds) 71 = .ok (.iconst 1, 1) := by decide +kernel
theorem dx_X12_rounds_72 : decode (go_cc mx_X12_rounds) 72 = .ok (.iload_n 2, 1) := by decide +kernel
theorem dx_X12_rounds_73 : decode (go_cc mx_X12_rounds) 73 = .ok (.ishl, 1) := by decide +kernel
theorem dx_X12_rounds_74 : decode (go_cc mx_X12_rounds) 74 = .ok (.iand, 1) := by decide +kernel
theorem dx_X12_rounds_75 : decode (go_cc mx_X12_rounds) 75 = .ok (.ior, 1) := by decide +kernel
theorem dx_X12_rounds_76 : decode (go_cc mx_X12_rounds) 76 = .ok (.istore_n 1, 1) := by decide +kernel
theorem dx_X12_rounds_77 : decode (go_cc mx_X12_rounds) 77 = .ok (.iinc 2 1, 3) := by decide +kernel
theorem dx_X12_rounds_80 : decode (go_cc mx_X12_rounds) 80 = .ok (.goto (-71), 3) := by decide +kernel
theorem dx_X12_rounds_83 : decode (go_cc mx_X12_rounds) 83 = .ok (.iload_n 1, 1) := by decide +kernel
theorem dx_X12_rounds_84 : decode (go_cc mx_X12_rounds) 84 = .ok (.ireturn, 1) := by decide +kernel
theorem dx_X12_sumFrom_0 : decode (go_cc mx_X12_sumFrom) 0 = .ok (.iconst 0, 1) := by decide +kernel
theorem dx_X12_sumFrom_1 : decode (go_cc mx_X12_sumFrom) 1 = .ok (.istore_n 3, 1) := by decide +kernel
theorem dx_X12_sumFrom_2 : decode (go_cc mx_X12_sumFrom) 2 = .ok (.iload_n 2, 1) := by decide +kernel
theorem dx_X12_sumFrom_3 : decode (go_cc mx_X12_sumFrom) 3 = .ok (.istore 4, 2) := by decide +kernel
theorem dx_X12_sumFrom_5 : decode (go_cc mx_X12_sumFrom) 5 = .ok (.iload 4, 2) := by decide +kernel
theorem dx_X12_sumFrom_7 : decode (go_cc mx_X12_sumFrom) 7 = .ok (.aload_n 0, 1) := by decide +kernel
theorem dx_X12_sumFrom_8 : decode (go_cc mx_X12_sumFrom) 8 = .ok (.iload_n 1, 1) := by decide +kernel
theorem dx_X12_sumFrom_9 : decode (go_cc mx_X12_sumFrom) 9 = .ok (.invokevirtual 148, 3) := by decide +kernel
theorem dx_X12_sumFrom_12 : decode (go_cc mx_X12_sumFrom) 12 = .ok (.if_icmp .ge 24, 3) := by decide +kernel
theorem dx_X12_sumFrom_15 : decode (go_cc mx_X12_sumFrom) 15 = .ok (.iload_n 3, 1) := by decide +kernel
theorem dx_X12_sumFrom_16 : decode (go_cc mx_X12_sumFrom) 16 = .ok (.aload_n 0, 1) := by decide +kernel
theorem dx_X12_sumFrom_17 : decode (go_cc mx_X12_sumFrom) 17 = .ok (.getfield 45, 3) := by decide +kernel
theorem dx_X12_sumFrom_20 : decode (go_cc mx_X12_sumFrom) 20 = .ok (.aload_n 0, 1) := by decide +kernel
theorem dx_X12_sumFrom_21 : decode (go_cc mx_X12_sumFrom) 21 = .ok (.iload_n 1, 1) := by decide +kernel
theorem dx_X12_sumFrom_22 : decode (go_cc mx_X12_sumFrom) 22 = .ok (.iload 4, 2) := by decide +kernel
theorem dx_X12_sumFrom_24 : decode (go_cc mx_X12_sumFrom) 24 = .ok (.invokevirtual 190, 3) := by decide +kernel
theorem dx_X12_sumFrom_27 : decode (go_cc mx_X12_sumFrom) 27 = .ok (.iaload, 1) := by decide +kernel
theorem dx_X12_sumFrom_28 : decode (go_cc mx_X12_sumFrom) 28 = .ok (.iadd, 1) := by decide +kernel
theorem dx_X12_sumFrom_29 : decode (go_cc mx_X12_sumFrom) 29 = .ok (.istore_n 3, 1) := by decide +kernel
theorem dx_X12_sumFrom_30 : decode (go_cc mx_X12_sumFrom) 30 = .ok (.iinc 4 1, 3) := by decide +kernel
theorem dx_X12_sumFrom_33 : decode (go_cc mx_X12_sumFrom) 33 = .ok (.goto (-28), 3) := by decide +kernel
theorem dx_X12_sumFrom_36 : decode (go_cc mx_X12_sumFrom) 36 = .ok (.iload_n 3, 1) := by decide +kernel
theorem dx_X12_sumFrom_37 : decode (go_cc mx_X12_sumFrom) 37 = .ok (.ldc 231, 2) := by decide +kernel
theorem dx_X12_sumFrom_39 : decode (go_cc mx_X12_sumFrom) 39 = .ok (.if_icmp .ge 7, 3) := by decide +kernel
theorem dx_X12_sumFrom_42 : decode (go_cc mx_X12_sumFrom) 42 = .ok (.iload_n 3, 1) := by decide +kernel
theorem dx_X12_sumFrom_43 : decode (go_cc mx_X12_sumFrom) 43 = .ok (.goto 5, 3) := by decide +kernel
theorem dx_X12_sumFrom_46 : decode (go_cc mx_X12_sumFrom) 46 = .ok (.ldc 231, 2) := by decide +kernel
theorem dx_X12_sumFrom_48 : decode (go_cc mx_X12_sumFrom) 48 = .ok (.ireturn, 1) := by decide +kernel
theorem dx_X12_laysLeast_0 : decode (go_cc mx_X12_laysLeast) 0 = .ok (.iconst 0, 1) := by decide +kernel
theorem dx_X12_laysLeast_1 : decode (go_cc mx_X12_laysLeast) 1 = .ok (.istore_n 1, 1) := by decide +kernel
theorem dx_X12_laysLeast_2 : decode (go_cc mx_X12_laysLeast) 2 = .ok (.iload_n 1, 1) := by decide +kernel
theorem dx_X12_laysLeast_3 : decode (go_cc mx_X12_laysLeast) 3 = .ok (.bipush 14, 2) := by decide +kernel
theorem dx_X12_laysLeast_5 : decode (go_cc mx_X12_laysLeast) 5 = .ok (.if_icmp .ge 27, 3) := by decide +kernel
theorem dx_X12_laysLeast_8 : decode (go_cc mx_X12_laysLeast) 8 = .ok (.aload_n 0, 1) := by decide +kernel
theorem dx_X12_laysLeast_9 : decode (go_cc mx_X12_laysLeast) 9 = .ok (.getfield 45, 3) := by decide +kernel
theorem dx_X12_laysLeast_12 : decode (go_cc mx_X12_laysLeast) 12 = .ok (.iload_n 1, 1) := by decide +kernel
theorem dx_X12_laysLeast_13 : decode (go_cc mx_X12_laysLeast) 13 = .ok (.iload_n 1, 1) := by decide +kernel
theorem dx_X12_laysLeast_14 : decode (go_cc mx_X12_laysLeast) 14 = .ok (.bipush 8, 2) := by decide +kernel
theorem dx_X12_laysLeast_16 : decode (go_cc mx_X12_laysLeast) 16 = .ok (.if_icmp .ge 8, 3) := by decide +kernel
theorem dx_X12_laysLeast_19 : decode (go_cc mx_X12_laysLeast) 19 = .ok (.ldc 231, 2) := by decide +kernel
theorem dx_X12_laysLeast_21 : decode (go_cc mx_X12_laysLeast) 21 = .ok (.goto 4, 3) := by decide +kernel
theorem dx_X12_laysLeast_24 : decode (go_cc mx_X12_laysLeast) 24 = .ok (.iconst 1, 1) := by decide +kernel
theorem dx_X12_laysLeast_25 : decode (go_cc mx_X12_laysLeast) 25 = .ok (.iastore, 1) := by decide +kernel
theorem dx_X12_laysLeast_26 : decode (go_cc mx_X12_laysLeast) 26 = .ok (.iinc 1 1, 3) := by decide +kernel
theorem dx_X12_laysLeast_29 : decode (go_cc mx_X12_laysLeast) 29 = .ok (.goto (-27), 3) := by decide +kernel
theorem dx_X12_laysLeast_32 : decode (go_cc mx_X12_laysLeast) 32 = .ok (.iconst 1, 1) := by decide +kernel
theorem dx_X12_laysLeast_33 : decode (go_cc mx_X12_laysLeast) 33 = .ok (.istore_n 1, 1) := by decide +kernel
theorem dx_X12_laysLeast_34 : decode (go_cc mx_X12_laysLeast) 34 = .ok (.iload_n 1, 1) := by decide +kernel
theorem dx_X12_laysLeast_35 : decode (go_cc mx_X12_laysLeast) 35 = .ok (.ifCond .eq 70, 3) := by decide +kernel
theorem dx_X12_laysLeast_38 : decode (go_cc mx_X12_laysLeast) 38 = .ok (.iconst 0, 1) := by decide +kernel
theorem dx_X12_laysLeast_39 : decode (go_cc mx_X12_laysLeast) 39 = .ok (.istore_n 1, 1) := by decide +kernel
theorem dx_X12_laysLeast_40 : decode (go_cc mx_X12_laysLeast) 40 = .ok (.iconst 0, 1) := by decide +kernel
theorem dx_X12_laysLeast_41 : decode (go_cc mx_X12_laysLeast) 41 = .ok (.istore_n 2, 1) := by decide +kernel
theorem dx_X12_laysLeast_42 : decode (go_cc mx_X12_laysLeast) 42 = .ok (.iload_n 2, 1) := by decide +kernel
theorem dx_X12_laysLeast_43 : decode (go_cc mx_X12_laysLeast) 43 = .ok (.bipush 16, 2) := by decide +kernel
theorem dx_X12_laysLeast_45 : decode (go_cc mx_X12_laysLeast) 45 = .ok (.if_icmp .ge 57, 3) := by decide +kernel
theorem dx_X12_laysLeast_48 : decode (go_cc mx_X12_laysLeast) 48 = .ok (.aload_n 0, 1) := by decide +kernel
theorem dx_X12_laysLeast_49 : decode (go_cc mx_X12_laysLeast) 49 = .ok (.iload_n 2, 1) := by decide +kernel
theorem dx_X12_laysLeast_50 : decode (go_cc mx_X12_laysLeast) 50 = .ok (.invokevirtual 148, 3) := by decide +kernel
theorem dx_X12_laysLeast_53 : decode (go_cc mx_X12_laysLeast) 53 = .ok (.ifCond .eq 43, 3) := by decide +kernel
theorem dx_X12_laysLeast_56 : decode (go_cc mx_X12_laysLeast) 56 = .ok (.aload_n 0, 1) := by decide +kernel
theorem dx_X12_laysLeast_57 : decode (go_cc mx_X12_laysLeast) 57 = .ok (.iload_n 2, 1) := by decide +kernel
theorem dx_X12_laysLeast_58 : decode (go_cc mx_X12_laysLeast) 58 = .ok (.iconst 0, 1) := by decide +kernel
theorem dx_X12_laysLeast_59 : decode (go_cc mx_X12_laysLeast) 59 = .ok (.invokevirtual 232, 3) := by decide +kernel
theorem dx_X12_laysLeast_62 : decode (go_cc mx_X12_laysLeast) 62 = .ok (.aload_n 0, 1) := by decide +kernel
theorem dx_X12_laysLeast_63 : decode (go_cc mx_X12_laysLeast) 63 = .ok (.getfield 45, 3) := by decide +kernel
theorem dx_X12_laysLeast_66 : decode (go_cc mx_X12_laysLeast) 66 = .ok (.aload_n 0, 1) := by decide +kernel
theorem dx_X12_laysLeast_67 : decode (go_cc mx_X12_laysLeast) 67 = .ok (.iload_n 2, 1) := by decide +kernel
theorem dx_X12_laysLeast_68 : decode (go_cc mx_X12_laysLeast) 68 = .ok (.invokevirtual 184, 3) := by decide +kernel
theorem dx_X12_laysLeast_71 : decode (go_cc mx_X12_laysLeast) 71 = .ok (.iaload, 1) := by decide +kernel
theorem dx_X12_laysLeast_72 : decode (go_cc mx_X12_laysLeast) 72 = .ok (.if_icmp .lt 6, 3) := by decide +kernel
theorem dx_X12_laysLeast_75 : decode (go_cc mx_X12_laysLeast) 75 = .ok (.goto 21, 3) := by decide +kernel
theorem dx_X12_laysLeast_78 : decode (go_cc mx_X12_laysLeast) 78 = .ok (.aload_n 0, 1) := by decide +kernel
theorem dx_X12_laysLeast_79 : decode (go_cc mx_X12_laysLeast) 79 = .ok (.getfield 45, 3) := by decide +kernel
theorem dx_X12_laysLeast_82 : decode (go_cc mx_X12_laysLeast) 82 = .ok (.aload_n 0, 1) := by decide +kernel
theorem dx_X12_laysLeast_83 : decode (go_cc mx_X12_laysLeast) 83 = .ok (.iload_n 2, 1) := by decide +kernel
theorem dx_X12_laysLeast_84 : decode (go_cc mx_X12_laysLeast) 84 = .ok (.invokevirtual 184, 3) := by decide +kernel
theorem dx_X12_laysLeast_87 : decode (go_cc mx_X12_laysLeast) 87 = .ok (.aload_n 0, 1) := by decide +kernel
theorem dx_X12_laysLeast_88 : decode (go_cc mx_X12_laysLeast) 88 = .ok (.iload_n 2, 1) := by decide +kernel
theorem dx_X12_laysLeast_89 : decode (go_cc mx_X12_laysLeast) 89 = .ok (.iconst 0, 1) := by decide +kernel
theorem dx_X12_laysLeast_90 : decode (go_cc mx_X12_laysLeast) 90 = .ok (.invokevirtual 232, 3) := by decide +kernel
theorem dx_X12_laysLeast_93 : decode (go_cc mx_X12_laysLeast) 93 = .ok (.iastore, 1) := by decide +kernel
theorem dx_X12_laysLeast_94 : decode (go_cc mx_X12_laysLeast) 94 = .ok (.iconst 1, 1) := by decide +kernel
theorem dx_X12_laysLeast_95 : decode (go_cc mx_X12_laysLeast) 95 = .ok (.istore_n 1, 1) := by decide +kernel
theorem dx_X12_laysLeast_96 : decode (go_cc mx_X12_laysLeast) 96 = .ok (.iinc 2 1, 3) := by decide +kernel
theorem dx_X12_laysLeast_99 : decode (go_cc mx_X12_laysLeast) 99 = .ok (.goto (-57), 3) := by decide +kernel
theorem dx_X12_laysLeast_102 : decode (go_cc mx_X12_laysLeast) 102 = .ok (.goto (-68), 3) := by decide +kernel
theorem dx_X12_laysLeast_105 : decode (go_cc mx_X12_laysLeast) 105 = .ok (.return_, 1) := by decide +kernel
theorem dx_X12_isAny_0 : decode (go_cc mx_X12_isAny) 0 = .ok (.aload_n 0, 1) := by decide +kernel
theorem dx_X12_isAny_1 : decode (go_cc mx_X12_isAny) 1 = .ok (.invokevirtual 221, 3) := by decide +kernel
theorem dx_X12_isAny_4 : decode (go_cc mx_X12_isAny) 4 = .ok (.iload_n 1, 1) := by decide +kernel
theorem dx_X12_isAny_5 : decode (go_cc mx_X12_isAny) 5 = .ok (.i2l, 1) := by decide +kernel
theorem dx_X12_isAny_6 : decode (go_cc mx_X12_isAny) 6 = .ok (.lconst 0, 1) := by decide +kernel
theorem dx_X12_isAny_7 : decode (go_cc mx_X12_isAny) 7 = .ok (.bipush 14, 2) := by decide +kernel
theorem dx_X12_isAny_9 : decode (go_cc mx_X12_isAny) 9 = .ok (.aload_n 0, 1) := by decide +kernel
theorem dx_X12_isAny_10 : decode (go_cc mx_X12_isAny) 10 = .ok (.getfield 218, 3) := by decide +kernel
theorem dx_X12_isAny_13 : decode (go_cc mx_X12_isAny) 13 = .ok (.iadd, 1) := by decide +kernel
theorem dx_X12_isAny_14 : decode (go_cc mx_X12_isAny) 14 = .ok (.iconst 1, 1) := by decide +kernel
theorem dx_X12_isAny_15 : decode (go_cc mx_X12_isAny) 15 = .ok (.isub, 1) := by decide +kernel
theorem dx_X12_isAny_16 : decode (go_cc mx_X12_isAny) 16 = .ok (.i2l, 1) := by decide +kernel
theorem dx_X12_isAny_17 : decode (go_cc mx_X12_isAny) 17 = .ok (.invokestatic 144, 3) := by decide +kernel
theorem dx_X12_isAny_20 : decode (go_cc mx_X12_isAny) 20 = .ok (.ireturn, 1) := by decide +kernel
theorem dx_X12_least_0 : decode (go_cc mx_X12_least) 0 = .ok (.aload_n 0, 1) := by decide +kernel
theorem dx_X12_least_1 : decode (go_cc mx_X12_least) 1 = .ok (.iconst 0, 1) := by decide +kernel
theorem dx_X12_least_2 : decode (go_cc mx_X12_least) 2 = .ok (.putfield 139, 3) := by decide +kernel
theorem dx_X12_least_5 : decode (go_cc mx_X12_least) 5 = .ok (.aload_n 0, 1) := by decide +kernel
theorem dx_X12_least_6 : decode (go_cc mx_X12_least) 6 = .ok (.iload_n 1, 1) := by decide +kernel
theorem dx_X12_least_7 : decode (go_cc mx_X12_least) 7 = .ok (.invokevirtual 235, 3) := by decide +kernel
theorem dx_X12_least_10 : decode (go_cc mx_X12_least) 10 = .ok (.ifCond .ne 6, 3) := by decide +kernel
theorem dx_X12_least_13 : decode (go_cc mx_X12_least) 13 = .ok (.bipush (-2), 2) := by decide +kernel
theorem dx_X12_least_15 : decode (go_cc mx_X12_least) 15 = .ok (.ireturn, 1) := by decide +kernel
theorem dx_X12_least_16 : decode (go_cc mx_X12_least) 16 = .ok (.aload_n 0, 1) := by decide +kernel
theorem dx_X12_least_17 : decode (go_cc mx_X12_least) 17 = .ok (.invokevirtual 238, 3) := by decide +kernel
theorem dx_X12_least_20 : decode (go_cc mx_X12_least) 20 = .ok (.iload_n 1, 1) := by decide +kernel
theorem dx_X12_least_21 : decode (go_cc mx_X12_least) 21 = .ok (.bipush 14, 2) := by decide +kernel
theorem dx_X12_least_23 : decode (go_cc mx_X12_least) 23 = .ok (.if_icmp .ge 12, 3) := by decide +kernel
theorem dx_X12_least_26 : decode (go_cc mx_X12_least) 26 = .ok (.aload_n 0, 1) := by decide +kernel
theorem dx_X12_least_27 : decode (go_cc mx_X12_least) 27 = .ok (.getfield 45, 3) := by decide +kernel
theorem dx_X12_least_30 : decode (go_cc mx_X12_least) 30 = .ok (.iload_n 1, 1) := by decide +kernel
theorem dx_X12_least_31 : decode (go_cc mx_X12_least) 31 = .ok (.iaload, 1) := by decide +kernel
theorem dx_X12_least_32 : decode (go_cc mx_X12_least) 32 = .ok (.goto 25, 3) := by decide +kernel
theorem dx_X12_least_35 : decode (go_cc mx_X12_least) 35 = .ok (.aload_n 0, 1) := by decide +kernel
theorem dx_X12_least_36 : decode (go_cc mx_X12_least) 36 = .ok (.aload_n 0, 1) := by decide +kernel
theorem dx_X12_least_37 : decode (go_cc mx_X12_least) 37 = .ok (.getfield 39, 3) := by decide +kernel
theorem dx_X12_least_40 : decode (go_cc mx_X12_least) 40 = .ok (.iload_n 1, 1) := by decide +kernel
theorem dx_X12_least_41 : decode (go_cc mx_X12_least) 41 = .ok (.bipush 14, 2) := by decide +kernel
theorem dx_X12_least_43 : decode (go_cc mx_X12_least) 43 = .ok (.isub, 1) := by decide +kernel
theorem dx_X12_least_44 : decode (go_cc mx_X12_least) 44 = .ok (.iaload, 1) := by decide +kernel
theorem dx_X12_least_45 : decode (go_cc mx_X12_least) 45 = .ok (.aload_n 0, 1) := by decide +kernel
theorem dx_X12_least_46 : decode (go_cc mx_X12_least) 46 = .ok (.getfield 42, 3) := by decide +kernel
theorem dx_X12_least_49 : decode (go_cc mx_X12_least) 49 = .ok (.iload_n 1, 1) := by decide +kernel
theorem dx_X12_least_50 : decode (go_cc mx_X12_least) 50 = .ok (.bipush 14, 2) := by decide +kernel
theorem dx_X12_least_52 : decode (go_cc mx_X12_least) 52 = .ok (.isub, 1) := by decide +kernel
theorem dx_X12_least_53 : decode (go_cc mx_X12_least) 53 = .ok (.iaload, 1) := by decide +kernel
theorem dx_X12_least_54 : decode (go_cc mx_X12_least) 54 = .ok (.invokevirtual 232, 3) := by decide +kernel
theorem dx_X12_least_57 : decode (go_cc mx_X12_least) 57 = .ok (.istore_n 2, 1) := by decide +kernel
theorem dx_X12_least_58 : decode (go_cc mx_X12_least) 58 = .ok (.iload_n 2, 1) := by decide +kernel
theorem dx_X12_least_59 : decode (go_cc mx_X12_least) 59 = .ok (.ldc 231, 2) := by decide +kernel
theorem dx_X12_least_61 : decode (go_cc mx_X12_least) 61 = .ok (.if_icmp .ne 7, 3) := by decide +kernel
theorem dx_X12_least_64 : decode (go_cc mx_X12_least) 64 = .ok (.iconst (-1), 1) := by decide +kernel
theorem dx_X12_least_65 : decode (go_cc mx_X12_least) 65 = .ok (.goto 4, 3) := by decide +kernel
theorem dx_X12_least_68 : decode (go_cc mx_X12_least) 68 = .ok (.iload_n 2, 1) := by decide +kernel
theorem dx_X12_least_69 : decode (go_cc mx_X12_least) 69 = .ok (.ireturn, 1) := by decide +kernel
theorem dx_X12_reached_0 : decode (go_cc mx_X12_reached) 0 = .ok (.aload_n 0, 1) := by decide +kernel
theorem dx_X12_reached_1 : decode (go_cc mx_X12_reached) 1 = .ok (.iconst 0, 1) := by decide +kernel
theorem dx_X12_reached_2 : decode (go_cc mx_X12_reached) 2 = .ok (.putfield 139, 3) := by decide +kernel
theorem dx_X12_reached_5 : decode (go_cc mx_X12_reached) 5 = .ok (.iload_n 1, 1) := by decide +kernel
theorem dx_X12_reached_6 : decode (go_cc mx_X12_reached) 6 = .ok (.i2l, 1) := by decide +kernel
theorem dx_X12_reached_7 : decode (go_cc mx_X12_reached) 7 = .ok (.lconst 0, 1) := by decide +kernel
theorem dx_X12_reached_8 : decode (go_cc mx_X12_reached) 8 = .ok (.lconst 1, 1) := by decide +kernel
theorem dx_X12_reached_9 : decode (go_cc mx_X12_reached) 9 = .ok (.invokestatic 144, 3) := by decide +kernel
theorem dx_X12_reached_12 : decode (go_cc mx_X12_reached) 12 = .ok (.ifCond .ne 6, 3) := by decide +kernel
theorem dx_X12_reached_15 : decode (go_cc mx_X12_reached) 15 = .ok (.bipush (-2), 2) := by decide +kernel
theorem dx_X12_reached_17 : decode (go_cc mx_X12_reached) 17 = .ok (.ireturn, 1) := by decide +kernel
theorem dx_X12_reached_18 : decode (go_cc mx_X12_reached) 18 = .ok (.iconst 1, 1) := by decide +kernel
theorem dx_X12_reached_19 : decode (go_cc mx_X12_reached) 19 = .ok (.aload_n 0, 1) := by decide +kernel
theorem dx_X12_reached_20 : decode (go_cc mx_X12_reached) 20 = .ok (.getfield 7, 3) := by decide +kernel
theorem dx_X12_reached_23 : decode (go_cc mx_X12_reached) 23 = .ok (.bipush 112, 2) := by decide +kernel
theorem dx_X12_reached_25 : decode (go_cc mx_X12_reached) 25 = .ok (.iaload, 1) := by decide +kernel
theorem dx_X12_reached_26 : decode (go_cc mx_X12_reached) 26 = .ok (.ishl, 1) := by decide +kernel
theorem dx_X12_reached_27 : decode (go_cc mx_X12_reached) 27 = .ok (.istore_n 2, 1) := by decide +kernel
theorem dx_X12_reached_28 : decode (go_cc mx_X12_reached) 28 = .ok (.iconst 0, 1) := by decide +kernel
theorem dx_X12_reached_29 : decode (go_cc mx_X12_reached) 29 = .ok (.istore_n 3, 1) := by decide +kernel
theorem dx_X12_reached_30 : decode (go_cc mx_X12_reached) 30 = .ok (.iload_n 3, 1) := by decide +kernel
theorem dx_X12_reached_31 : decode (go_cc mx_X12_reached) 31 = .ok (.bipush 8, 2) := by decide +kernel
theorem dx_X12_reached_33 : decode (go_cc mx_X12_reached) 33 = .ok (.if_icmp .ge 74, 3) := by decide +kernel
theorem dx_X12_reached_36 : decode (go_cc mx_X12_reached) 36 = .ok (.iconst 0, 1) := by decide +kernel
theorem dx_X12_reached_37 : decode (go_cc mx_X12_reached) 37 = .ok (.istore 4, 2) := by decide +kernel
theorem dx_X12_reached_39 : decode (go_cc mx_X12_reached) 39 = .ok (.iload 4, 2) := by decide +kernel
theorem dx_X12_reached_41 : decode (go_cc mx_X12_reached) 41 = .ok (.bipush 16, 2) := by decide +kernel
theorem dx_X12_reached_43 : decode (go_cc mx_X12_reached) 43 = .ok (.if_icmp .ge 58, 3) := by decide +kernel
theorem dx_X12_reached_46 : decode (go_cc mx_X12_reached) 46 = .ok (.iload_n 2, 1) := by decide +kernel
theorem dx_X12_reached_47 : decode (go_cc mx_X12_reached) 47 = .ok (.aload_n 0, 1) := by decide +kernel
theorem dx_X12_reached_48 : decode (go_cc mx_X12_reached) 48 = .ok (.iload 4, 2) := by decide +kernel
theorem dx_X12_reached_50 : decode (go_cc mx_X12_reached) 50 = .ok (.invokevirtual 184, 3) := by decide +kernel
theorem dx_X12_reached_53 : decode (go_cc mx_X12_reached) 53 = .ok (.ishr, 1) := by decide +kernel
theorem dx_X12_reached_54 : decode (go_cc mx_X12_reached) 54 = .ok (.iconst 1, 1) := by decide +kernel
theorem dx_X12_reached_55 : decode (go_cc mx_X12_reached) 55 = .ok (.iand, 1) := by decide +kernel
theorem dx_X12_reached_56 : decode (go_cc mx_X12_reached) 56 = .ok (.ifCond .ne 6, 3) := by decide +kernel
theorem dx_X12_reached_59 : decode (go_cc mx_X12_reached) 59 = .ok (.goto 36, 3) := by decide +kernel
theorem dx_X12_reached_62 : decode (go_cc mx_X12_reached) 62 = .ok (.iconst 0, 1) := by decide +kernel
theorem dx_X12_reached_63 : decode (go_cc mx_X12_reached) 63 = .ok (.istore 5, 2) := by decide +kernel
theorem dx_X12_reached_65 : decode (go_cc mx_X12_reached) 65 = .ok (.iload 5, 2) := by decide +kernel
theorem dx_X12_reached_67 : decode (go_cc mx_X12_reached) 67 = .ok (.aload_n 0, 1) := by decide +kernel
theorem dx_X12_reached_68 : decode (go_cc mx_X12_reached) 68 = .ok (.iload 4, 2) := by decide +kernel
theorem dx_X12_reached_70 : decode (go_cc mx_X12_reached) 70 = .ok (.invokevirtual 148, 3) := by decide +kernel
theorem dx_X12_reached_73 : decode (go_cc mx_X12_reached) 73 = .ok (.if_icmp .ge 22, 3) := by decide +kernel
theorem dx_X12_reached_76 : decode (go_cc mx_X12_reached) 76 = .ok (.iload_n 2, 1) := by decide +kernel
theorem dx_X12_reached_77 : decode (go_cc mx_X12_reached) 77 = .ok (.iconst 1, 1) := by decide +kernel
theorem dx_X12_reached_78 : decode (go_cc mx_X12_reached) 78 = .ok (.aload_n 0, 1) := by decide +kernel
theorem dx_X12_reached_79 : decode (go_cc mx_X12_reached) 79 = .ok (.iload 4, 2) := by decide +kernel
theorem dx_X12_reached_81 : decode (go_cc mx_X12_reached) 81 = .ok (.iload 5, 2) := by decide +kernel
theorem dx_X12_reached_83 : decode (go_cc mx_X12_reached) 83 = .ok (.invokevirtual 190, 3) := by decide +kernel
theorem dx_X12_reached_86 : decode (go_cc mx_X12_reached) 86 = .ok (.ishl, 1) := by decide +kernel
theorem dx_X12_reached_87 : decode (go_cc mx_X12_reached) 87 = .ok (.ior, 1) := by decide +kernel
theorem dx_X12_reached_88 : decode (go_cc mx_X12_reached) 88 = .ok (.istore_n 2, 1) := by decide +kernel
theorem dx_X12_reached_89 : decode (go_cc mx_X12_reached) 89 = .ok (.iinc 5 1, 3) := by decide +kernel
theorem dx_X12_reached_92 : decode (go_cc mx_X12_reached) 92 = .ok (.goto (-27), 3) := by decide +kernel
theorem dx_X12_reached_95 : decode (go_cc mx_X12_reached) 95 = .ok (.iinc 4 1, 3) := by decide +kernel
theorem dx_X12_reached_98 : decode (go_cc mx_X12_reached) 98 = .ok (.goto (-59), 3) := by decide +kernel
theorem dx_X12_reached_101 : decode (go_cc mx_X12_reached) 101 = .ok (.iinc 3 1, 3) := by decide +kernel
theorem dx_X12_reached_104 : decode (go_cc mx_X12_reached) 104 = .ok (.goto (-74), 3) := by decide +kernel
theorem dx_X12_reached_107 : decode (go_cc mx_X12_reached) 107 = .ok (.iload_n 2, 1) := by decide +kernel
theorem dx_X12_reached_108 : decode (go_cc mx_X12_reached) 108 = .ok (.sipush 255, 3) := by decide +kernel
theorem dx_X12_reached_111 : decode (go_cc mx_X12_reached) 111 = .ok (.iand, 1) := by decide +kernel
theorem dx_X12_reached_112 : decode (go_cc mx_X12_reached) 112 = .ok (.istore_n 2, 1) := by decide +kernel
theorem dx_X12_reached_113 : decode (go_cc mx_X12_reached) 113 = .ok (.aload_n 0, 1) := by decide +kernel
theorem dx_X12_reached_114 : decode (go_cc mx_X12_reached) 114 = .ok (.invokevirtual 238, 3) := by decide +kernel
theorem dx_X12_reached_117 : decode (go_cc mx_X12_reached) 117 = .ok (.iconst 0, 1) := by decide +kernel
theorem dx_X12_reached_118 : decode (go_cc mx_X12_reached) 118 = .ok (.istore_n 3, 1) := by decide +kernel
theorem dx_X12_reached_119 : decode (go_cc mx_X12_reached) 119 = .ok (.iload_n 3, 1) := by decide +kernel
theorem dx_X12_reached_120 : decode (go_cc mx_X12_reached) 120 = .ok (.bipush 8, 2) := by decide +kernel
theorem dx_X12_reached_122 : decode (go_cc mx_X12_reached) 122 = .ok (.if_icmp .ge 33, 3) := by decide +kernel
theorem dx_X12_reached_125 : decode (go_cc mx_X12_reached) 125 = .ok (.iload_n 1, 1) := by decide +kernel
theorem dx_X12_reached_126 : decode (go_cc mx_X12_reached) 126 = .ok (.iconst 1, 1) := by decide +kernel
theorem dx_X12_reached_127 : decode (go_cc mx_X12_reached) 127 = .ok (.if_icmp .ne 28, 3) := by decide +kernel
theorem dx_X12_reached_130 : decode (go_cc mx_X12_reached) 130 = .ok (.aload_n 0, 1) := by decide +kernel
theorem dx_X12_reached_131 : decode (go_cc mx_X12_reached) 131 = .ok (.getfield 45, 3) := by decide +kernel
theorem dx_X12_reached_134 : decode (go_cc mx_X12_reached) 134 = .ok (.iload_n 3, 1) := by decide +kernel
theorem dx_X12_reached_135 : decode (go_cc mx_X12_reached) 135 = .ok (.iaload, 1) := by decide +kernel
theorem dx_X12_reached_136 : decode (go_cc mx_X12_reached) 136 = .ok (.ldc 231, 2) := by decide +kernel
theorem dx_X12_reached_138 : decode (go_cc mx_X12_reached) 138 = .ok (.if_icmp .ne 11, 3) := by decide +kernel
theorem dx_X12_reached_141 : decode (go_cc mx_X12_reached) 141 = .ok (.iload_n 2, 1) := by decide +kernel
theorem dx_X12_reached_142 : decode (go_cc mx_X12_reached) 142 = .ok (.iconst 1, 1) := by decide +kernel
theorem dx_X12_reached_143 : decode (go_cc mx_X12_reached) 143 = .ok (.iload_n 3, 1) := by decide +kernel
theorem dx_X12_reached_144 : decode (go_cc mx_X12_reached) 144 = .ok (.ishl, 1) := by decide +kernel
theorem dx_X12_reached_145 : decode (go_cc mx_X12_reached) 145 = .ok (.iconst (-1), 1) := by decide +kernel
theorem dx_X12_reached_146 : decode (go_cc mx_X12_reached) 146 = .ok (.ixor, 1) := by decide +kernel
theorem dx_X12_reached_147 : decode (go_cc mx_X12_reached) 147 = .ok (.iand, 1) := by decide +kernel
theorem dx_X12_reached_148 : decode (go_cc mx_X12_reached) 148 = .ok (.istore_n 2, 1) := by decide +kernel
theorem dx_X12_reached_149 : decode (go_cc mx_X12_reached) 149 = .ok (.iinc 3 1, 3) := by decide +kernel
theorem dx_X12_reached_152 : decode (go_cc mx_X12_reached) 152 = .ok (.goto (-33), 3) := by decide +kernel
theorem dx_X12_reached_155 : decode (go_cc mx_X12_reached) 155 = .ok (.iload_n 2, 1) := by decide +kernel
theorem dx_X12_reached_156 : decode (go_cc mx_X12_reached) 156 = .ok (.ireturn, 1) := by decide +kernel
theorem dx_X12_has_0 : decode (go_cc mx_X12_has) 0 = .ok (.lload_n 0, 1) := by decide +kernel
theorem dx_X12_has_1 : decode (go_cc mx_X12_has) 1 = .ok (.iload_n 2, 1) := by decide +kernel
theorem dx_X12_has_2 : decode (go_cc mx_X12_has) 2 = .ok (.lshr, 1) := by decide +kernel
theorem dx_X12_has_3 : decode (go_cc mx_X12_has) 3 = .ok (.lconst 1, 1) := by decide +kernel
theorem dx_X12_has_4 : decode (go_cc mx_X12_has) 4 = .ok (.land, 1) := by decide +kernel
theorem dx_X12_has_5 : decode (go_cc mx_X12_has) 5 = .ok (.lconst 1, 1) := by decide +kernel
theorem dx_X12_has_6 : decode (go_cc mx_X12_has) 6 = .ok (.lcmp, 1) := by decide +kernel
theorem dx_X12_has_7 : decode (go_cc mx_X12_has) 7 = .ok (.ifCond .ne 7, 3) := by decide +kernel
theorem dx_X12_has_10 : decode (go_cc mx_X12_has) 10 = .ok (.iconst 1, 1) := by decide +kernel
theorem dx_X12_has_11 : decode (go_cc mx_X12_has) 11 = .ok (.goto 4, 3) := by decide +kernel
theorem dx_X12_has_14 : decode (go_cc mx_X12_has) 14 = .ok (.iconst 0, 1) := by decide +kernel
theorem dx_X12_has_15 : decode (go_cc mx_X12_has) 15 = .ok (.ireturn, 1) := by decide +kernel
theorem dx_X12_closed_0 : decode (go_cc mx_X12_closed) 0 = .ok (.lload_n 1, 1) := by decide +kernel
theorem dx_X12_closed_1 : decode (go_cc mx_X12_closed) 1 = .ok (.lstore_n 3, 1) := by decide +kernel
theorem dx_X12_closed_2 : decode (go_cc mx_X12_closed) 2 = .ok (.iconst 1, 1) := by decide +kernel
theorem dx_X12_closed_3 : decode (go_cc mx_X12_closed) 3 = .ok (.istore 5, 2) := by decide +kernel
theorem dx_X12_closed_5 : decode (go_cc mx_X12_closed) 5 = .ok (.iload 5, 2) := by decide +kernel
theorem dx_X12_closed_7 : decode (go_cc mx_X12_closed) 7 = .ok (.ifCond .eq 74, 3) := by decide +kernel
theorem dx_X12_closed_10 : decode (go_cc mx_X12_closed) 10 = .ok (.lload_n 3, 1) := by decide +kernel
theorem dx_X12_closed_11 : decode (go_cc mx_X12_closed) 11 = .ok (.lstore 6, 2) := by decide +kernel
theorem dx_X12_closed_13 : decode (go_cc mx_X12_closed) 13 = .ok (.iconst 0, 1) := by decide +kernel
theorem dx_X12_closed_14 : decode (go_cc mx_X12_closed) 14 = .ok (.istore 8, 2) := by decide +kernel
theorem dx_X12_closed_16 : decode (go_cc mx_X12_closed) 16 = .ok (.iload 8, 2) := by decide +kernel
theorem dx_X12_closed_18 : decode (go_cc mx_X12_closed) 18 = .ok (.bipush 16, 2) := by decide +kernel
theorem dx_X12_closed_20 : decode (go_cc mx_X12_closed) 20 = .ok (.if_icmp .ge 44, 3) := by decide +kernel
theorem dx_X12_closed_23 : decode (go_cc mx_X12_closed) 23 = .ok (.aload_n 0, 1) := by decide +kernel
theorem dx_X12_closed_24 : decode (go_cc mx_X12_closed) 24 = .ok (.iload 8, 2) := by decide +kernel
theorem dx_X12_closed_26 : decode (go_cc mx_X12_closed) 26 = .ok (.invokevirtual 148, 3) := by decide +kernel
theorem dx_X12_closed_29 : decode (go_cc mx_X12_closed) 29 = .ok (.iconst 1, 1) := by decide +kernel
theorem dx_X12_closed_30 : decode (go_cc mx_X12_closed) 30 = .ok (.if_icmp .ne 28, 3) := by decide +kernel
theorem dx_X12_closed_33 : decode (go_cc mx_X12_closed) 33 = .ok (.lload_n 3, 1) := by decide +kernel
theorem dx_X12_closed_34 : decode (go_cc mx_X12_closed) 34 = .ok (.aload_n 0, 1) := by decide +kernel
theorem dx_X12_closed_35 : decode (go_cc mx_X12_closed) 35 = .ok (.iload 8, 2) := by decide +kernel
theorem dx_X12_closed_37 : decode (go_cc mx_X12_closed) 37 = .ok (.iconst 0, 1) := by decide +kernel
theorem dx_X12_closed_38 : decode (go_cc mx_X12_closed) 38 = .ok (.invokevirtual 190, 3) := by decide +kernel
theorem dx_X12_closed_41 : decode (go_cc mx_X12_closed) 41 = .ok (.invokestatic 241, 3) := by decide +kernel
theorem dx_X12_closed_44 : decode (go_cc mx_X12_closed) 44 = .ok (.ifCond .eq 14, 3) := by decide +kernel
theorem dx_X12_closed_47 : decode (go_cc mx_X12_closed) 47 = .ok (.lload_n 3, 1) := by decide +kernel
theorem dx_X12_closed_48 : decode (go_cc mx_X12_closed) 48 = .ok (.lconst 1, 1) := by decide +kernel
theorem dx_X12_closed_49 : decode (go_cc mx_X12_closed) 49 = .ok (.aload_n 0, 1) := by decide +kernel
theorem dx_X12_closed_50 : decode (go_cc mx_X12_closed) 50 = .ok (.iload 8, 2) := by decide +kernel
theorem dx_X12_closed_52 : decode (go_cc mx_X12_closed) 52 = .ok (.invokevirtual 184, 3) := by decide +kernel
theorem dx_X12_closed_55 : decode (go_cc mx_X12_closed) 55 = .ok (.lshl, 1) := by decide +kernel
theorem dx_X12_closed_56 : decode (go_cc mx_X12_closed) 56 = .ok (.lor, 1) := by decide +kernel
theorem dx_X12_closed_57 : decode (go_cc mx_X12_closed) 57 = .ok (.lstore_n 3, 1) := by decide +kernel
theorem dx_X12_closed_58 : decode (go_cc mx_X12_closed) 58 = .ok (.iinc 8 1, 3) := by decide +kernel
theorem dx_X12_closed_61 : decode (go_cc mx_X12_closed) 61 = .ok (.goto (-45), 3) := by decide +kernel
theorem dx_X12_closed_64 : decode (go_cc mx_X12_closed) 64 = .ok (.lload_n 3, 1) := by decide +kernel
theorem dx_X12_closed_65 : decode (go_cc mx_X12_closed) 65 = .ok (.lload 6, 2) := by decide +kernel
theorem dx_X12_closed_67 : decode (go_cc mx_X12_closed) 67 = .ok (.lcmp, 1) := by decide +kernel
theorem dx_X12_closed_68 : decode (go_cc mx_X12_closed) 68 = .ok (.ifCond .eq 7, 3) := by decide +kernel
theorem dx_X12_closed_71 : decode (go_cc mx_X12_closed) 71 = .ok (.iconst 1, 1) := by decide +kernel
theorem dx_X12_closed_72 : decode (go_cc mx_X12_closed) 72 = .ok (.goto 4, 3) := by decide +kernel
theorem dx_X12_closed_75 : decode (go_cc mx_X12_closed) 75 = .ok (.iconst 0, 1) := by decide +kernel
theorem dx_X12_closed_76 : decode (go_cc mx_X12_closed) 76 = .ok (.istore 5, 2) := by decide +kernel
theorem dx_X12_closed_78 : decode (go_cc mx_X12_closed) 78 = .ok (.goto (-73), 3) := by decide +kernel
theorem dx_X12_closed_81 : decode (go_cc mx_X12_closed) 81 = .ok (.lload_n 3, 1) := by decide +kernel
theorem dx_X12_closed_82 : decode (go_cc mx_X12_closed) 82 = .ok (.lreturn, 1) := by decide +kernel
theorem dx_X12_made_0 : decode (go_cc mx_X12_made) 0 = .ok (.lconst 0, 1) := by decide +kernel
theorem dx_X12_made_1 : decode (go_cc mx_X12_made) 1 = .ok (.lstore 5, 2) := by decide +kernel
theorem dx_X12_made_3 : decode (go_cc mx_X12_made) 3 = .ok (.lload_n 1, 1) := by decide +kernel
theorem dx_X12_made_4 : decode (go_cc mx_X12_made) 4 = .ok (.lconst 0, 1) := by decide +kernel
theorem dx_X12_made_5 : decode (go_cc mx_X12_made) 5 = .ok (.lcmp, 1) := by decide +kernel
theorem dx_X12_made_6 : decode (go_cc mx_X12_made) 6 = .ok (.ifCond .eq 9, 3) := by decide +kernel
theorem dx_X12_made_9 : decode (go_cc mx_X12_made) 9 = .ok (.lload_n 3, 1) := by decide +kernel
theorem dx_X12_made_10 : decode (go_cc mx_X12_made) 10 = .ok (.lconst 0, 1) := by decide +kernel
theorem dx_X12_made_11 : decode (go_cc mx_X12_made) 11 = .ok (.lcmp, 1) := by decide +kernel
theorem dx_X12_made_12 : decode (go_cc mx_X12_made) 12 = .ok (.ifCond .ne 6, 3) := by decide +kernel
theorem dx_X12_made_15 : decode (go_cc mx_X12_made) 15 = .ok (.lload 5, 2) := by decide +kernel
theorem dx_X12_made_17 : decode (go_cc mx_X12_made) 17 = .ok (.lreturn, 1) := by decide +kernel
theorem dx_X12_made_18 : decode (go_cc mx_X12_made) 18 = .ok (.iconst 0, 1) := by decide +kernel
theorem dx_X12_made_19 : decode (go_cc mx_X12_made) 19 = .ok (.istore 7, 2) := by decide +kernel
theorem dx_X12_made_21 : decode (go_cc mx_X12_made) 21 = .ok (.iload 7, 2) := by decide +kernel
theorem dx_X12_made_23 : decode (go_cc mx_X12_made) 23 = .ok (.aload_n 0, 1) := by decide +kernel
theorem dx_X12_made_24 : decode (go_cc mx_X12_made) 24 = .ok (.getfield 215, 3) := by decide +kernel
theorem dx_X12_made_27 : decode (go_cc mx_X12_made) 27 = .ok (.if_icmp .ge 51, 3) := by decide +kernel
theorem dx_X12_made_30 : decode (go_cc mx_X12_made) 30 = .ok (.lload_n 1, 1) := by decide +kernel
theorem dx_X12_made_31 : decode (go_cc mx_X12_made) 31 = .ok (.aload_n 0, 1) := by decide +kernel
theorem dx_X12_made_32 : decode (go_cc mx_X12_made) 32 = .ok (.getfield 30, 3) := by decide +kernel
theorem dx_X12_made_35 : decode (go_cc mx_X12_made) 35 = .ok (.iload 7, 2) := by decide +kernel
theorem dx_X12_made_37 : decode (go_cc mx_X12_made) 37 = .ok (.iaload, 1) := by decide +kernel
theorem dx_X12_made_38 : decode (go_cc mx_X12_made) 38 = .ok (.invokestatic 241, 3) := by decide +kernel
theorem dx_X12_made_41 : decode (go_cc mx_X12_made) 41 = .ok (.ifCond .eq 31, 3) := by decide +kernel
theorem dx_X12_made_44 : decode (go_cc mx_X12_made) 44 = .ok (.lload_n 3, 1) := by decide +kernel
theorem dx_X12_made_45 : decode (go_cc mx_X12_made) 45 = .ok (.aload_n 0, 1) := by decide +kernel
theorem dx_X12_made_46 : decode (go_cc mx_X12_made) 46 = .ok (.getfield 33, 3) := by decide +kernel
theorem dx_X12_made_49 : decode (go_cc mx_X12_made) 49 = .ok (.iload 7, 2) := by decide +kernel
theorem dx_X12_made_51 : decode (go_cc mx_X12_made) 51 = .ok (.iaload, 1) := by decide +kernel
theorem dx_X12_made_52 : decode (go_cc mx_X12_made) 52 = .ok (.invokestatic 241, 3) := by decide +kernel
theorem dx_X12_made_55 : decode (go_cc mx_X12_made) 55 = .ok (.ifCond .eq 17, 3) := by decide +kernel
theorem dx_X12_made_58 : decode (go_cc mx_X12_made) 58 = .ok (.lload 5, 2) := by decide +kernel
theorem dx_X12_made_60 : decode (go_cc mx_X12_made) 60 = .ok (.lconst 1, 1) := by decide +kernel
theorem dx_X12_made_61 : decode (go_cc mx_X12_made) 61 = .ok (.aload_n 0, 1) := by decide +kernel
theorem dx_X12_made_62 : decode (go_cc mx_X12_made) 62 = .ok (.getfield 27, 3) := by decide +kernel
theorem dx_X12_made_65 : decode (go_cc mx_X12_made) 65 = .ok (.iload 7, 2) := by decide +kernel
theorem dx_X12_made_67 : decode (go_cc mx_X12_made) 67 = .ok (.iaload, 1) := by decide +kernel
theorem dx_X12_made_68 : decode (go_cc mx_X12_made) 68 = .ok (.lshl, 1) := by decide +kernel
theorem dx_X12_made_69 : decode (go_cc mx_X12_made) 69 = .ok (.lor, 1) := by decide +kernel
theorem dx_X12_made_70 : decode (go_cc mx_X12_made) 70 = .ok (.lstore 5, 2) := by decide +kernel
theorem dx_X12_made_72 : decode (go_cc mx_X12_made) 72 = .ok (.iinc 7 1, 3) := by decide +kernel
theorem dx_X12_made_75 : decode (go_cc mx_X12_made) 75 = .ok (.goto (-54), 3) := by decide +kernel
theorem dx_X12_made_78 : decode (go_cc mx_X12_made) 78 = .ok (.lload 5, 2) := by decide +kernel
theorem dx_X12_made_80 : decode (go_cc mx_X12_made) 80 = .ok (.lreturn, 1) := by decide +kernel
theorem dx_X12_laysCells_0 : decode (go_cc mx_X12_laysCells) 0 = .ok (.aload_n 0, 1) := by decide +kernel
theorem dx_X12_laysCells_1 : decode (go_cc mx_X12_laysCells) 1 = .ok (.invokevirtual 221, 3) := by decide +kernel
theorem dx_X12_laysCells_4 : decode (go_cc mx_X12_laysCells) 4 = .ok (.iconst 1, 1) := by decide +kernel
theorem dx_X12_laysCells_5 : decode (go_cc mx_X12_laysCells) 5 = .ok (.istore_n 2, 1) := by decide +kernel
theorem dx_X12_laysCells_6 : decode (go_cc mx_X12_laysCells) 6 = .ok (.iload_n 2, 1) := by decide +kernel
theorem dx_X12_laysCells_7 : decode (go_cc mx_X12_laysCells) 7 = .ok (.iload_n 1, 1) := by decide +kernel
theorem dx_X12_laysCells_8 : decode (go_cc mx_X12_laysCells) 8 = .ok (.if_icmp .gt 116, 3) := by decide +kernel
theorem dx_X12_laysCells_11 : decode (go_cc mx_X12_laysCells) 11 = .ok (.iconst 0, 1) := by decide +kernel
theorem dx_X12_laysCells_12 : decode (go_cc mx_X12_laysCells) 12 = .ok (.istore_n 3, 1) := by decide +kernel
theorem dx_X12_laysCells_13 : decode (go_cc mx_X12_laysCells) 13 = .ok (.iload_n 3, 1) := by decide +kernel
theorem dx_X12_laysCells_14 : decode (go_cc mx_X12_laysCells) 14 = .ok (.iload_n 2, 1) := by decide +kernel
theorem dx_X12_laysCells_15 : decode (go_cc mx_X12_laysCells) 15 = .ok (.iadd, 1) := by decide +kernel
theorem dx_X12_laysCells_16 : decode (go_cc mx_X12_laysCells) 16 = .ok (.iload_n 1, 1) := by decide +kernel
theorem dx_X12_laysCells_17 : decode (go_cc mx_X12_laysCells) 17 = .ok (.if_icmp .gt 101, 3) := by decide +kernel
theorem dx_X12_laysCells_20 : decode (go_cc mx_X12_laysCells) 20 = .ok (.iload_n 2, 1) := by decide +kernel
theorem dx_X12_laysCells_21 : decode (go_cc mx_X12_laysCells) 21 = .ok (.iconst 1, 1) := by decide +kernel
theorem dx_X12_laysCells_22 : decode (go_cc mx_X12_laysCells) 22 = .ok (.if_icmp .ne 14, 3) := by decide +kernel
theorem dx_X12_laysCells_25 : decode (go_cc mx_X12_laysCells) 25 = .ok (.lconst 1, 1) := by decide +kernel
theorem dx_X12_laysCells_26 : decode (go_cc mx_X12_laysCells) 26 = .ok (.aload_n 0, 1) := by decide +kernel
theorem dx_X12_laysCells_27 : decode (go_cc mx_X12_laysCells) 27 = .ok (.getfield 48, 3) := by decide +kernel
theorem dx_X12_laysCells_30 : decode (go_cc mx_X12_laysCells) 30 = .ok (.iload_n 3, 1) := by decide +kernel
theorem dx_X12_laysCells_31 : decode (go_cc mx_X12_laysCells) 31 = .ok (.iaload, 1) := by decide +kernel
theorem dx_X12_laysCells_32 : decode (go_cc mx_X12_laysCells) 32 = .ok (.lshl, 1) := by decide +kernel
theorem dx_X12_laysCells_33 : decode (go_cc mx_X12_laysCells) 33 = .ok (.goto 4, 3) := by decide +kernel
theorem dx_X12_laysCells_36 : decode (go_cc mx_X12_laysCells) 36 = .ok (.lconst 0, 1) := by decide +kernel
theorem dx_X12_laysCells_37 : decode (go_cc mx_X12_laysCells) 37 = .ok (.lstore 4, 2) := by decide +kernel
theorem dx_X12_laysCells_39 : decode (go_cc mx_X12_laysCells) 39 = .ok (.iload_n 3, 1) := by decide +kernel
theorem dx_X12_laysCells_40 : decode (go_cc mx_X12_laysCells) 40 = .ok (.iconst 1, 1) := by decide +kernel
theorem dx_X12_laysCells_41 : decode (go_cc mx_X12_laysCells) 41 = .ok (.iadd, 1) := by decide +kernel
theorem dx_X12_laysCells_42 : decode (go_cc mx_X12_laysCells) 42 = .ok (.istore 6, 2) := by decide +kernel
theorem dx_X12_laysCells_44 : decode (go_cc mx_X12_laysCells) 44 = .ok (.iload 6, 2) := by decide +kernel
theorem dx_X12_laysCells_46 : decode (go_cc mx_X12_laysCells) 46 = .ok (.iload_n 3, 1) := by decide +kernel
theorem dx_X12_laysCells_47 : decode (go_cc mx_X12_laysCells) 47 = .ok (.iload_n 2, 1) := by decide +kernel
theorem dx_X12_laysCells_48 : decode (go_cc mx_X12_laysCells) 48 = .ok (.iadd, 1) := by decide +kernel
theorem dx_X12_laysCells_49 : decode (go_cc mx_X12_laysCells) 49 = .ok (.if_icmp .ge 44, 3) := by decide +kernel
theorem dx_X12_laysCells_52 : decode (go_cc mx_X12_laysCells) 52 = .ok (.lload 4, 2) := by decide +kernel
theorem dx_X12_laysCells_54 : decode (go_cc mx_X12_laysCells) 54 = .ok (.aload_n 0, 1) := by decide +kernel
theorem dx_X12_laysCells_55 : decode (go_cc mx_X12_laysCells) 55 = .ok (.aload_n 0, 1) := by decide +kernel
theorem dx_X12_laysCells_56 : decode (go_cc mx_X12_laysCells) 56 = .ok (.getfield 51, 3) := by decide +kernel
theorem dx_X12_laysCells_59 : decode (go_cc mx_X12_laysCells) 59 = .ok (.bipush 16, 2) := by decide +kernel
theorem dx_X12_laysCells_61 : decode (go_cc mx_X12_laysCells) 61 = .ok (.iload_n 3, 1) := by decide +kernel
theorem dx_X12_laysCells_62 : decode (go_cc mx_X12_laysCells) 62 = .ok (.imul, 1) := by decide +kernel
theorem dx_X12_laysCells_63 : decode (go_cc mx_X12_laysCells) 63 = .ok (.iload 6, 2) := by decide +kernel
theorem dx_X12_laysCells_65 : decode (go_cc mx_X12_laysCells) 65 = .ok (.iadd, 1) := by decide +kernel
theorem dx_X12_laysCells_66 : decode (go_cc mx_X12_laysCells) 66 = .ok (.laload, 1) := by decide +kernel
theorem dx_X12_laysCells_67 : decode (go_cc mx_X12_laysCells) 67 = .ok (.aload_n 0, 1) := by decide +kernel
theorem dx_X12_laysCells_68 : decode (go_cc mx_X12_laysCells) 68 = .ok (.getfield 51, 3) := by decide +kernel
theorem dx_X12_laysCells_71 : decode (go_cc mx_X12_laysCells) 71 = .ok (.bipush 16, 2) := by decide +kernel
theorem dx_X12_laysCells_73 : decode (go_cc mx_X12_laysCells) 73 = .ok (.iload 6, 2) := by decide +kernel
theorem dx_X12_laysCells_75 : decode (go_cc mx_X12_laysCells) 75 = .ok (.imul, 1) := by decide +kernel
theorem dx_X12_laysCells_76 : decode (go_cc mx_X12_laysCells) 76 = .ok (.iload_n 3, 1) := by decide +kernel
theorem dx_X12_laysCells_77 : decode (go_cc mx_X12_laysCells) 77 = .ok (.iadd, 1) := by decide +kernel
theorem dx_X12_laysCells_78 : decode (go_cc mx_X12_laysCells) 78 = .ok (.iload_n 2, 1) := by decide +kernel
theorem dx_X12_laysCells_79 : decode (go_cc mx_X12_laysCells) 79 = .ok (.iadd, 1) := by decide +kernel
theorem dx_X12_laysCells_80 : decode (go_cc mx_X12_laysCells) 80 = .ok (.laload, 1) := by decide +kernel
theorem dx_X12_laysCells_81 : decode (go_cc mx_X12_laysCells) 81 = .ok (.invokevirtual 245, 3) := by decide +kernel
theorem dx_X12_laysCells_84 : decode (go_cc mx_X12_laysCells) 84 = .ok (.lor, 1) := by decide +kernel
theorem dx_X12_laysCells_85 : decode (go_cc mx_X12_laysCells) 85 = .ok (.lstore 4, 2) := by decide +kernel
theorem dx_X12_laysCells_87 : decode (go_cc mx_X12_laysCells) 87 = .ok (.iinc 6 1, 3) := by decide +kernel
theorem dx_X12_laysCells_90 : decode (go_cc mx_X12_laysCells) 90 = .ok (.goto (-46), 3) := by decide +kernel
theorem dx_X12_laysCells_93 : decode (go_cc mx_X12_laysCells) 93 = .ok (.aload_n 0, 1) := by decide +kernel
theorem dx_X12_laysCells_94 : decode (go_cc mx_X12_laysCells) 94 = .ok (.getfield 51, 3) := by decide +kernel
theorem dx_X12_laysCells_97 : decode (go_cc mx_X12_laysCells) 97 = .ok (.bipush 16, 2) := by decide +kernel
theorem dx_X12_laysCells_99 : decode (go_cc mx_X12_laysCells) 99 = .ok (.iload_n 3, 1) := by decide +kernel
theorem dx_X12_laysCells_100 : decode (go_cc mx_X12_laysCells) 100 = .ok (.imul, 1) := by decide +kernel
theorem dx_X12_laysCells_101 : decode (go_cc mx_X12_laysCells) 101 = .ok (.iload_n 3, 1) := by decide +kernel
theorem dx_X12_laysCells_102 : decode (go_cc mx_X12_laysCells) 102 = .ok (.iadd, 1) := by decide +kernel
theorem dx_X12_laysCells_103 : decode (go_cc mx_X12_laysCells) 103 = .ok (.iload_n 2, 1) := by decide +kernel
theorem dx_X12_laysCells_104 : decode (go_cc mx_X12_laysCells) 104 = .ok (.iadd, 1) := by decide +kernel
theorem dx_X12_laysCells_105 : decode (go_cc mx_X12_laysCells) 105 = .ok (.aload_n 0, 1) := by decide +kernel
theorem dx_X12_laysCells_106 : decode (go_cc mx_X12_laysCells) 106 = .ok (.lload 4, 2) := by decide +kernel
theorem dx_X12_laysCells_108 : decode (go_cc mx_X12_laysCells) 108 = .ok (.invokevirtual 249, 3) := by decide +kernel
theorem dx_X12_laysCells_111 : decode (go_cc mx_X12_laysCells) 111 = .ok (.lastore, 1) := by decide +kernel
theorem dx_X12_laysCells_112 : decode (go_cc mx_X12_laysCells) 112 = .ok (.iinc 3 1, 3) := by decide +kernel
theorem dx_X12_laysCells_115 : decode (go_cc mx_X12_laysCells) 115 = .ok (.goto (-102), 3) := by decide +kernel
theorem dx_X12_laysCells_118 : decode (go_cc mx_X12_laysCells) 118 = .ok (.iinc 2 1, 3) := by decide +kernel
theorem dx_X12_laysCells_121 : decode (go_cc mx_X12_laysCells) 121 = .ok (.goto (-115), 3) := by decide +kernel
theorem dx_X12_laysCells_124 : decode (go_cc mx_X12_laysCells) 124 = .ok (.return_, 1) := by decide +kernel
theorem dx_X12_lays_0 : decode (go_cc mx_X12_lays) 0 = .ok (.aload_n 0, 1) := by decide +kernel
theorem dx_X12_lays_1 : decode (go_cc mx_X12_lays) 1 = .ok (.getfield 155, 3) := by decide +kernel
theorem dx_X12_lays_4 : decode (go_cc mx_X12_lays) 4 = .ok (.ifCond .eq 4, 3) := by decide +kernel
theorem dx_X12_lays_7 : decode (go_cc mx_X12_lays) 7 = .ok (.return_, 1) := by decide +kernel
theorem dx_X12_lays_8 : decode (go_cc mx_X12_lays) 8 = .ok (.aload_n 0, 1) := by decide +kernel
theorem dx_X12_lays_9 : decode (go_cc mx_X12_lays) 9 = .ok (.iconst 1, 1) := by decide +kernel
theorem dx_X12_lays_10 : decode (go_cc mx_X12_lays) 10 = .ok (.putfield 155, 3) := by decide +kernel
theorem dx_X12_lays_13 : decode (go_cc mx_X12_lays) 13 = .ok (.iconst 0, 1) := by decide +kernel
theorem dx_X12_lays_14 : decode (go_cc mx_X12_lays) 14 = .ok (.istore_n 1, 1) := by decide +kernel
theorem dx_X12_lays_15 : decode (go_cc mx_X12_lays) 15 = .ok (.iload_n 1, 1) := by decide +kernel
theorem dx_X12_lays_16 : decode (go_cc mx_X12_lays) 16 = .ok (.bipush 14, 2) := by decide +kernel
theorem dx_X12_lays_18 : decode (go_cc mx_X12_lays) 18 = .ok (.if_icmp .ge 24, 3) := by decide +kernel
theorem dx_X12_lays_21 : decode (go_cc mx_X12_lays) 21 = .ok (.aload_n 0, 1) := by decide +kernel
theorem dx_X12_lays_22 : decode (go_cc mx_X12_lays) 22 = .ok (.getfield 48, 3) := by decide +kernel
theorem dx_X12_lays_25 : decode (go_cc mx_X12_lays) 25 = .ok (.iload_n 1, 1) := by decide +kernel
theorem dx_X12_lays_26 : decode (go_cc mx_X12_lays) 26 = .ok (.aload_n 0, 1) := by decide +kernel
theorem dx_X12_lays_27 : decode (go_cc mx_X12_lays) 27 = .ok (.getfield 7, 3) := by decide +kernel
theorem dx_X12_lays_30 : decode (go_cc mx_X12_lays) 30 = .ok (.bipush 114, 2) := by decide +kernel
theorem dx_X12_lays_32 : decode (go_cc mx_X12_lays) 32 = .ok (.iload_n 1, 1) := by decide +kernel
theorem dx_X12_lays_33 : decode (go_cc mx_X12_lays) 33 = .ok (.iadd, 1) := by decide +kernel
theorem dx_X12_lays_34 : decode (go_cc mx_X12_lays) 34 = .ok (.iaload, 1) := by decide +kernel
theorem dx_X12_lays_35 : decode (go_cc mx_X12_lays) 35 = .ok (.iastore, 1) := by decide +kernel
theorem dx_X12_lays_36 : decode (go_cc mx_X12_lays) 36 = .ok (.iinc 1 1, 3) := by decide +kernel
theorem dx_X12_lays_39 : decode (go_cc mx_X12_lays) 39 = .ok (.goto (-24), 3) := by decide +kernel
theorem dx_X12_lays_42 : decode (go_cc mx_X12_lays) 42 = .ok (.aload_n 0, 1) := by decide +kernel
theorem dx_X12_lays_43 : decode (go_cc mx_X12_lays) 43 = .ok (.aload_n 0, 1) := by decide +kernel
theorem dx_X12_lays_44 : decode (go_cc mx_X12_lays) 44 = .ok (.invokevirtual 253, 3) := by decide +kernel
theorem dx_X12_lays_47 : decode (go_cc mx_X12_lays) 47 = .ok (.invokevirtual 256, 3) := by decide +kernel
theorem dx_X12_lays_50 : decode (go_cc mx_X12_lays) 50 = .ok (.return_, 1) := by decide +kernel
theorem dx_X12_isSpan_0 : decode (go_cc mx_X12_isSpan) 0 = .ok (.iload_n 1, 1) := by decide +kernel
theorem dx_X12_isSpan_1 : decode (go_cc mx_X12_isSpan) 1 = .ok (.ifCond .lt 20, 3) := by decide +kernel
theorem dx_X12_isSpan_4 : decode (go_cc mx_X12_isSpan) 4 = .ok (.iload_n 1, 1) := by decide +kernel
theorem dx_X12_isSpan_5 : decode (go_cc mx_X12_isSpan) 5 = .ok (.iload_n 2, 1) := by decide +kernel
theorem dx_X12_isSpan_6 : decode (go_cc mx_X12_isSpan) 6 = .ok (.if_icmp .ge 15, 3) := by decide +kernel
theorem dx_X12_isSpan_9 : decode (go_cc mx_X12_isSpan) 9 = .ok (.iload_n 2, 1) := by decide +kernel
theorem dx_X12_isSpan_10 : decode (go_cc mx_X12_isSpan) 10 = .ok (.aload_n 0, 1) := by decide +kernel
theorem dx_X12_isSpan_11 : decode (go_cc mx_X12_isSpan) 11 = .ok (.invokevirtual 253, 3) := by decide +kernel
theorem dx_X12_isSpan_14 : decode (go_cc mx_X12_isSpan) 14 = .ok (.if_icmp .gt 7, 3) := by decide +kernel
theorem dx_X12_isSpan_17 : decode (go_cc mx_X12_isSpan) 17 = .ok (.iconst 1, 1) := by decide +kernel
theorem dx_X12_isSpan_18 : decode (go_cc mx_X12_isSpan) 18 = .ok (.goto 4, 3) := by decide +kernel
theorem dx_X12_isSpan_21 : decode (go_cc mx_X12_isSpan) 21 = .ok (.iconst 0, 1) := by decide +kernel
theorem dx_X12_isSpan_22 : decode (go_cc mx_X12_isSpan) 22 = .ok (.ireturn, 1) := by decide +kernel
theorem dx_X12_cell_0 : decode (go_cc mx_X12_cell) 0 = .ok (.aload_n 0, 1) := by decide +kernel
theorem dx_X12_cell_1 : decode (go_cc mx_X12_cell) 1 = .ok (.iconst 0, 1) := by decide +kernel
theorem dx_X12_cell_2 : decode (go_cc mx_X12_cell) 2 = .ok (.putfield 139, 3) := by decide +kernel
theorem dx_X12_cell_5 : decode (go_cc mx_X12_cell) 5 = .ok (.aload_n 0, 1) := by decide +kernel
theorem dx_X12_cell_6 : decode (go_cc mx_X12_cell) 6 = .ok (.iload_n 1, 1) := by decide +kernel
theorem dx_X12_cell_7 : decode (go_cc mx_X12_cell) 7 = .ok (.iload_n 2, 1) := by decide +kernel
theorem dx_X12_cell_8 : decode (go_cc mx_X12_cell) 8 = .ok (.invokevirtual 260, 3) := by decide +kernel
theorem dx_X12_cell_11 : decode (go_cc mx_X12_cell) 11 = .ok (.ifCond .ne 7, 3) := by decide +kernel
theorem dx_X12_cell_14 : decode (go_cc mx_X12_cell) 14 = .ok (.ldc2_w 263, 3) := by decide +kernel
theorem dx_X12_cell_17 : decode (go_cc mx_X12_cell) 17 = .ok (.lreturn, 1) := by decide +kernel
theorem dx_X12_cell_18 : decode (go_cc mx_X12_cell) 18 = .ok (.aload_n 0, 1) := by decide +kernel
theorem dx_X12_cell_19 : decode (go_cc mx_X12_cell) 19 = .ok (.invokevirtual 265, 3) := by decide +kernel
theorem dx_X12_cell_22 : decode (go_cc mx_X12_cell) 22 = .ok (.aload_n 0, 1) := by decide +kernel
theorem dx_X12_cell_23 : decode (go_cc mx_X12_cell) 23 = .ok (.getfield 51, 3) := by decide +kernel
theorem dx_X12_cell_26 : decode (go_cc mx_X12_cell) 26 = .ok (.bipush 16, 2) := by decide +kernel
theorem dx_X12_cell_28 : decode (go_cc mx_X12_cell) 28 = .ok (.iload_n 1, 1) := by decide +kernel
theorem dx_X12_cell_29 : decode (go_cc mx_X12_cell) 29 = .ok (.imul, 1) := by decide +kernel
theorem dx_X12_cell_30 : decode (go_cc mx_X12_cell) 30 = .ok (.iload_n 2, 1) := by decide +kernel
theorem dx_X12_cell_31 : decode (go_cc mx_X12_cell) 31 = .ok (.iadd, 1) := by decide +kernel
theorem dx_X12_cell_32 : decode (go_cc mx_X12_cell) 32 = .ok (.laload, 1) := by decide +kernel
theorem dx_X12_cell_33 : decode (go_cc mx_X12_cell) 33 = .ok (.lreturn, 1) := by decide +kernel
theorem dx_X12_doesDerive_0 : decode (go_cc mx_X12_doesDerive) 0 = .ok (.aload_n 0, 1) := by decide +kernel
theorem dx_X12_doesDerive_1 : decode (go_cc mx_X12_doesDerive) 1 = .ok (.getfield 51, 3) := by decide +kernel
theorem dx_X12_doesDerive_4 : decode (go_cc mx_X12_doesDerive) 4 = .ok (.bipush 16, 2) := by decide +kernel
theorem dx_X12_doesDerive_6 : decode (go_cc mx_X12_doesDerive) 6 = .ok (.iload_n 2, 1) := by decide +kernel
theorem dx_X12_doesDerive_7 : decode (go_cc mx_X12_doesDerive) 7 = .ok (.imul, 1) := by decide +kernel
theorem dx_X12_doesDerive_8 : decode (go_cc mx_X12_doesDerive) 8 = .ok (.iload_n 3, 1) := by decide +kernel
theorem dx_X12_doesDerive_9 : decode (go_cc mx_X12_doesDerive) 9 = .ok (.iadd, 1) := by decide +kernel
theorem dx_X12_doesDerive_10 : decode (go_cc mx_X12_doesDerive) 10 = .ok (.laload, 1) := by decide +kernel
theorem dx_X12_doesDerive_11 : decode (go_cc mx_X12_doesDerive) 11 = .ok (.iload_n 1, 1) := by decide +kernel
theorem dx_X12_doesDerive_12 : decode (go_cc mx_X12_doesDerive) 12 = .ok (.invokestatic 241, 3) := by decide +kernel
theorem dx_X12_doesDerive_15 : decode (go_cc mx_X12_doesDerive) 15 = .ok (.ireturn, 1) := by decide +kernel
theorem dx_X12_isAccepted_0 : decode (go_cc mx_X12_isAccepted) 0 = .ok (.aload_n 0, 1) := by decide +kernel
theorem dx_X12_isAccepted_1 : decode (go_cc mx_X12_isAccepted) 1 = .ok (.invokevirtual 265, 3) := by decide +kernel
theorem dx_X12_isAccepted_4 : decode (go_cc mx_X12_isAccepted) 4 = .ok (.aload_n 0, 1) := by decide +kernel
theorem dx_X12_isAccepted_5 : decode (go_cc mx_X12_isAccepted) 5 = .ok (.invokevirtual 253, 3) := by decide +kernel
theorem dx_X12_isAccepted_8 : decode (go_cc mx_X12_isAccepted) 8 = .ok (.ifCond .le 26, 3) := by decide +kernel
theorem dx_X12_isAccepted_11 : decode (go_cc mx_X12_isAccepted) 11 = .ok (.aload_n 0, 1) := by decide +kernel
theorem dx_X12_isAccepted_12 : decode (go_cc mx_X12_isAccepted) 12 = .ok (.aload_n 0, 1) := by decide +kernel
theorem dx_X12_isAccepted_13 : decode (go_cc mx_X12_isAccepted) 13 = .ok (.getfield 7, 3) := by decide +kernel
theorem dx_X12_isAccepted_16 : decode (go_cc mx_X12_isAccepted) 16 = .ok (.bipush 112, 2) := by decide +kernel
theorem dx_X12_isAccepted_18 : decode (go_cc mx_X12_isAccepted) 18 = .ok (.iaload, 1) := by decide +kernel
theorem dx_X12_isAccepted_19 : decode (go_cc mx_X12_isAccepted) 19 = .ok (.iconst 0, 1) := by decide +kernel
theorem dx_X12_isAccepted_20 : decode (go_cc mx_X12_isAccepted) 20 = .ok (.aload_n 0, 1) := by decide +kernel
theorem dx_X12_isAccepted_21 : decode (go_cc mx_X12_isAccepted) 21 = .ok (.invokevirtual 253, 3) := by decide +kernel
theorem dx_X12_isAccepted_24 : decode (go_cc mx_X12_isAccepted) 24 = .ok (.invokevirtual 268, 3) := by decide +kernel
theorem dx_X12_isAccepted_27 : decode (go_cc mx_X12_isAccepted) 27 = .ok (.ifCond .eq 7, 3) := by decide +kernel
theorem dx_X12_isAccepted_30 : decode (go_cc mx_X12_isAccepted) 30 = .ok (.iconst 1, 1) := by decide +kernel
theorem dx_X12_isAccepted_31 : decode (go_cc mx_X12_isAccepted) 31 = .ok (.goto 4, 3) := by decide +kernel
theorem dx_X12_isAccepted_34 : decode (go_cc mx_X12_isAccepted) 34 = .ok (.iconst 0, 1) := by decide +kernel
theorem dx_X12_isAccepted_35 : decode (go_cc mx_X12_isAccepted) 35 = .ok (.ireturn, 1) := by decide +kernel
theorem dx_X12_accepted_0 : decode (go_cc mx_X12_accepted) 0 = .ok (.aload_n 0, 1) := by decide +kernel
theorem dx_X12_accepted_1 : decode (go_cc mx_X12_accepted) 1 = .ok (.iconst 0, 1) := by decide +kernel
theorem dx_X12_accepted_2 : decode (go_cc mx_X12_accepted) 2 = .ok (.putfield 139, 3) := by decide +kernel
theorem dx_X12_accepted_5 : decode (go_cc mx_X12_accepted) 5 = .ok (.aload_n 0, 1) := by decide +kernel
theorem dx_X12_accepted_6 : decode (go_cc mx_X12_accepted) 6 = .ok (.invokevirtual 272, 3) := by decide +kernel
theorem dx_X12_accepted_9 : decode (go_cc mx_X12_accepted) 9 = .ok (.ifCond .eq 7, 3) := by decide +kernel
theorem dx_X12_accepted_12 : decode (go_cc mx_X12_accepted) 12 = .ok (.iconst 1, 1) := by decide +kernel
theorem dx_X12_accepted_13 : decode (go_cc mx_X12_accepted) 13 = .ok (.goto 4, 3) := by decide +kernel
theorem dx_X12_accepted_16 : decode (go_cc mx_X12_accepted) 16 = .ok (.iconst 0, 1) := by decide +kernel
theorem dx_X12_accepted_17 : decode (go_cc mx_X12_accepted) 17 = .ok (.ireturn, 1) := by decide +kernel
theorem dx_X12_goesRound_0 : decode (go_cc mx_X12_goesRound) 0 = .ok (.iconst 0, 1) := by decide +kernel
theorem dx_X12_goesRound_1 : decode (go_cc mx_X12_goesRound) 1 = .ok (.istore_n 2, 1) := by decide +kernel
theorem dx_X12_goesRound_2 : decode (go_cc mx_X12_goesRound) 2 = .ok (.iconst 0, 1) := by decide +kernel
theorem dx_X12_goesRound_3 : decode (go_cc mx_X12_goesRound) 3 = .ok (.istore_n 3, 1) := by decide +kernel
theorem dx_X12_goesRound_4 : decode (go_cc mx_X12_goesRound) 4 = .ok (.iload_n 3, 1) := by decide +kernel
theorem dx_X12_goesRound_5 : decode (go_cc mx_X12_goesRound) 5 = .ok (.aload_n 0, 1) := by decide +kernel
theorem dx_X12_goesRound_6 : decode (go_cc mx_X12_goesRound) 6 = .ok (.invokevirtual 253, 3) := by decide +kernel
theorem dx_X12_goesRound_9 : decode (go_cc mx_X12_goesRound) 9 = .ok (.if_icmp .ge 187, 3) := by decide +kernel
theorem dx_X12_goesRound_12 : decode (go_cc mx_X12_goesRound) 12 = .ok (.iload_n 3, 1) := by decide +kernel
theorem dx_X12_goesRound_13 : decode (go_cc mx_X12_goesRound) 13 = .ok (.iconst 1, 1) := by decide +kernel
theorem dx_X12_goesRound_14 : decode (go_cc mx_X12_goesRound) 14 = .ok (.iadd, 1) := by decide +kernel
theorem dx_X12_goesRound_15 : decode (go_cc mx_X12_goesRound) 15 = .ok (.istore 4, 2) := by decide +kernel
theorem dx_X12_goesRound_17 : decode (go_cc mx_X12_goesRound) 17 = .ok (.iload 4, 2) := by decide +kernel
theorem dx_X12_goesRound_19 : decode (go_cc mx_X12_goesRound) 19 = .ok (.aload_n 0, 1) := by decide +kernel
theorem dx_X12_goesRound_20 : decode (go_cc mx_X12_goesRound) 20 = .ok (.invokevirtual 253, 3) := by decide +kernel
theorem dx_X12_goesRound_23 : decode (go_cc mx_X12_goesRound) 23 = .ok (.if_icmp .gt 167, 3) := by decide +kernel
theorem dx_X12_goesRound_26 : decode (go_cc mx_X12_goesRound) 26 = .ok (.iload_n 1, 1) := by decide +kernel
theorem dx_X12_goesRound_27 : decode (go_cc mx_X12_goesRound) 27 = .ok (.ifCond .ne 29, 3) := by decide +kernel
theorem dx_X12_goesRound_30 : decode (go_cc mx_X12_goesRound) 30 = .ok (.iload 4, 2) := by decide +kernel
theorem dx_X12_goesRound_32 : decode (go_cc mx_X12_goesRound) 32 = .ok (.iload_n 3, 1) := by decide +kernel
theorem dx_X12_goesRound_33 : decode (go_cc mx_X12_goesRound) 33 = .ok (.iconst 1, 1) := by decide +kernel
theorem dx_X12_goesRound_34 : decode (go_cc mx_X12_goesRound) 34 = .ok (.iadd, 1) := by decide +kernel
theorem dx_X12_goesRound_35 : decode (go_cc mx_X12_goesRound) 35 = .ok (.if_icmp .ne 17, 3) := by decide +kernel
theorem dx_X12_goesRound_38 : decode (go_cc mx_X12_goesRound) 38 = .ok (.lconst 1, 1) := by decide +kernel
theorem dx_X12_goesRound_39 : decode (go_cc mx_X12_goesRound) 39 = .ok (.aload_n 0, 1) := by decide +kernel
theorem dx_X12_goesRound_40 : decode (go_cc mx_X12_goesRound) 40 = .ok (.getfield 7, 3) := by decide +kernel
theorem dx_X12_goesRound_43 : decode (go_cc mx_X12_goesRound) 43 = .ok (.bipush 114, 2) := by decide +kernel
theorem dx_X12_goesRound_45 : decode (go_cc mx_X12_goesRound) 45 = .ok (.iload_n 3, 1) := by decide +kernel
theorem dx_X12_goesRound_46 : decode (go_cc mx_X12_goesRound) 46 = .ok (.iadd, 1) := by decide +kernel
theorem dx_X12_goesRound_47 : decode (go_cc mx_X12_goesRound) 47 = .ok (.iaload, 1) := by decide +kernel
theorem dx_X12_goesRound_48 : decode (go_cc mx_X12_goesRound) 48 = .ok (.lshl, 1) := by decide +kernel
theorem dx_X12_goesRound_49 : decode (go_cc mx_X12_goesRound) 49 = .ok (.goto 19, 3) := by decide +kernel
theorem dx_X12_goesRound_52 : decode (go_cc mx_X12_goesRound) 52 = .ok (.lconst 0, 1) := by decide +kernel
theorem dx_X12_goesRound_53 : decode (go_cc mx_X12_goesRound) 53 = .ok (.goto 15, 3) := by decide +kernel
theorem dx_X12_goesRound_56 : decode (go_cc mx_X12_goesRound) 56 = .ok (.aload_n 0, 1) := by decide +kernel
theorem dx_X12_goesRound_57 : decode (go_cc mx_X12_goesRound) 57 = .ok (.getfield 55, 3) := by decide +kernel
theorem dx_X12_goesRound_60 : decode (go_cc mx_X12_goesRound) 60 = .ok (.bipush 16, 2) := by decide +kernel
theorem dx_X12_goesRound_62 : decode (go_cc mx_X12_goesRound) 62 = .ok (.iload_n 3, 1) := by decide +kernel
theorem dx_X12_goesRound_63 : decode (go_cc mx_X12_goesRound) 63 = .ok (.imul, 1) := by decide +kernel
theorem dx_X12_goesRound_64 : decode (go_cc mx_X12_goesRound) 64 = .ok (.iload 4, 2) := by decide +kernel
theorem dx_X12_goesRound_66 : decode (go_cc mx_X12_goesRound) 66 = .ok (.iadd, 1) := by decide +kernel
theorem dx_X12_goesRound_67 : decode (go_cc mx_X12_goesRound) 67 = .ok (.laload, 1) := by decide +kernel
theorem dx_X12_goesRound_68 : decode (go_cc mx_X12_goesRound) 68 = .ok (.lstore 5, 2) := by decide +kernel
theorem dx_X12_goesRound_70 : decode (go_cc mx_X12_goesRound) 70 = .ok (.iload_n 3, 1) := by decide +kernel
theorem dx_X12_goesRound_71 : decode (go_cc mx_X12_goesRound) 71 = .ok (.iconst 1, 1) := by decide +kernel
theorem dx_X12_goesRound_72 : decode (go_cc mx_X12_goesRound) 72 = .ok (.iadd, 1) := by decide +kernel
theorem dx_X12_goesRound_73 : decode (go_cc mx_X12_goesRound) 73 = .ok (.istore 7, 2) := by decide +kernel
theorem dx_X12_goesRound_75 : decode (go_cc mx_X12_goesRound) 75 = .ok (.iload 7, 2) := by decide +kernel
theorem dx_X12_goesRound_77 : decode (go_cc mx_X12_goesRound) 77 = .ok (.iload 4, 2) := by decide +kernel
theorem dx_X12_goesRound_79 : decode (go_cc mx_X12_goesRound) 79 = .ok (.if_icmp .ge 47, 3) := by decide +kernel
theorem dx_X12_goesRound_82 : decode (go_cc mx_X12_goesRound) 82 = .ok (.iload_n 1, 1) := by decide +kernel
theorem dx_X12_goesRound_83 : decode (go_cc mx_X12_goesRound) 83 = .ok (.ifCond .le 43, 3) := by decide +kernel
theorem dx_X12_goesRound_86 : decode (go_cc mx_X12_goesRound) 86 = .ok (.lload 5, 2) := by decide +kernel
theorem dx_X12_goesRound_88 : decode (go_cc mx_X12_goesRound) 88 = .ok (.aload_n 0, 1) := by decide +kernel
theorem dx_X12_goesRound_89 : decode (go_cc mx_X12_goesRound) 89 = .ok (.aload_n 0, 1) := by decide +kernel
theorem dx_X12_goesRound_90 : decode (go_cc mx_X12_goesRound) 90 = .ok (.getfield 55, 3) := by decide +kernel
theorem dx_X12_goesRound_93 : decode (go_cc mx_X12_goesRound) 93 = .ok (.bipush 16, 2) := by decide +kernel
theorem dx_X12_goesRound_95 : decode (go_cc mx_X12_goesRound) 95 = .ok (.iload_n 3, 1) := by decide +kernel
theorem dx_X12_goesRound_96 : decode (go_cc mx_X12_goesRound) 96 = .ok (.imul, 1) := by decide +kernel
theorem dx_X12_goesRound_97 : decode (go_cc mx_X12_goesRound) 97 = .ok (.iload 7, 2) := by decide +kernel
theorem dx_X12_goesRound_99 : decode (go_cc mx_X12_goesRound) 99 = .ok (.iadd, 1) := by decide +kernel
theorem dx_X12_goesRound_100 : decode (go_cc mx_X12_goesRound) 100 = .ok (.laload, 1) := by decide +kernel
theorem dx_X12_goesRound_101 : decode (go_cc mx_X12_goesRound) 101 = .ok (.aload_n 0, 1) := by decide +kernel
theorem dx_X12_goesRound_102 : decode (go_cc mx_X12_goesRound) 102 = .ok (.getfield 55, 3) := by decide +kernel
theorem dx_X12_goesRound_105 : decode (go_cc mx_X12_goesRound) 105 = .ok (.bipush 16, 2) := by decide +kernel
theorem dx_X12_goesRound_107 : decode (go_cc mx_X12_goesRound) 107 = .ok (.iload 7, 2) := by decide +kernel
theorem dx_X12_goesRound_109 : decode (go_cc mx_X12_goesRound) 109 = .ok (.imul, 1) := by decide +kernel
theorem dx_X12_goesRound_110 : decode (go_cc mx_X12_goesRound) 110 = .ok (.iload 4, 2) := by decide +kernel
theorem dx_X12_goesRound_112 : decode (go_cc mx_X12_goesRound) 112 = .ok (.iadd, 1) := by decide +kernel
theorem dx_X12_goesRound_113 : decode (go_cc mx_X12_goesRound) 113 = .ok (.laload, 1) := by decide +kernel
theorem dx_X12_goesRound_114 : decode (go_cc mx_X12_goesRound) 114 = .ok (.invokevirtual 245, 3) := by decide +kernel
theorem dx_X12_goesRound_117 : decode (go_cc mx_X12_goesRound) 117 = .ok (.lor, 1) := by decide +kernel
theorem dx_X12_goesRound_118 : decode (go_cc mx_X12_goesRound) 118 = .ok (.lstore 5, 2) := by decide +kernel
theorem dx_X12_goesRound_120 : decode (go_cc mx_X12_goesRound) 120 = .ok (.iinc 7 1, 3) := by decide +kernel
theorem dx_X12_goesRound_123 : decode (go_cc mx_X12_goesRound) 123 = .ok (.goto (-48), 3) := by decide +kernel
theorem dx_X12_goesRound_126 : decode (go_cc mx_X12_goesRound) 126 = .ok (.aload_n 0, 1) := by decide +kernel
theorem dx_X12_goesRound_127 : decode (go_cc mx_X12_goesRound) 127 = .ok (.getfield 58, 3) := by decide +kernel
theorem dx_X12_goesRound_130 : decode (go_cc mx_X12_goesRound) 130 = .ok (.bipush 16, 2) := by decide +kernel
theorem dx_X12_goesRound_132 : decode (go_cc mx_X12_goesRound) 132 = .ok (.iload_n 3, 1) := by decide +kernel
theorem dx_X12_goesRound_133 : decode (go_cc mx_X12_goesRound) 133 = .ok (.imul, 1) := by decide +kernel
theorem dx_X12_goesRound_134 : decode (go_cc mx_X12_goesRound) 134 = .ok (.iload 4, 2) := by decide +kernel
theorem dx_X12_goesRound_136 : decode (go_cc mx_X12_goesRound) 136 = .ok (.iadd, 1) := by decide +kernel
theorem dx_X12_goesRound_137 : decode (go_cc mx_X12_goesRound) 137 = .ok (.aload_n 0, 1) := by decide +kernel
theorem dx_X12_goesRound_138 : decode (go_cc mx_X12_goesRound) 138 = .ok (.lload 5, 2) := by decide +kernel
theorem dx_X12_goesRound_140 : decode (go_cc mx_X12_goesRound) 140 = .ok (.invokevirtual 249, 3) := by decide +kernel
theorem dx_X12_goesRound_143 : decode (go_cc mx_X12_goesRound) 143 = .ok (.lastore, 1) := by decide +kernel
theorem dx_X12_goesRound_144 : decode (go_cc mx_X12_goesRound) 144 = .ok (.iload_n 2, 1) := by decide +kernel
theorem dx_X12_goesRound_145 : decode (go_cc mx_X12_goesRound) 145 = .ok (.iload_n 1, 1) := by decide +kernel
theorem dx_X12_goesRound_146 : decode (go_cc mx_X12_goesRound) 146 = .ok (.ifCond .eq 31, 3) := by decide +kernel
theorem dx_X12_goesRound_149 : decode (go_cc mx_X12_goesRound) 149 = .ok (.aload_n 0, 1) := by decide +kernel
theorem dx_X12_goesRound_150 : decode (go_cc mx_X12_goesRound) 150 = .ok (.getfield 58, 3) := by decide +kernel
theorem dx_X12_goesRound_153 : decode (go_cc mx_X12_goesRound) 153 = .ok (.bipush 16, 2) := by decide +kernel
theorem dx_X12_goesRound_155 : decode (go_cc mx_X12_goesRound) 155 = .ok (.iload_n 3, 1) := by decide +kernel
theorem dx_X12_goesRound_156 : decode (go_cc mx_X12_goesRound) 156 = .ok (.imul, 1) := by decide +kernel
theorem dx_X12_goesRound_157 : decode (go_cc mx_X12_goesRound) 157 = .ok (.iload 4, 2) := by decide +kernel
theorem dx_X12_goesRound_159 : decode (go_cc mx_X12_goesRound) 159 = .ok (.iadd, 1) := by decide +kernel
theorem dx_X12_goesRound_160 : decode (go_cc mx_X12_goesRound) 160 = .ok (.laload, 1) := by decide +kernel
theorem dx_X12_goesRound_161 : decode (go_cc mx_X12_goesRound) 161 = .ok (.aload_n 0, 1) := by decide +kernel
theorem dx_X12_goesRound_162 : decode (go_cc mx_X12_goesRound) 162 = .ok (.getfield 55, 3) := by decide +kernel
theorem dx_X12_goesRound_165 : decode (go_cc mx_X12_goesRound) 165 = .ok (.bipush 16, 2) := by decide +kernel
theorem dx_X12_goesRound_167 : decode (go_cc mx_X12_goesRound) 167 = .ok (.iload_n 3, 1) := by decide +kernel
theorem dx_X12_goesRound_168 : decode (go_cc mx_X12_goesRound) 168 = .ok (.imul, 1) := by decide +kernel
theorem dx_X12_goesRound_169 : decode (go_cc mx_X12_goesRound) 169 = .ok (.iload 4, 2) := by decide +kernel
theorem dx_X12_goesRound_171 : decode (go_cc mx_X12_goesRound) 171 = .ok (.iadd, 1) := by decide +kernel
theorem dx_X12_goesRound_172 : decode (go_cc mx_X12_goesRound) 172 = .ok (.laload, 1) := by decide +kernel
theorem dx_X12_goesRound_173 : decode (go_cc mx_X12_goesRound) 173 = .ok (.lcmp, 1) := by decide +kernel
theorem dx_X12_goesRound_174 : decode (go_cc mx_X12_goesRound) 174 = .ok (.ifCond .eq 7, 3) := by decide +kernel
theorem dx_X12_goesRound_177 : decode (go_cc mx_X12_goesRound) 177 = .ok (.iconst 1, 1) := by decide +kernel
theorem dx_X12_goesRound_178 : decode (go_cc mx_X12_goesRound) 178 = .ok (.goto 4, 3) := by decide +kernel
theorem dx_X12_goesRound_181 : decode (go_cc mx_X12_goesRound) 181 = .ok (.iconst 0, 1) := by decide +kernel
theorem dx_X12_goesRound_182 : decode (go_cc mx_X12_goesRound) 182 = .ok (.ior, 1) := by decide +kernel
theorem dx_X12_goesRound_183 : decode (go_cc mx_X12_goesRound) 183 = .ok (.istore_n 2, 1) := by decide +kernel
theorem dx_X12_goesRound_184 : decode (go_cc mx_X12_goesRound) 184 = .ok (.iinc 4 1, 3) := by decide +kernel
theorem dx_X12_goesRound_187 : decode (go_cc mx_X12_goesRound) 187 = .ok (.goto (-170), 3) := by decide +kernel
theorem dx_X12_goesRound_190 : decode (go_cc mx_X12_goesRound) 190 = .ok (.iinc 3 1, 3) := by decide +kernel
theorem dx_X12_goesRound_193 : decode (go_cc mx_X12_goesRound) 193 = .ok (.goto (-189), 3) := by decide +kernel
theorem dx_X12_goesRound_196 : decode (go_cc mx_X12_goesRound) 196 = .ok (.iconst 0, 1) := by decide +kernel
theorem dx_X12_goesRound_197 : decode (go_cc mx_X12_goesRound) 197 = .ok (.istore_n 3, 1) := by decide +kernel
theorem dx_X12_goesRound_198 : decode (go_cc mx_X12_goesRound) 198 = .ok (.iload_n 3, 1) := by decide +kernel
theorem dx_X12_goesRound_199 : decode (go_cc mx_X12_goesRound) 199 = .ok (.sipush 256, 3) := by decide +kernel
theorem dx_X12_goesRound_202 : decode (go_cc mx_X12_goesRound) 202 = .ok (.if_icmp .ge 21, 3) := by decide +kernel
theorem dx_X12_goesRound_205 : decode (go_cc mx_X12_goesRound) 205 = .ok (.aload_n 0, 1) := by decide +kernel
theorem dx_X12_goesRound_206 : decode (go_cc mx_X12_goesRound) 206 = .ok (.getfield 55, 3) := by decide +kernel
theorem dx_X12_goesRound_209 : decode (go_cc mx_X12_goesRound) 209 = .ok (.iload_n 3, 1) := by decide +kernel
theorem dx_X12_goesRound_210 : decode (go_cc mx_X12_goesRound) 210 = .ok (.aload_n 0, 1) := by decide +kernel
theorem dx_X12_goesRound_211 : decode (go_cc mx_X12_goesRound) 211 = .ok (.getfield 58, 3) := by decide +kernel
theorem dx_X12_goesRound_214 : decode (go_cc mx_X12_goesRound) 214 = .ok (.iload_n 3, 1) := by decide +kernel
theorem dx_X12_goesRound_215 : decode (go_cc mx_X12_goesRound) 215 = .ok (.laload, 1) := by decide +kernel
theorem dx_X12_goesRound_216 : decode (go_cc mx_X12_goesRound) 216 = .ok (.lastore, 1) := by decide +kernel
theorem dx_X12_goesRound_217 : decode (go_cc mx_X12_goesRound) 217 = .ok (.iinc 3 1, 3) := by decide +kernel
theorem dx_X12_goesRound_220 : decode (go_cc mx_X12_goesRound) 220 = .ok (.goto (-22), 3) := by decide +kernel
theorem dx_X12_goesRound_223 : decode (go_cc mx_X12_goesRound) 223 = .ok (.iload_n 2, 1) := by decide +kernel
theorem dx_X12_goesRound_224 : decode (go_cc mx_X12_goesRound) 224 = .ok (.ireturn, 1) := by decide +kernel
theorem dx_X12_round_0 : decode (go_cc mx_X12_round) 0 = .ok (.aload_n 0, 1) := by decide +kernel
theorem dx_X12_round_1 : decode (go_cc mx_X12_round) 1 = .ok (.iconst 0, 1) := by decide +kernel
theorem dx_X12_round_2 : decode (go_cc mx_X12_round) 2 = .ok (.putfield 139, 3) := by decide +kernel
theorem dx_X12_round_5 : decode (go_cc mx_X12_round) 5 = .ok (.aload_n 0, 1) := by decide +kernel
theorem dx_X12_round_6 : decode (go_cc mx_X12_round) 6 = .ok (.iload_n 1, 1) := by decide +kernel
theorem dx_X12_round_7 : decode (go_cc mx_X12_round) 7 = .ok (.invokevirtual 235, 3) := by decide +kernel
theorem dx_X12_round_10 : decode (go_cc mx_X12_round) 10 = .ok (.ifCond .eq 12, 3) := by decide +kernel
theorem dx_X12_round_13 : decode (go_cc mx_X12_round) 13 = .ok (.aload_n 0, 1) := by decide +kernel
theorem dx_X12_round_14 : decode (go_cc mx_X12_round) 14 = .ok (.iload_n 2, 1) := by decide +kernel
theorem dx_X12_round_15 : decode (go_cc mx_X12_round) 15 = .ok (.iload_n 3, 1) := by decide +kernel
theorem dx_X12_round_16 : decode (go_cc mx_X12_round) 16 = .ok (.invokevirtual 260, 3) := by decide +kernel
theorem dx_X12_round_19 : decode (go_cc mx_X12_round) 19 = .ok (.ifCond .ne 6, 3) := by decide +kernel
theorem dx_X12_round_22 : decode (go_cc mx_X12_round) 22 = .ok (.bipush (-2), 2) := by decide +kernel
theorem dx_X12_round_24 : decode (go_cc mx_X12_round) 24 = .ok (.ireturn, 1) := by decide +kernel
theorem dx_X12_round_25 : decode (go_cc mx_X12_round) 25 = .ok (.aload_n 0, 1) := by decide +kernel
theorem dx_X12_round_26 : decode (go_cc mx_X12_round) 26 = .ok (.invokevirtual 265, 3) := by decide +kernel
theorem dx_X12_round_29 : decode (go_cc mx_X12_round) 29 = .ok (.aload_n 0, 1) := by decide +kernel
theorem dx_X12_round_30 : decode (go_cc mx_X12_round) 30 = .ok (.iload_n 1, 1) := by decide +kernel
theorem dx_X12_round_31 : decode (go_cc mx_X12_round) 31 = .ok (.iload_n 2, 1) := by decide +kernel
theorem dx_X12_round_32 : decode (go_cc mx_X12_round) 32 = .ok (.iload_n 3, 1) := by decide +kernel
theorem dx_X12_round_33 : decode (go_cc mx_X12_round) 33 = .ok (.invokevirtual 268, 3) := by decide +kernel
theorem dx_X12_round_36 : decode (go_cc mx_X12_round) 36 = .ok (.ifCond .ne 5, 3) := by decide +kernel
theorem dx_X12_round_39 : decode (go_cc mx_X12_round) 39 = .ok (.iconst (-1), 1) := by decide +kernel
theorem dx_X12_round_40 : decode (go_cc mx_X12_round) 40 = .ok (.ireturn, 1) := by decide +kernel
theorem dx_X12_round_41 : decode (go_cc mx_X12_round) 41 = .ok (.iconst 0, 1) := by decide +kernel
theorem dx_X12_round_42 : decode (go_cc mx_X12_round) 42 = .ok (.istore 4, 2) := by decide +kernel
theorem dx_X12_round_44 : decode (go_cc mx_X12_round) 44 = .ok (.aload_n 0, 1) := by decide +kernel
theorem dx_X12_round_45 : decode (go_cc mx_X12_round) 45 = .ok (.iconst 0, 1) := by decide +kernel
theorem dx_X12_round_46 : decode (go_cc mx_X12_round) 46 = .ok (.invokevirtual 276, 3) := by decide +kernel
theorem dx_X12_round_49 : decode (go_cc mx_X12_round) 49 = .ok (.pop, 1) := by decide +kernel
theorem dx_X12_round_50 : decode (go_cc mx_X12_round) 50 = .ok (.aload_n 0, 1) := by decide +kernel
theorem dx_X12_round_51 : decode (go_cc mx_X12_round) 51 = .ok (.getfield 55, 3) := by decide +kernel
theorem dx_X12_round_54 : decode (go_cc mx_X12_round) 54 = .ok (.bipush 16, 2) := by decide +kernel
theorem dx_X12_round_56 : decode (go_cc mx_X12_round) 56 = .ok (.iload_n 2, 1) := by decide +kernel
theorem dx_X12_round_57 : decode (go_cc mx_X12_round) 57 = .ok (.imul, 1) := by decide +kernel
theorem dx_X12_round_58 : decode (go_cc mx_X12_round) 58 = .ok (.iload_n 3, 1) := by decide +kernel
theorem dx_X12_round_59 : decode (go_cc mx_X12_round) 59 = .ok (.iadd, 1) := by decide +kernel
theorem dx_X12_round_60 : decode (go_cc mx_X12_round) 60 = .ok (.laload, 1) := by decide +kernel
theorem dx_X12_round_61 : decode (go_cc mx_X12_round) 61 = .ok (.iload_n 1, 1) := by decide +kernel
theorem dx_X12_round_62 : decode (go_cc mx_X12_round) 62 = .ok (.invokestatic 241, 3) := by decide +kernel
theorem dx_X12_round_65 : decode (go_cc mx_X12_round) 65 = .ok (.ifCond .ne 16, 3) := by decide +kernel
theorem dx_X12_round_68 : decode (go_cc mx_X12_round) 68 = .ok (.iinc 4 1, 3) := by decide +kernel
theorem dx_X12_round_71 : decode (go_cc mx_X12_round) 71 = .ok (.aload_n 0, 1) := by decide +kernel
theorem dx_X12_round_72 : decode (go_cc mx_X12_round) 72 = .ok (.iload 4, 2) := by decide +kernel
theorem dx_X12_round_74 : decode (go_cc mx_X12_round) 74 = .ok (.invokevirtual 276, 3) := by decide +kernel
theorem dx_X12_round_77 : decode (go_cc mx_X12_round) 77 = .ok (.pop, 1) := by decide +kernel
theorem dx_X12_round_78 : decode (go_cc mx_X12_round) 78 = .ok (.goto (-28), 3) := by decide +kernel
theorem dx_X12_round_81 : decode (go_cc mx_X12_round) 81 = .ok (.iload 4, 2) := by decide +kernel
theorem dx_X12_round_83 : decode (go_cc mx_X12_round) 83 = .ok (.ireturn, 1) := by decide +kernel
theorem dx_X12_last_0 : decode (go_cc mx_X12_last) 0 = .ok (.aload_n 0, 1) := by decide +kernel
theorem dx_X12_last_1 : decode (go_cc mx_X12_last) 1 = .ok (.iconst 0, 1) := by decide +kernel
theorem dx_X12_last_2 : decode (go_cc mx_X12_last) 2 = .ok (.putfield 139, 3) := by decide +kernel
theorem dx_X12_last_5 : decode (go_cc mx_X12_last) 5 = .ok (.aload_n 0, 1) := by decide +kernel
theorem dx_X12_last_6 : decode (go_cc mx_X12_last) 6 = .ok (.invokevirtual 253, 3) := by decide +kernel
theorem dx_X12_last_9 : decode (go_cc mx_X12_last) 9 = .ok (.ifCond .ne 5, 3) := by decide +kernel
theorem dx_X12_last_12 : decode (go_cc mx_X12_last) 12 = .ok (.iconst (-1), 1) := by decide +kernel
theorem dx_X12_last_13 : decode (go_cc mx_X12_last) 13 = .ok (.ireturn, 1) := by decide +kernel
theorem dx_X12_last_14 : decode (go_cc mx_X12_last) 14 = .ok (.aload_n 0, 1) := by decide +kernel
theorem dx_X12_last_15 : decode (go_cc mx_X12_last) 15 = .ok (.invokevirtual 221, 3) := by decide +kernel
theorem dx_X12_last_18 : decode (go_cc mx_X12_last) 18 = .ok (.iconst 0, 1) := by decide +kernel
theorem dx_X12_last_19 : decode (go_cc mx_X12_last) 19 = .ok (.istore_n 1, 1) := by decide +kernel
theorem dx_X12_last_20 : decode (go_cc mx_X12_last) 20 = .ok (.aload_n 0, 1) := by decide +kernel
theorem dx_X12_last_21 : decode (go_cc mx_X12_last) 21 = .ok (.iconst 0, 1) := by decide +kernel
theorem dx_X12_last_22 : decode (go_cc mx_X12_last) 22 = .ok (.invokevirtual 276, 3) := by decide +kernel
theorem dx_X12_last_25 : decode (go_cc mx_X12_last) 25 = .ok (.pop, 1) := by decide +kernel
theorem dx_X12_last_26 : decode (go_cc mx_X12_last) 26 = .ok (.aload_n 0, 1) := by decide +kernel
theorem dx_X12_last_27 : decode (go_cc mx_X12_last) 27 = .ok (.iload_n 1, 1) := by decide +kernel
theorem dx_X12_last_28 : decode (go_cc mx_X12_last) 28 = .ok (.iconst 1, 1) := by decide +kernel
theorem dx_X12_last_29 : decode (go_cc mx_X12_last) 29 = .ok (.iadd, 1) := by decide +kernel
theorem dx_X12_last_30 : decode (go_cc mx_X12_last) 30 = .ok (.invokevirtual 276, 3) := by decide +kernel
theorem dx_X12_last_33 : decode (go_cc mx_X12_last) 33 = .ok (.ifCond .eq 9, 3) := by decide +kernel
theorem dx_X12_last_36 : decode (go_cc mx_X12_last) 36 = .ok (.iinc 1 1, 3) := by decide +kernel
theorem dx_X12_last_39 : decode (go_cc mx_X12_last) 39 = .ok (.goto (-13), 3) := by decide +kernel
theorem dx_X12_last_42 : decode (go_cc mx_X12_last) 42 = .ok (.iload_n 1, 1) := by decide +kernel
theorem dx_X12_last_43 : decode (go_cc mx_X12_last) 43 = .ok (.ireturn, 1) := by decide +kernel
theorem dx_X12_isPlace_0 : decode (go_cc mx_X12_isPlace) 0 = .ok (.iload_n 1, 1) := by decide +kernel
theorem dx_X12_isPlace_1 : decode (go_cc mx_X12_isPlace) 1 = .ok (.i2l, 1) := by decide +kernel
theorem dx_X12_isPlace_2 : decode (go_cc mx_X12_isPlace) 2 = .ok (.lconst 0, 1) := by decide +kernel
theorem dx_X12_isPlace_3 : decode (go_cc mx_X12_isPlace) 3 = .ok (.aload_n 0, 1) := by decide +kernel
theorem dx_X12_isPlace_4 : decode (go_cc mx_X12_isPlace) 4 = .ok (.invokevirtual 253, 3) := by decide +kernel
theorem dx_X12_isPlace_7 : decode (go_cc mx_X12_isPlace) 7 = .ok (.i2l, 1) := by decide +kernel
theorem dx_X12_isPlace_8 : decode (go_cc mx_X12_isPlace) 8 = .ok (.invokestatic 144, 3) := by decide +kernel
theorem dx_X12_isPlace_11 : decode (go_cc mx_X12_isPlace) 11 = .ok (.ireturn, 1) := by decide +kernel
theorem dx_X12_cutMany_0 : decode (go_cc mx_X12_cutMany) 0 = .ok (.iconst 0, 1) := by decide +kernel
theorem dx_X12_cutMany_1 : decode (go_cc mx_X12_cutMany) 1 = .ok (.istore 5, 2) := by decide +kernel
theorem dx_X12_cutMany_3 : decode (go_cc mx_X12_cutMany) 3 = .ok (.iload_n 3, 1) := by decide +kernel
theorem dx_X12_cutMany_4 : decode (go_cc mx_X12_cutMany) 4 = .ok (.iconst 1, 1) := by decide +kernel
theorem dx_X12_cutMany_5 : decode (go_cc mx_X12_cutMany) 5 = .ok (.iadd, 1) := by decide +kernel
theorem dx_X12_cutMany_6 : decode (go_cc mx_X12_cutMany) 6 = .ok (.istore 6, 2) := by decide +kernel
theorem dx_X12_cutMany_8 : decode (go_cc mx_X12_cutMany) 8 = .ok (.iload 6, 2) := by decide +kernel
theorem dx_X12_cutMany_10 : decode (go_cc mx_X12_cutMany) 10 = .ok (.iload 4, 2) := by decide +kernel
theorem dx_X12_cutMany_12 : decode (go_cc mx_X12_cutMany) 12 = .ok (.if_icmp .ge 42, 3) := by decide +kernel
theorem dx_X12_cutMany_15 : decode (go_cc mx_X12_cutMany) 15 = .ok (.iload 5, 2) := by decide +kernel
theorem dx_X12_cutMany_17 : decode (go_cc mx_X12_cutMany) 17 = .ok (.aload_n 0, 1) := by decide +kernel
theorem dx_X12_cutMany_18 : decode (go_cc mx_X12_cutMany) 18 = .ok (.iload_n 1, 1) := by decide +kernel
theorem dx_X12_cutMany_19 : decode (go_cc mx_X12_cutMany) 19 = .ok (.iload_n 3, 1) := by decide +kernel
theorem dx_X12_cutMany_20 : decode (go_cc mx_X12_cutMany) 20 = .ok (.iload 6, 2) := by decide +kernel
theorem dx_X12_cutMany_22 : decode (go_cc mx_X12_cutMany) 22 = .ok (.invokevirtual 268, 3) := by decide +kernel
theorem dx_X12_cutMany_25 : decode (go_cc mx_X12_cutMany) 25 = .ok (.ifCond .eq 19, 3) := by decide +kernel
theorem dx_X12_cutMany_28 : decode (go_cc mx_X12_cutMany) 28 = .ok (.aload_n 0, 1) := by decide +kernel
theorem dx_X12_cutMany_29 : decode (go_cc mx_X12_cutMany) 29 = .ok (.iload_n 2, 1) := by decide +kernel
theorem dx_X12_cutMany_30 : decode (go_cc mx_X12_cutMany) 30 = .ok (.iload 6, 2) := by decide +kernel
theorem dx_X12_cutMany_32 : decode (go_cc mx_X12_cutMany) 32 = .ok (.iload 4, 2) := by decide +kernel
theorem dx_X12_cutMany_34 : decode (go_cc mx_X12_cutMany) 34 = .ok (.invokevirtual 268, 3) := by decide +kernel
theorem dx_X12_cutMany_37 : decode (go_cc mx_X12_cutMany) 37 = .ok (.ifCond .eq 7, 3) := by decide +kernel
theorem dx_X12_cutMany_40 : decode (go_cc mx_X12_cutMany) 40 = .ok (.iconst 1, 1) := by decide +kernel
theorem dx_X12_cutMany_41 : decode (go_cc mx_X12_cutMany) 41 = .ok (.goto 4, 3) := by decide +kernel
theorem dx_X12_cutMany_44 : decode (go_cc mx_X12_cutMany) 44 = .ok (.iconst 0, 1) := by decide +kernel
theorem dx_X12_cutMany_45 : decode (go_cc mx_X12_cutMany) 45 = .ok (.iadd, 1) := by decide +kernel
theorem dx_X12_cutMany_46 : decode (go_cc mx_X12_cutMany) 46 = .ok (.istore 5, 2) := by decide +kernel
theorem dx_X12_cutMany_48 : decode (go_cc mx_X12_cutMany) 48 = .ok (.iinc 6 1, 3) := by decide +kernel
theorem dx_X12_cutMany_51 : decode (go_cc mx_X12_cutMany) 51 = .ok (.goto (-43), 3) := by decide +kernel
theorem dx_X12_cutMany_54 : decode (go_cc mx_X12_cutMany) 54 = .ok (.iload 5, 2) := by decide +kernel
theorem dx_X12_cutMany_56 : decode (go_cc mx_X12_cutMany) 56 = .ok (.ireturn, 1) := by decide +kernel
theorem dx_X12_product_0 : decode (go_cc mx_X12_product) 0 = .ok (.aload_n 0, 1) := by decide +kernel
theorem dx_X12_product_1 : decode (go_cc mx_X12_product) 1 = .ok (.iconst 0, 1) := by decide +kernel
theorem dx_X12_product_2 : decode (go_cc mx_X12_product) 2 = .ok (.putfield 139, 3) := by decide +kernel
theorem dx_X12_product_5 : decode (go_cc mx_X12_product) 5 = .ok (.aload_n 0, 1) := by decide +kernel
theorem dx_X12_product_6 : decode (go_cc mx_X12_product) 6 = .ok (.iload_n 1, 1) := by decide +kernel
theorem dx_X12_product_7 : decode (go_cc mx_X12_product) 7 = .ok (.invokevirtual 235, 3) := by decide +kernel
theorem dx_X12_product_10 : decode (go_cc mx_X12_product) 10 = .ok (.ifCond .eq 19, 3) := by decide +kernel
theorem dx_X12_product_13 : decode (go_cc mx_X12_product) 13 = .ok (.aload_n 0, 1) := by decide +kernel
theorem dx_X12_product_14 : decode (go_cc mx_X12_product) 14 = .ok (.iload_n 2, 1) := by decide +kernel
theorem dx_X12_product_15 : decode (go_cc mx_X12_product) 15 = .ok (.invokevirtual 235, 3) := by decide +kernel
theorem dx_X12_product_18 : decode (go_cc mx_X12_product) 18 = .ok (.ifCond .eq 11, 3) := by decide +kernel
theorem dx_X12_product_21 : decode (go_cc mx_X12_product) 21 = .ok (.aload_n 0, 1) := by decide +kernel
theorem dx_X12_product_22 : decode (go_cc mx_X12_product) 22 = .ok (.iload_n 3, 1) := by decide +kernel
theorem dx_X12_product_23 : decode (go_cc mx_X12_product) 23 = .ok (.invokevirtual 279, 3) := by decide +kernel
theorem dx_X12_product_26 : decode (go_cc mx_X12_product) 26 = .ok (.ifCond .ne 6, 3) := by decide +kernel
theorem dx_X12_product_29 : decode (go_cc mx_X12_product) 29 = .ok (.bipush (-2), 2) := by decide +kernel
theorem dx_X12_product_31 : decode (go_cc mx_X12_product) 31 = .ok (.ireturn, 1) := by decide +kernel
theorem dx_X12_product_32 : decode (go_cc mx_X12_product) 32 = .ok (.aload_n 0, 1) := by decide +kernel
theorem dx_X12_product_33 : decode (go_cc mx_X12_product) 33 = .ok (.invokevirtual 265, 3) := by decide +kernel
theorem dx_X12_product_36 : decode (go_cc mx_X12_product) 36 = .ok (.iconst 0, 1) := by decide +kernel
theorem dx_X12_product_37 : decode (go_cc mx_X12_product) 37 = .ok (.istore 4, 2) := by decide +kernel
theorem dx_X12_product_39 : decode (go_cc mx_X12_product) 39 = .ok (.iload_n 3, 1) := by decide +kernel
theorem dx_X12_product_40 : decode (go_cc mx_X12_product) 40 = .ok (.iconst 1, 1) := by decide +kernel
theorem dx_X12_product_41 : decode (go_cc mx_X12_product) 41 = .ok (.iadd, 1) := by decide +kernel
theorem dx_X12_product_42 : decode (go_cc mx_X12_product) 42 = .ok (.istore 5, 2) := by decide +kernel
theorem dx_X12_product_44 : decode (go_cc mx_X12_product) 44 = .ok (.iload 5, 2) := by decide +kernel
theorem dx_X12_product_46 : decode (go_cc mx_X12_product) 46 = .ok (.aload_n 0, 1) := by decide +kernel
theorem dx_X12_product_47 : decode (go_cc mx_X12_product) 47 = .ok (.invokevirtual 253, 3) := by decide +kernel
theorem dx_X12_product_50 : decode (go_cc mx_X12_product) 50 = .ok (.if_icmp .gt 34, 3) := by decide +kernel
theorem dx_X12_product_53 : decode (go_cc mx_X12_product) 53 = .ok (.iload 4, 2) := by decide +kernel
theorem dx_X12_product_55 : decode (go_cc mx_X12_product) 55 = .ok (.aload_n 0, 1) := by decide +kernel
theorem dx_X12_product_56 : decode (go_cc mx_X12_product) 56 = .ok (.iload_n 1, 1) := by decide +kernel
theorem dx_X12_product_57 : decode (go_cc mx_X12_product) 57 = .ok (.iload_n 2, 1) := by decide +kernel
theorem dx_X12_product_58 : decode (go_cc mx_X12_product) 58 = .ok (.iload_n 3, 1) := by decide +kernel
theorem dx_X12_product_59 : decode (go_cc mx_X12_product) 59 = .ok (.iload 5, 2) := by decide +kernel
theorem dx_X12_product_61 : decode (go_cc mx_X12_product) 61 = .ok (.invokevirtual 282, 3) := by decide +kernel
theorem dx_X12_product_64 : decode (go_cc mx_X12_product) 64 = .ok (.ifCond .le 10, 3) := by decide +kernel
theorem dx_X12_product_67 : decode (go_cc mx_X12_product) 67 = .ok (.iconst 1, 1) := by decide +kernel
theorem dx_X12_product_68 : decode (go_cc mx_X12_product) 68 = .ok (.iload 5, 2) := by decide +kernel
theorem dx_X12_product_70 : decode (go_cc mx_X12_product) 70 = .ok (.ishl, 1) := by decide +kernel
theorem dx_X12_product_71 : decode (go_cc mx_X12_product) 71 = .ok (.goto 4, 3) := by decide +kernel
theorem dx_X12_product_74 : decode (go_cc mx_X12_product) 74 = .ok (.iconst 0, 1) := by decide +kernel
theorem dx_X12_product_75 : decode (go_cc mx_X12_product) 75 = .ok (.ior, 1) := by decide +kernel
theorem dx_X12_product_76 : decode (go_cc mx_X12_product) 76 = .ok (.istore 4, 2) := by decide +kernel
theorem dx_X12_product_78 : decode (go_cc mx_X12_product) 78 = .ok (.iinc 5 1, 3) := by decide +kernel
theorem dx_X12_product_81 : decode (go_cc mx_X12_product) 81 = .ok (.goto (-37), 3) := by decide +kernel
theorem dx_X12_product_84 : decode (go_cc mx_X12_product) 84 = .ok (.iload 4, 2) := by decide +kernel
theorem dx_X12_product_86 : decode (go_cc mx_X12_product) 86 = .ok (.ireturn, 1) := by decide +kernel
theorem dx_X12_row_0 : decode (go_cc mx_X12_row) 0 = .ok (.aload_n 0, 1) := by decide +kernel
theorem dx_X12_row_1 : decode (go_cc mx_X12_row) 1 = .ok (.iconst 0, 1) := by decide +kernel
theorem dx_X12_row_2 : decode (go_cc mx_X12_row) 2 = .ok (.putfield 139, 3) := by decide +kernel
theorem dx_X12_row_5 : decode (go_cc mx_X12_row) 5 = .ok (.aload_n 0, 1) := by decide +kernel
theorem dx_X12_row_6 : decode (go_cc mx_X12_row) 6 = .ok (.iload_n 1, 1) := by decide +kernel
theorem dx_X12_row_7 : decode (go_cc mx_X12_row) 7 = .ok (.invokevirtual 235, 3) := by decide +kernel
theorem dx_X12_row_10 : decode (go_cc mx_X12_row) 10 = .ok (.ifCond .eq 11, 3) := by decide +kernel
theorem dx_X12_row_13 : decode (go_cc mx_X12_row) 13 = .ok (.aload_n 0, 1) := by decide +kernel
theorem dx_X12_row_14 : decode (go_cc mx_X12_row) 14 = .ok (.iload_n 2, 1) := by decide +kernel
theorem dx_X12_row_15 : decode (go_cc mx_X12_row) 15 = .ok (.invokevirtual 279, 3) := by decide +kernel
theorem dx_X12_row_18 : decode (go_cc mx_X12_row) 18 = .ok (.ifCond .ne 6, 3) := by decide +kernel
theorem dx_X12_row_21 : decode (go_cc mx_X12_row) 21 = .ok (.bipush (-2), 2) := by decide +kernel
theorem dx_X12_row_23 : decode (go_cc mx_X12_row) 23 = .ok (.ireturn, 1) := by decide +kernel
theorem dx_X12_row_24 : decode (go_cc mx_X12_row) 24 = .ok (.aload_n 0, 1) := by decide +kernel
theorem dx_X12_row_25 : decode (go_cc mx_X12_row) 25 = .ok (.invokevirtual 265, 3) := by decide +kernel
theorem dx_X12_row_28 : decode (go_cc mx_X12_row) 28 = .ok (.iconst 0, 1) := by decide +kernel
theorem dx_X12_row_29 : decode (go_cc mx_X12_row) 29 = .ok (.istore_n 3, 1) := by decide +kernel
theorem dx_X12_row_30 : decode (go_cc mx_X12_row) 30 = .ok (.iload_n 2, 1) := by decide +kernel
theorem dx_X12_row_31 : decode (go_cc mx_X12_row) 31 = .ok (.iconst 1, 1) := by decide +kernel
theorem dx_X12_row_32 : decode (go_cc mx_X12_row) 32 = .ok (.iadd, 1) := by decide +kernel
theorem dx_X12_row_33 : decode (go_cc mx_X12_row) 33 = .ok (.istore 4, 2) := by decide +kernel
theorem dx_X12_row_35 : decode (go_cc mx_X12_row) 35 = .ok (.iload 4, 2) := by decide +kernel
theorem dx_X12_row_37 : decode (go_cc mx_X12_row) 37 = .ok (.aload_n 0, 1) := by decide +kernel
theorem dx_X12_row_38 : decode (go_cc mx_X12_row) 38 = .ok (.invokevirtual 253, 3) := by decide +kernel
theorem dx_X12_row_41 : decode (go_cc mx_X12_row) 41 = .ok (.if_icmp .gt 31, 3) := by decide +kernel
theorem dx_X12_row_44 : decode (go_cc mx_X12_row) 44 = .ok (.iload_n 3, 1) := by decide +kernel
theorem dx_X12_row_45 : decode (go_cc mx_X12_row) 45 = .ok (.aload_n 0, 1) := by decide +kernel
theorem dx_X12_row_46 : decode (go_cc mx_X12_row) 46 = .ok (.iload_n 1, 1) := by decide +kernel
theorem dx_X12_row_47 : decode (go_cc mx_X12_row) 47 = .ok (.iload_n 2, 1) := by decide +kernel
theorem dx_X12_row_48 : decode (go_cc mx_X12_row) 48 = .ok (.iload 4, 2) := by decide +kernel
theorem dx_X12_row_50 : decode (go_cc mx_X12_row) 50 = .ok (.invokevirtual 268, 3) := by decide +kernel
theorem dx_X12_row_53 : decode (go_cc mx_X12_row) 53 = .ok (.ifCond .eq 10, 3) := by decide +kernel
theorem dx_X12_row_56 : decode (go_cc mx_X12_row) 56 = .ok (.iconst 1, 1) := by decide +kernel
theorem dx_X12_row_57 : decode (go_cc mx_X12_row) 57 = .ok (.iload 4, 2) := by decide +kernel
theorem dx_X12_row_59 : decode (go_cc mx_X12_row) 59 = .ok (.ishl, 1) := by decide +kernel
theorem dx_X12_row_60 : decode (go_cc mx_X12_row) 60 = .ok (.goto 4, 3) := by decide +kernel
theorem dx_X12_row_63 : decode (go_cc mx_X12_row) 63 = .ok (.iconst 0, 1) := by decide +kernel
theorem dx_X12_row_64 : decode (go_cc mx_X12_row) 64 = .ok (.ior, 1) := by decide +kernel
theorem dx_X12_row_65 : decode (go_cc mx_X12_row) 65 = .ok (.istore_n 3, 1) := by decide +kernel
theorem dx_X12_row_66 : decode (go_cc mx_X12_row) 66 = .ok (.iinc 4 1, 3) := by decide +kernel
theorem dx_X12_row_69 : decode (go_cc mx_X12_row) 69 = .ok (.goto (-34), 3) := by decide +kernel
theorem dx_X12_row_72 : decode (go_cc mx_X12_row) 72 = .ok (.iload_n 3, 1) := by decide +kernel
theorem dx_X12_row_73 : decode (go_cc mx_X12_row) 73 = .ok (.ireturn, 1) := by decide +kernel
theorem dx_X12_cuts_0 : decode (go_cc mx_X12_cuts) 0 = .ok (.aload_n 0, 1) := by decide +kernel
theorem dx_X12_cuts_1 : decode (go_cc mx_X12_cuts) 1 = .ok (.iconst 0, 1) := by decide +kernel
theorem dx_X12_cuts_2 : decode (go_cc mx_X12_cuts) 2 = .ok (.putfield 139, 3) := by decide +kernel
theorem dx_X12_cuts_5 : decode (go_cc mx_X12_cuts) 5 = .ok (.aload_n 0, 1) := by decide +kernel
theorem dx_X12_cuts_6 : decode (go_cc mx_X12_cuts) 6 = .ok (.iload_n 1, 1) := by decide +kernel
theorem dx_X12_cuts_7 : decode (go_cc mx_X12_cuts) 7 = .ok (.invokevirtual 235, 3) := by decide +kernel
theorem dx_X12_cuts_10 : decode (go_cc mx_X12_cuts) 10 = .ok (.ifCond .eq 21, 3) := by decide +kernel
theorem dx_X12_cuts_13 : decode (go_cc mx_X12_cuts) 13 = .ok (.aload_n 0, 1) := by decide +kernel
theorem dx_X12_cuts_14 : decode (go_cc mx_X12_cuts) 14 = .ok (.iload_n 2, 1) := by decide +kernel
theorem dx_X12_cuts_15 : decode (go_cc mx_X12_cuts) 15 = .ok (.invokevirtual 235, 3) := by decide +kernel
theorem dx_X12_cuts_18 : decode (go_cc mx_X12_cuts) 18 = .ok (.ifCond .eq 13, 3) := by decide +kernel
theorem dx_X12_cuts_21 : decode (go_cc mx_X12_cuts) 21 = .ok (.aload_n 0, 1) := by decide +kernel
theorem dx_X12_cuts_22 : decode (go_cc mx_X12_cuts) 22 = .ok (.iload_n 3, 1) := by decide +kernel
theorem dx_X12_cuts_23 : decode (go_cc mx_X12_cuts) 23 = .ok (.iload 4, 2) := by decide +kernel
theorem dx_X12_cuts_25 : decode (go_cc mx_X12_cuts) 25 = .ok (.invokevirtual 260, 3) := by decide +kernel
theorem dx_X12_cuts_28 : decode (go_cc mx_X12_cuts) 28 = .ok (.ifCond .ne 6, 3) := by decide +kernel
theorem dx_X12_cuts_31 : decode (go_cc mx_X12_cuts) 31 = .ok (.bipush (-2), 2) := by decide +kernel
theorem dx_X12_cuts_33 : decode (go_cc mx_X12_cuts) 33 = .ok (.ireturn, 1) := by decide +kernel
theorem dx_X12_cuts_34 : decode (go_cc mx_X12_cuts) 34 = .ok (.aload_n 0, 1) := by decide +kernel
theorem dx_X12_cuts_35 : decode (go_cc mx_X12_cuts) 35 = .ok (.invokevirtual 265, 3) := by decide +kernel
theorem dx_X12_cuts_38 : decode (go_cc mx_X12_cuts) 38 = .ok (.aload_n 0, 1) := by decide +kernel
theorem dx_X12_cuts_39 : decode (go_cc mx_X12_cuts) 39 = .ok (.iload_n 1, 1) := by decide +kernel
theorem dx_X12_cuts_40 : decode (go_cc mx_X12_cuts) 40 = .ok (.iload_n 2, 1) := by decide +kernel
theorem dx_X12_cuts_41 : decode (go_cc mx_X12_cuts) 41 = .ok (.iload_n 3, 1) := by decide +kernel
theorem dx_X12_cuts_42 : decode (go_cc mx_X12_cuts) 42 = .ok (.iload 4, 2) := by decide +kernel
theorem dx_X12_cuts_44 : decode (go_cc mx_X12_cuts) 44 = .ok (.invokevirtual 282, 3) := by decide +kernel
theorem dx_X12_cuts_47 : decode (go_cc mx_X12_cuts) 47 = .ok (.ireturn, 1) := by decide +kernel
theorem dx_X12_spans_0 : decode (go_cc mx_X12_spans) 0 = .ok (.aload_n 0, 1) := by decide +kernel
theorem dx_X12_spans_1 : decode (go_cc mx_X12_spans) 1 = .ok (.iconst 0, 1) := by decide +kernel
theorem dx_X12_spans_2 : decode (go_cc mx_X12_spans) 2 = .ok (.putfield 139, 3) := by decide +kernel
theorem dx_X12_spans_5 : decode (go_cc mx_X12_spans) 5 = .ok (.aload_n 0, 1) := by decide +kernel
theorem dx_X12_spans_6 : decode (go_cc mx_X12_spans) 6 = .ok (.iload_n 1, 1) := by decide +kernel
theorem dx_X12_spans_7 : decode (go_cc mx_X12_spans) 7 = .ok (.invokevirtual 235, 3) := by decide +kernel
theorem dx_X12_spans_10 : decode (go_cc mx_X12_spans) 10 = .ok (.ifCond .eq 15, 3) := by decide +kernel
theorem dx_X12_spans_13 : decode (go_cc mx_X12_spans) 13 = .ok (.iload_n 2, 1) := by decide +kernel
theorem dx_X12_spans_14 : decode (go_cc mx_X12_spans) 14 = .ok (.i2l, 1) := by decide +kernel
theorem dx_X12_spans_15 : decode (go_cc mx_X12_spans) 15 = .ok (.lconst 0, 1) := by decide +kernel
theorem dx_X12_spans_16 : decode (go_cc mx_X12_spans) 16 = .ok (.ldc2_w 286, 3) := by decide +kernel
theorem dx_X12_spans_19 : decode (go_cc mx_X12_spans) 19 = .ok (.invokestatic 144, 3) := by decide +kernel
theorem dx_X12_spans_22 : decode (go_cc mx_X12_spans) 22 = .ok (.ifCond .ne 6, 3) := by decide +kernel
theorem dx_X12_spans_25 : decode (go_cc mx_X12_spans) 25 = .ok (.bipush (-2), 2) := by decide +kernel
theorem dx_X12_spans_27 : decode (go_cc mx_X12_spans) 27 = .ok (.ireturn, 1) := by decide +kernel
theorem dx_X12_spans_28 : decode (go_cc mx_X12_spans) 28 = .ok (.aload_n 0, 1) := by decide +kernel
theorem dx_X12_spans_29 : decode (go_cc mx_X12_spans) 29 = .ok (.invokevirtual 265, 3) := by decide +kernel
theorem dx_X12_spans_32 : decode (go_cc mx_X12_spans) 32 = .ok (.iconst 0, 1) := by decide +kernel
theorem dx_X12_spans_33 : decode (go_cc mx_X12_spans) 33 = .ok (.istore_n 3, 1) := by decide +kernel
theorem dx_X12_spans_34 : decode (go_cc mx_X12_spans) 34 = .ok (.iconst 0, 1) := by decide +kernel
theorem dx_X12_spans_35 : decode (go_cc mx_X12_spans) 35 = .ok (.istore 4, 2) := by decide +kernel
theorem dx_X12_spans_37 : decode (go_cc mx_X12_spans) 37 = .ok (.iconst (-1), 1) := by decide +kernel
theorem dx_X12_spans_38 : decode (go_cc mx_X12_spans) 38 = .ok (.istore 5, 2) := by decide +kernel
theorem dx_X12_spans_40 : decode (go_cc mx_X12_spans) 40 = .ok (.iconst 0, 1) := by decide +kernel
theorem dx_X12_spans_41 : decode (go_cc mx_X12_spans) 41 = .ok (.istore 6, 2) := by decide +kernel
theorem dx_X12_spans_43 : decode (go_cc mx_X12_spans) 43 = .ok (.iload 6, 2) := by decide +kernel
theorem dx_X12_spans_45 : decode (go_cc mx_X12_spans) 45 = .ok (.aload_n 0, 1) := by decide +kernel
theorem dx_X12_spans_46 : decode (go_cc mx_X12_spans) 46 = .ok (.invokevirtual 253, 3) := by decide +kernel
theorem dx_X12_spans_49 : decode (go_cc mx_X12_spans) 49 = .ok (.if_icmp .ge 72, 3) := by decide +kernel
theorem dx_X12_spans_52 : decode (go_cc mx_X12_spans) 52 = .ok (.iload 6, 2) := by decide +kernel
theorem dx_X12_spans_54 : decode (go_cc mx_X12_spans) 54 = .ok (.iconst 1, 1) := by decide +kernel
theorem dx_X12_spans_55 : decode (go_cc mx_X12_spans) 55 = .ok (.iadd, 1) := by decide +kernel
theorem dx_X12_spans_56 : decode (go_cc mx_X12_spans) 56 = .ok (.istore 7, 2) := by decide +kernel
theorem dx_X12_spans_58 : decode (go_cc mx_X12_spans) 58 = .ok (.iload 7, 2) := by decide +kernel
theorem dx_X12_spans_60 : decode (go_cc mx_X12_spans) 60 = .ok (.aload_n 0, 1) := by decide +kernel
theorem dx_X12_spans_61 : decode (go_cc mx_X12_spans) 61 = .ok (.invokevirtual 253, 3) := by decide +kernel
theorem dx_X12_spans_64 : decode (go_cc mx_X12_spans) 64 = .ok (.if_icmp .gt 51, 3) := by decide +kernel
theorem dx_X12_spans_67 : decode (go_cc mx_X12_spans) 67 = .ok (.aload_n 0, 1) := by decide +kernel
theorem dx_X12_spans_68 : decode (go_cc mx_X12_spans) 68 = .ok (.iload_n 1, 1) := by decide +kernel
theorem dx_X12_spans_69 : decode (go_cc mx_X12_spans) 69 = .ok (.iload 6, 2) := by decide +kernel
theorem dx_X12_spans_71 : decode (go_cc mx_X12_spans) 71 = .ok (.iload 7, 2) := by decide +kernel
theorem dx_X12_spans_73 : decode (go_cc mx_X12_spans) 73 = .ok (.invokevirtual 268, 3) := by decide +kernel
theorem dx_X12_spans_76 : decode (go_cc mx_X12_spans) 76 = .ok (.ifCond .ne 6, 3) := by decide +kernel
theorem dx_X12_spans_79 : decode (go_cc mx_X12_spans) 79 = .ok (.goto 30, 3) := by decide +kernel
theorem dx_X12_spans_82 : decode (go_cc mx_X12_spans) 82 = .ok (.iinc 3 1, 3) := by decide +kernel
theorem dx_X12_spans_85 : decode (go_cc mx_X12_spans) 85 = .ok (.iload 7, 2) := by decide +kernel
theorem dx_X12_spans_87 : decode (go_cc mx_X12_spans) 87 = .ok (.iload 6, 2) := by decide +kernel
theorem dx_X12_spans_89 : decode (go_cc mx_X12_spans) 89 = .ok (.isub, 1) := by decide +kernel
theorem dx_X12_spans_90 : decode (go_cc mx_X12_spans) 90 = .ok (.iload 4, 2) := by decide +kernel
theorem dx_X12_spans_92 : decode (go_cc mx_X12_spans) 92 = .ok (.if_icmp .gt 6, 3) := by decide +kernel
theorem dx_X12_spans_95 : decode (go_cc mx_X12_spans) 95 = .ok (.goto 14, 3) := by decide +kernel
theorem dx_X12_spans_98 : decode (go_cc mx_X12_spans) 98 = .ok (.iload 7, 2) := by decide +kernel
theorem dx_X12_spans_100 : decode (go_cc mx_X12_spans) 100 = .ok (.iload 6, 2) := by decide +kernel
theorem dx_X12_spans_102 : decode (go_cc mx_X12_spans) 102 = .ok (.isub, 1) := by decide +kernel
theorem dx_X12_spans_103 : decode (go_cc mx_X12_spans) 103 = .ok (.istore 4, 2) := by decide +kernel
theorem dx_X12_spans_105 : decode (go_cc mx_X12_spans) 105 = .ok (.iload 6, 2) := by decide +kernel
theorem dx_X12_spans_107 : decode (go_cc mx_X12_spans) 107 = .ok (.istore 5, 2) := by decide +kernel
theorem dx_X12_spans_109 : decode (go_cc mx_X12_spans) 109 = .ok (.iinc 7 1, 3) := by decide +kernel
theorem dx_X12_spans_112 : decode (go_cc mx_X12_spans) 112 = .ok (.goto (-54), 3) := by decide +kernel
theorem dx_X12_spans_115 : decode (go_cc mx_X12_spans) 115 = .ok (.iinc 6 1, 3) := by decide +kernel
theorem dx_X12_spans_118 : decode (go_cc mx_X12_spans) 118 = .ok (.goto (-75), 3) := by decide +kernel
theorem dx_X12_spans_121 : decode (go_cc mx_X12_spans) 121 = .ok (.iload_n 2, 1) := by decide +kernel
theorem dx_X12_spans_122 : decode (go_cc mx_X12_spans) 122 = .ok (.ifCond .ne 7, 3) := by decide +kernel
theorem dx_X12_spans_125 : decode (go_cc mx_X12_spans) 125 = .ok (.iload_n 3, 1) := by decide +kernel
theorem dx_X12_spans_126 : decode (go_cc mx_X12_spans) 126 = .ok (.goto 15, 3) := by decide +kernel
theorem dx_X12_spans_129 : decode (go_cc mx_X12_spans) 129 = .ok (.iload_n 2, 1) := by decide +kernel
theorem dx_X12_spans_130 : decode (go_cc mx_X12_spans) 130 = .ok (.iconst 1, 1) := by decide +kernel
theorem dx_X12_spans_131 : decode (go_cc mx_X12_spans) 131 = .ok (.if_icmp .ne 8, 3) := by decide +kernel
theorem dx_X12_spans_134 : decode (go_cc mx_X12_spans) 134 = .ok (.iload 4, 2) := by decide +kernel
theorem dx_X12_spans_136 : decode (go_cc mx_X12_spans) 136 = .ok (.goto 5, 3) := by decide +kernel
theorem dx_X12_spans_139 : decode (go_cc mx_X12_spans) 139 = .ok (.iload 5, 2) := by decide +kernel
theorem dx_X12_spans_141 : decode (go_cc mx_X12_spans) 141 = .ok (.ireturn, 1) := by decide +kernel
theorem dx_X12_plus_0 : decode (go_cc mx_X12_plus) 0 = .ok (.lload_n 0, 1) := by decide +kernel
theorem dx_X12_plus_1 : decode (go_cc mx_X12_plus) 1 = .ok (.ldc2_w 288, 3) := by decide +kernel
theorem dx_X12_plus_4 : decode (go_cc mx_X12_plus) 4 = .ok (.lcmp, 1) := by decide +kernel
theorem dx_X12_plus_5 : decode (go_cc mx_X12_plus) 5 = .ok (.ifCond .eq 21, 3) := by decide +kernel
theorem dx_X12_plus_8 : decode (go_cc mx_X12_plus) 8 = .ok (.lload_n 2, 1) := by decide +kernel
theorem dx_X12_plus_9 : decode (go_cc mx_X12_plus) 9 = .ok (.ldc2_w 288, 3) := by decide +kernel
theorem dx_X12_plus_12 : decode (go_cc mx_X12_plus) 12 = .ok (.lcmp, 1) := by decide +kernel
theorem dx_X12_plus_13 : decode (go_cc mx_X12_plus) 13 = .ok (.ifCond .eq 13, 3) := by decide +kernel
theorem dx_X12_plus_16 : decode (go_cc mx_X12_plus) 16 = .ok (.lload_n 0, 1) := by decide +kernel
theorem dx_X12_plus_17 : decode (go_cc mx_X12_plus) 17 = .ok (.ldc2_w 292, 3) := by decide +kernel
theorem dx_X12_plus_20 : decode (go_cc mx_X12_plus) 20 = .ok (.lload_n 2, 1) := by decide +kernel
theorem dx_X12_plus_21 : decode (go_cc mx_X12_plus) 21 = .ok (.lsub, 1) := by decide +kernel
theorem dx_X12_plus_22 : decode (go_cc mx_X12_plus) 22 = .ok (.lcmp, 1) := by decide +kernel
theorem dx_X12_plus_23 : decode (go_cc mx_X12_plus) 23 = .ok (.ifCond .le 9, 3) := by decide +kernel
theorem dx_X12_plus_26 : decode (go_cc mx_X12_plus) 26 = .ok (.ldc2_w 288, 3) := by decide +kernel
theorem dx_X12_plus_29 : decode (go_cc mx_X12_plus) 29 = .ok (.goto 6, 3) := by decide +kernel
theorem dx_X12_plus_32 : decode (go_cc mx_X12_plus) 32 = .ok (.lload_n 0, 1) := by decide +kernel
theorem dx_X12_plus_33 : decode (go_cc mx_X12_plus) 33 = .ok (.lload_n 2, 1) := by decide +kernel
theorem dx_X12_plus_34 : decode (go_cc mx_X12_plus) 34 = .ok (.ladd, 1) := by decide +kernel
theorem dx_X12_plus_35 : decode (go_cc mx_X12_plus) 35 = .ok (.lreturn, 1) := by decide +kernel
theorem dx_X12_times_0 : decode (go_cc mx_X12_times) 0 = .ok (.lload_n 0, 1) := by decide +kernel
theorem dx_X12_times_1 : decode (go_cc mx_X12_times) 1 = .ok (.lconst 0, 1) := by decide +kernel
theorem dx_X12_times_2 : decode (go_cc mx_X12_times) 2 = .ok (.lcmp, 1) := by decide +kernel
theorem dx_X12_times_3 : decode (go_cc mx_X12_times) 3 = .ok (.ifCond .eq 9, 3) := by decide +kernel
theorem dx_X12_times_6 : decode (go_cc mx_X12_times) 6 = .ok (.lload_n 2, 1) := by decide +kernel
theorem dx_X12_times_7 : decode (go_cc mx_X12_times) 7 = .ok (.lconst 0, 1) := by decide +kernel
theorem dx_X12_times_8 : decode (go_cc mx_X12_times) 8 = .ok (.lcmp, 1) := by decide +kernel
theorem dx_X12_times_9 : decode (go_cc mx_X12_times) 9 = .ok (.ifCond .ne 5, 3) := by decide +kernel
theorem dx_X12_times_12 : decode (go_cc mx_X12_times) 12 = .ok (.lconst 0, 1) := by decide +kernel
theorem dx_X12_times_13 : decode (go_cc mx_X12_times) 13 = .ok (.lreturn, 1) := by decide +kernel
theorem dx_X12_times_14 : decode (go_cc mx_X12_times) 14 = .ok (.lload_n 0, 1) := by decide +kernel
theorem dx_X12_times_15 : decode (go_cc mx_X12_times) 15 = .ok (.ldc2_w 288, 3) := by decide +kernel
theorem dx_X12_times_18 : decode (go_cc mx_X12_times) 18 = .ok (.lcmp, 1) := by decide +kernel
theorem dx_X12_times_19 : decode (go_cc mx_X12_times) 19 = .ok (.ifCond .eq 21, 3) := by decide +kernel
theorem dx_X12_times_22 : decode (go_cc mx_X12_times) 22 = .ok (.lload_n 2, 1) := by decide +kernel
theorem dx_X12_times_23 : decode (go_cc mx_X12_times) 23 = .ok (.ldc2_w 288, 3) := by decide +kernel
theorem dx_X12_times_26 : decode (go_cc mx_X12_times) 26 = .ok (.lcmp, 1) := by decide +kernel
theorem dx_X12_times_27 : decode (go_cc mx_X12_times) 27 = .ok (.ifCond .eq 13, 3) := by decide +kernel
theorem dx_X12_times_30 : decode (go_cc mx_X12_times) 30 = .ok (.lload_n 0, 1) := by decide +kernel
theorem dx_X12_times_31 : decode (go_cc mx_X12_times) 31 = .ok (.ldc2_w 292, 3) := by decide +kernel
theorem dx_X12_times_34 : decode (go_cc mx_X12_times) 34 = .ok (.lload_n 2, 1) := by decide +kernel
theorem dx_X12_times_35 : decode (go_cc mx_X12_times) 35 = .ok (.ldiv, 1) := by decide +kernel
theorem dx_X12_times_36 : decode (go_cc mx_X12_times) 36 = .ok (.lcmp, 1) := by decide +kernel
theorem dx_X12_times_37 : decode (go_cc mx_X12_times) 37 = .ok (.ifCond .le 9, 3) := by decide +kernel
theorem dx_X12_times_40 : decode (go_cc mx_X12_times) 40 = .ok (.ldc2_w 288, 3) := by decide +kernel
theorem dx_X12_times_43 : decode (go_cc mx_X12_times) 43 = .ok (.goto 6, 3) := by decide +kernel
theorem dx_X12_times_46 : decode (go_cc mx_X12_times) 46 = .ok (.lload_n 0, 1) := by decide +kernel
theorem dx_X12_times_47 : decode (go_cc mx_X12_times) 47 = .ok (.lload_n 2, 1) := by decide +kernel
theorem dx_X12_times_48 : decode (go_cc mx_X12_times) 48 = .ok (.lmul, 1) := by decide +kernel
theorem dx_X12_times_49 : decode (go_cc mx_X12_times) 49 = .ok (.lreturn, 1) := by decide +kernel
theorem dx_X12_isUnitOf_0 : decode (go_cc mx_X12_isUnitOf) 0 = .ok (.aload_n 0, 1) := by decide +kernel
theorem dx_X12_isUnitOf_1 : decode (go_cc mx_X12_isUnitOf) 1 = .ok (.iload_n 1, 1) := by decide +kernel
theorem dx_X12_isUnitOf_2 : decode (go_cc mx_X12_isUnitOf) 2 = .ok (.invokevirtual 148, 3) := by decide +kernel
theorem dx_X12_isUnitOf_5 : decode (go_cc mx_X12_isUnitOf) 5 = .ok (.iconst 1, 1) := by decide +kernel
theorem dx_X12_isUnitOf_6 : decode (go_cc mx_X12_isUnitOf) 6 = .ok (.if_icmp .ne 28, 3) := by decide +kernel
theorem dx_X12_isUnitOf_9 : decode (go_cc mx_X12_isUnitOf) 9 = .ok (.aload_n 0, 1) := by decide +kernel
theorem dx_X12_isUnitOf_10 : decode (go_cc mx_X12_isUnitOf) 10 = .ok (.iload_n 1, 1) := by decide +kernel
theorem dx_X12_isUnitOf_11 : decode (go_cc mx_X12_isUnitOf) 11 = .ok (.invokevirtual 184, 3) := by decide +kernel
theorem dx_X12_isUnitOf_14 : decode (go_cc mx_X12_isUnitOf) 14 = .ok (.iload_n 2, 1) := by decide +kernel
theorem dx_X12_isUnitOf_15 : decode (go_cc mx_X12_isUnitOf) 15 = .ok (.if_icmp .ne 19, 3) := by decide +kernel
theorem dx_X12_isUnitOf_18 : decode (go_cc mx_X12_isUnitOf) 18 = .ok (.aload_n 0, 1) := by decide +kernel
theorem dx_X12_isUnitOf_19 : decode (go_cc mx_X12_isUnitOf) 19 = .ok (.iload_n 1, 1) := by decide +kernel
theorem dx_X12_isUnitOf_20 : decode (go_cc mx_X12_isUnitOf) 20 = .ok (.iconst 0, 1) := by decide +kernel
theorem dx_X12_isUnitOf_21 : decode (go_cc mx_X12_isUnitOf) 21 = .ok (.invokevirtual 190, 3) := by decide +kernel
theorem dx_X12_isUnitOf_24 : decode (go_cc mx_X12_isUnitOf) 24 = .ok (.invokestatic 212, 3) := by decide +kernel
theorem dx_X12_isUnitOf_27 : decode (go_cc mx_X12_isUnitOf) 27 = .ok (.ifCond .eq 7, 3) := by decide +kernel
theorem dx_X12_isUnitOf_30 : decode (go_cc mx_X12_isUnitOf) 30 = .ok (.iconst 1, 1) := by decide +kernel
theorem dx_X12_isUnitOf_31 : decode (go_cc mx_X12_isUnitOf) 31 = .ok (.goto 4, 3) := by decide +kernel
theorem dx_X12_isUnitOf_34 : decode (go_cc mx_X12_isUnitOf) 34 = .ok (.iconst 0, 1) := by decide +kernel
theorem dx_X12_isUnitOf_35 : decode (go_cc mx_X12_isUnitOf) 35 = .ok (.ireturn, 1) := by decide +kernel
theorem dx_X12_laysPaths_0 : decode (go_cc mx_X12_laysPaths) 0 = .ok (.iconst 0, 1) := by decide +kernel
theorem dx_X12_laysPaths_1 : decode (go_cc mx_X12_laysPaths) 1 = .ok (.istore_n 3, 1) := by decide +kernel
theorem dx_X12_laysPaths_2 : decode (go_cc mx_X12_laysPaths) 2 = .ok (.iload_n 3, 1) := by decide +kernel
theorem dx_X12_laysPaths_3 : decode (go_cc mx_X12_laysPaths) 3 = .ok (.sipush 2048, 3) := by decide +kernel
theorem dx_X12_laysPaths_6 : decode (go_cc mx_X12_laysPaths) 6 = .ok (.if_icmp .ge 16, 3) := by decide +kernel
theorem dx_X12_laysPaths_9 : decode (go_cc mx_X12_laysPaths) 9 = .ok (.aload_n 0, 1) := by decide +kernel
theorem dx_X12_laysPaths_10 : decode (go_cc mx_X12_laysPaths) 10 = .ok (.getfield 70, 3) := by decide +kernel
theorem dx_X12_laysPaths_13 : decode (go_cc mx_X12_laysPaths) 13 = .ok (.iload_n 3, 1) := by decide +kernel
theorem dx_X12_laysPaths_14 : decode (go_cc mx_X12_laysPaths) 14 = .ok (.lconst 0, 1) := by decide +kernel
theorem dx_X12_laysPaths_15 : decode (go_cc mx_X12_laysPaths) 15 = .ok (.lastore, 1) := by decide +kernel
theorem dx_X12_laysPaths_16 : decode (go_cc mx_X12_laysPaths) 16 = .ok (.iinc 3 1, 3) := by decide +kernel
theorem dx_X12_laysPaths_19 : decode (go_cc mx_X12_laysPaths) 19 = .ok (.goto (-17), 3) := by decide +kernel
theorem dx_X12_laysPaths_22 : decode (go_cc mx_X12_laysPaths) 22 = .ok (.aload_n 0, 1) := by decide +kernel
theorem dx_X12_laysPaths_23 : decode (go_cc mx_X12_laysPaths) 23 = .ok (.getfield 70, 3) := by decide +kernel
theorem dx_X12_laysPaths_26 : decode (go_cc mx_X12_laysPaths) 26 = .ok (.bipush 8, 2) := by decide +kernel
theorem dx_X12_laysPaths_28 : decode (go_cc mx_X12_laysPaths) 28 = .ok (.iload_n 2, 1) := by decide +kernel
theorem dx_X12_laysPaths_29 : decode (go_cc mx_X12_laysPaths) 29 = .ok (.iconst 1, 1) := by decide +kernel
theorem dx_X12_laysPaths_30 : decode (go_cc mx_X12_laysPaths) 30 = .ok (.iload_n 1, 1) := by decide +kernel
theorem dx_X12_laysPaths_31 : decode (go_cc mx_X12_laysPaths) 31 = .ok (.ishl, 1) := by decide +kernel
theorem dx_X12_laysPaths_32 : decode (go_cc mx_X12_laysPaths) 32 = .ok (.ior, 1) := by decide +kernel
theorem dx_X12_laysPaths_33 : decode (go_cc mx_X12_laysPaths) 33 = .ok (.imul, 1) := by decide +kernel
theorem dx_X12_laysPaths_34 : decode (go_cc mx_X12_laysPaths) 34 = .ok (.iload_n 1, 1) := by decide +kernel
theorem dx_X12_laysPaths_35 : decode (go_cc mx_X12_laysPaths) 35 = .ok (.iadd, 1) := by decide +kernel
theorem dx_X12_laysPaths_36 : decode (go_cc mx_X12_laysPaths) 36 = .ok (.lconst 1, 1) := by decide +kernel
theorem dx_X12_laysPaths_37 : decode (go_cc mx_X12_laysPaths) 37 = .ok (.lastore, 1) := by decide +kernel
theorem dx_X12_laysPaths_38 : decode (go_cc mx_X12_laysPaths) 38 = .ok (.iconst 0, 1) := by decide +kernel
theorem dx_X12_laysPaths_39 : decode (go_cc mx_X12_laysPaths) 39 = .ok (.istore_n 3, 1) := by decide +kernel
theorem dx_X12_laysPaths_40 : decode (go_cc mx_X12_laysPaths) 40 = .ok (.iload_n 3, 1) := by decide +kernel
theorem dx_X12_laysPaths_41 : decode (go_cc mx_X12_laysPaths) 41 = .ok (.bipush 8, 2) := by decide +kernel
theorem dx_X12_laysPaths_43 : decode (go_cc mx_X12_laysPaths) 43 = .ok (.if_icmp .ge 16, 3) := by decide +kernel
theorem dx_X12_laysPaths_46 : decode (go_cc mx_X12_laysPaths) 46 = .ok (.aload_n 0, 1) := by decide +kernel
theorem dx_X12_laysPaths_47 : decode (go_cc mx_X12_laysPaths) 47 = .ok (.getfield 73, 3) := by decide +kernel
theorem dx_X12_laysPaths_50 : decode (go_cc mx_X12_laysPaths) 50 = .ok (.iload_n 3, 1) := by decide +kernel
theorem dx_X12_laysPaths_51 : decode (go_cc mx_X12_laysPaths) 51 = .ok (.lconst 0, 1) := by decide +kernel
theorem dx_X12_laysPaths_52 : decode (go_cc mx_X12_laysPaths) 52 = .ok (.lastore, 1) := by decide +kernel
theorem dx_X12_laysPaths_53 : decode (go_cc mx_X12_laysPaths) 53 = .ok (.iinc 3 1, 3) := by decide +kernel
theorem dx_X12_laysPaths_56 : decode (go_cc mx_X12_laysPaths) 56 = .ok (.goto (-16), 3) := by decide +kernel
theorem dx_X12_laysPaths_59 : decode (go_cc mx_X12_laysPaths) 59 = .ok (.iconst 0, 1) := by decide +kernel
theorem dx_X12_laysPaths_60 : decode (go_cc mx_X12_laysPaths) 60 = .ok (.istore_n 3, 1) := by decide +kernel
theorem dx_X12_laysPaths_61 : decode (go_cc mx_X12_laysPaths) 61 = .ok (.iload_n 3, 1) := by decide +kernel
theorem dx_X12_laysPaths_62 : decode (go_cc mx_X12_laysPaths) 62 = .ok (.sipush 256, 3) := by decide +kernel
theorem dx_X12_laysPaths_65 : decode (go_cc mx_X12_laysPaths) 65 = .ok (.if_icmp .ge 138, 3) := by decide +kernel
theorem dx_X12_laysPaths_68 : decode (go_cc mx_X12_laysPaths) 68 = .ok (.iconst 0, 1) := by decide +kernel
theorem dx_X12_laysPaths_69 : decode (go_cc mx_X12_laysPaths) 69 = .ok (.istore 4, 2) := by decide +kernel
theorem dx_X12_laysPaths_71 : decode (go_cc mx_X12_laysPaths) 71 = .ok (.iload 4, 2) := by decide +kernel
theorem dx_X12_laysPaths_73 : decode (go_cc mx_X12_laysPaths) 73 = .ok (.bipush 8, 2) := by decide +kernel
theorem dx_X12_laysPaths_75 : decode (go_cc mx_X12_laysPaths) 75 = .ok (.if_icmp .ge 122, 3) := by decide +kernel
theorem dx_X12_laysPaths_78 : decode (go_cc mx_X12_laysPaths) 78 = .ok (.aload_n 0, 1) := by decide +kernel
theorem dx_X12_laysPaths_79 : decode (go_cc mx_X12_laysPaths) 79 = .ok (.getfield 70, 3) := by decide +kernel
theorem dx_X12_laysPaths_82 : decode (go_cc mx_X12_laysPaths) 82 = .ok (.bipush 8, 2) := by decide +kernel
theorem dx_X12_laysPaths_84 : decode (go_cc mx_X12_laysPaths) 84 = .ok (.iload_n 3, 1) := by decide +kernel
theorem dx_X12_laysPaths_85 : decode (go_cc mx_X12_laysPaths) 85 = .ok (.imul, 1) := by decide +kernel
theorem dx_X12_laysPaths_86 : decode (go_cc mx_X12_laysPaths) 86 = .ok (.iload 4, 2) := by decide +kernel
theorem dx_X12_laysPaths_88 : decode (go_cc mx_X12_laysPaths) 88 = .ok (.iadd, 1) := by decide +kernel
theorem dx_X12_laysPaths_89 : decode (go_cc mx_X12_laysPaths) 89 = .ok (.laload, 1) := by decide +kernel
theorem dx_X12_laysPaths_90 : decode (go_cc mx_X12_laysPaths) 90 = .ok (.lstore 5, 2) := by decide +kernel
theorem dx_X12_laysPaths_92 : decode (go_cc mx_X12_laysPaths) 92 = .ok (.lload 5, 2) := by decide +kernel
theorem dx_X12_laysPaths_94 : decode (go_cc mx_X12_laysPaths) 94 = .ok (.lconst 0, 1) := by decide +kernel
theorem dx_X12_laysPaths_95 : decode (go_cc mx_X12_laysPaths) 95 = .ok (.lcmp, 1) := by decide +kernel
theorem dx_X12_laysPaths_96 : decode (go_cc mx_X12_laysPaths) 96 = .ok (.ifCond .ne 6, 3) := by decide +kernel
theorem dx_X12_laysPaths_99 : decode (go_cc mx_X12_laysPaths) 99 = .ok (.goto 92, 3) := by decide +kernel
theorem dx_X12_laysPaths_102 : decode (go_cc mx_X12_laysPaths) 102 = .ok (.aload_n 0, 1) := by decide +kernel
theorem dx_X12_laysPaths_103 : decode (go_cc mx_X12_laysPaths) 103 = .ok (.getfield 73, 3) := by decide +kernel
theorem dx_X12_laysPaths_106 : decode (go_cc mx_X12_laysPaths) 106 = .ok (.iload 4, 2) := by decide +kernel
theorem dx_X12_laysPaths_108 : decode (go_cc mx_X12_laysPaths) 108 = .ok (.dup2, 1) := by decide +kernel
theorem dx_X12_laysPaths_109 : decode (go_cc mx_X12_laysPaths) 109 = .ok (.laload, 1) := by decide +kernel
theorem dx_X12_laysPaths_110 : decode (go_cc mx_X12_laysPaths) 110 = .ok (.lload 5, 2) := by decide +kernel
theorem dx_X12_laysPaths_112 : decode (go_cc mx_X12_laysPaths) 112 = .ok (.ladd, 1) := by decide +kernel
theorem dx_X12_laysPaths_113 : decode (go_cc mx_X12_laysPaths) 113 = .ok (.lastore, 1) := by decide +kernel
theorem dx_X12_laysPaths_114 : decode (go_cc mx_X12_laysPaths) 114 = .ok (.iconst 0, 1) := by decide +kernel
theorem dx_X12_laysPaths_115 : decode (go_cc mx_X12_laysPaths) 115 = .ok (.istore 7, 2) := by decide +kernel
theorem dx_X12_laysPaths_117 : decode (go_cc mx_X12_laysPaths) 117 = .ok (.iload 7, 2) := by decide +kernel
theorem dx_X12_laysPaths_119 : decode (go_cc mx_X12_laysPaths) 119 = .ok (.bipush 16, 2) := by decide +kernel
theorem dx_X12_laysPaths_121 : decode (go_cc mx_X12_laysPaths) 121 = .ok (.if_icmp .ge 70, 3) := by decide +kernel
theorem dx_X12_laysPaths_124 : decode (go_cc mx_X12_laysPaths) 124 = .ok (.aload_n 0, 1) := by decide +kernel
theorem dx_X12_laysPaths_125 : decode (go_cc mx_X12_laysPaths) 125 = .ok (.iload 7, 2) := by decide +kernel
theorem dx_X12_laysPaths_127 : decode (go_cc mx_X12_laysPaths) 127 = .ok (.iload 4, 2) := by decide +kernel
theorem dx_X12_laysPaths_129 : decode (go_cc mx_X12_laysPaths) 129 = .ok (.invokevirtual 294, 3) := by decide +kernel
theorem dx_X12_laysPaths_132 : decode (go_cc mx_X12_laysPaths) 132 = .ok (.ifCond .eq 53, 3) := by decide +kernel
theorem dx_X12_laysPaths_135 : decode (go_cc mx_X12_laysPaths) 135 = .ok (.iload_n 3, 1) := by decide +kernel
theorem dx_X12_laysPaths_136 : decode (go_cc mx_X12_laysPaths) 136 = .ok (.aload_n 0, 1) := by decide +kernel
theorem dx_X12_laysPaths_137 : decode (go_cc mx_X12_laysPaths) 137 = .ok (.iload 7, 2) := by decide +kernel
theorem dx_X12_laysPaths_139 : decode (go_cc mx_X12_laysPaths) 139 = .ok (.iconst 0, 1) := by decide +kernel
theorem dx_X12_laysPaths_140 : decode (go_cc mx_X12_laysPaths) 140 = .ok (.invokevirtual 190, 3) := by decide +kernel
theorem dx_X12_laysPaths_143 : decode (go_cc mx_X12_laysPaths) 143 = .ok (.ishr, 1) := by decide +kernel
theorem dx_X12_laysPaths_144 : decode (go_cc mx_X12_laysPaths) 144 = .ok (.iconst 1, 1) := by decide +kernel
theorem dx_X12_laysPaths_145 : decode (go_cc mx_X12_laysPaths) 145 = .ok (.iand, 1) := by decide +kernel
theorem dx_X12_laysPaths_146 : decode (go_cc mx_X12_laysPaths) 146 = .ok (.iconst 1, 1) := by decide +kernel
theorem dx_X12_laysPaths_147 : decode (go_cc mx_X12_laysPaths) 147 = .ok (.if_icmp .ne 6, 3) := by decide +kernel
theorem dx_X12_laysPaths_150 : decode (go_cc mx_X12_laysPaths) 150 = .ok (.goto 35, 3) := by decide +kernel
theorem dx_X12_laysPaths_153 : decode (go_cc mx_X12_laysPaths) 153 = .ok (.aload_n 0, 1) := by decide +kernel
theorem dx_X12_laysPaths_154 : decode (go_cc mx_X12_laysPaths) 154 = .ok (.getfield 70, 3) := by decide +kernel
theorem dx_X12_laysPaths_157 : decode (go_cc mx_X12_laysPaths) 157 = .ok (.bipush 8, 2) := by decide +kernel
theorem dx_X12_laysPaths_159 : decode (go_cc mx_X12_laysPaths) 159 = .ok (.iload_n 3, 1) := by decide +kernel
theorem dx_X12_laysPaths_160 : decode (go_cc mx_X12_laysPaths) 160 = .ok (.iconst 1, 1) := by decide +kernel
theorem dx_X12_laysPaths_161 : decode (go_cc mx_X12_laysPaths) 161 = .ok (.aload_n 0, 1) := by decide +kernel
theorem dx_X12_laysPaths_162 : decode (go_cc mx_X12_laysPaths) 162 = .ok (.iload 7, 2) := by decide +kernel
theorem dx_X12_laysPaths_164 : decode (go_cc mx_X12_laysPaths) 164 = .ok (.iconst 0, 1) := by decide +kernel
theorem dx_X12_laysPaths_165 : decode (go_cc mx_X12_laysPaths) 165 = .ok (.invokevirtual 190, 3) := by decide +kernel
theorem dx_X12_laysPaths_168 : decode (go_cc mx_X12_laysPaths) 168 = .ok (.ishl, 1) := by decide +kernel
theorem dx_X12_laysPaths_169 : decode (go_cc mx_X12_laysPaths) 169 = .ok (.ior, 1) := by decide +kernel
theorem dx_X12_laysPaths_170 : decode (go_cc mx_X12_laysPaths) 170 = .ok (.imul, 1) := by decide +kernel
theorem dx_X12_laysPaths_171 : decode (go_cc mx_X12_laysPaths) 171 = .ok (.aload_n 0, 1) := by decide +kernel
theorem dx_X12_laysPaths_172 : decode (go_cc mx_X12_laysPaths) 172 = .ok (.iload 7, 2) := by decide +kernel
theorem dx_X12_laysPaths_174 : decode (go_cc mx_X12_laysPaths) 174 = .ok (.iconst 0, 1) := by decide +kernel
theorem dx_X12_laysPaths_175 : decode (go_cc mx_X12_laysPaths) 175 = .ok (.invokevirtual 190, 3) := by decide +kernel
theorem dx_X12_laysPaths_178 : decode (go_cc mx_X12_laysPaths) 178 = .ok (.iadd, 1) := by decide +kernel
theorem dx_X12_laysPaths_179 : decode (go_cc mx_X12_laysPaths) 179 = .ok (.dup2, 1) := by decide +kernel
theorem dx_X12_laysPaths_180 : decode (go_cc mx_X12_laysPaths) 180 = .ok (.laload, 1) := by decide +kernel
theorem dx_X12_laysPaths_181 : decode (go_cc mx_X12_laysPaths) 181 = .ok (.lload 5, 2) := by decide +kernel
theorem dx_X12_laysPaths_183 : decode (go_cc mx_X12_laysPaths) 183 = .ok (.ladd, 1) := by decide +kernel
theorem dx_X12_laysPaths_184 : decode (go_cc mx_X12_laysPaths) 184 = .ok (.lastore, 1) := by decide +kernel
theorem dx_X12_laysPaths_185 : decode (go_cc mx_X12_laysPaths) 185 = .ok (.iinc 7 1, 3) := by decide +kernel
theorem dx_X12_laysPaths_188 : decode (go_cc mx_X12_laysPaths) 188 = .ok (.goto (-71), 3) := by decide +kernel
theorem dx_X12_laysPaths_191 : decode (go_cc mx_X12_laysPaths) 191 = .ok (.iinc 4 1, 3) := by decide +kernel
theorem dx_X12_laysPaths_194 : decode (go_cc mx_X12_laysPaths) 194 = .ok (.goto (-123), 3) := by decide +kernel
theorem dx_X12_laysPaths_197 : decode (go_cc mx_X12_laysPaths) 197 = .ok (.iinc 3 1, 3) := by decide +kernel
theorem dx_X12_laysPaths_200 : decode (go_cc mx_X12_laysPaths) 200 = .ok (.goto (-139), 3) := by decide +kernel
theorem dx_X12_laysPaths_203 : decode (go_cc mx_X12_laysPaths) 203 = .ok (.return_, 1) := by decide +kernel
theorem dx_X12_sumOfPaths_0 : decode (go_cc mx_X12_sumOfPaths) 0 = .ok (.lconst 0, 1) := by decide +kernel
theorem dx_X12_sumOfPaths_1 : decode (go_cc mx_X12_sumOfPaths) 1 = .ok (.lstore 4, 2) := by decide +kernel
theorem dx_X12_sumOfPaths_3 : decode (go_cc mx_X12_sumOfPaths) 3 = .ok (.iconst 0, 1) := by decide +kernel
theorem dx_X12_sumOfPaths_4 : decode (go_cc mx_X12_sumOfPaths) 4 = .ok (.istore 6, 2) := by decide +kernel
theorem dx_X12_sumOfPaths_6 : decode (go_cc mx_X12_sumOfPaths) 6 = .ok (.iload 6, 2) := by decide +kernel
theorem dx_X12_sumOfPaths_8 : decode (go_cc mx_X12_sumOfPaths) 8 = .ok (.bipush 8, 2) := by decide +kernel
theorem dx_X12_sumOfPaths_10 : decode (go_cc mx_X12_sumOfPaths) 10 = .ok (.if_icmp .ge 34, 3) := by decide +kernel
theorem dx_X12_sumOfPaths_13 : decode (go_cc mx_X12_sumOfPaths) 13 = .ok (.lload 4, 2) := by decide +kernel
theorem dx_X12_sumOfPaths_15 : decode (go_cc mx_X12_sumOfPaths) 15 = .ok (.aload_n 0, 1) := by decide +kernel
theorem dx_X12_sumOfPaths_16 : decode (go_cc mx_X12_sumOfPaths) 16 = .ok (.getfield 73, 3) := by decide +kernel
theorem dx_X12_sumOfPaths_19 : decode (go_cc mx_X12_sumOfPaths) 19 = .ok (.iload 6, 2) := by decide +kernel
theorem dx_X12_sumOfPaths_21 : decode (go_cc mx_X12_sumOfPaths) 21 = .ok (.laload, 1) := by decide +kernel
theorem dx_X12_sumOfPaths_22 : decode (go_cc mx_X12_sumOfPaths) 22 = .ok (.aload_n 1, 1) := by decide +kernel
theorem dx_X12_sumOfPaths_23 : decode (go_cc mx_X12_sumOfPaths) 23 = .ok (.iload_n 2, 1) := by decide +kernel
theorem dx_X12_sumOfPaths_24 : decode (go_cc mx_X12_sumOfPaths) 24 = .ok (.iload_n 3, 1) := by decide +kernel
theorem dx_X12_sumOfPaths_25 : decode (go_cc mx_X12_sumOfPaths) 25 = .ok (.iload 6, 2) := by decide +kernel
theorem dx_X12_sumOfPaths_27 : decode (go_cc mx_X12_sumOfPaths) 27 = .ok (.imul, 1) := by decide +kernel
theorem dx_X12_sumOfPaths_28 : decode (go_cc mx_X12_sumOfPaths) 28 = .ok (.iadd, 1) := by decide +kernel
theorem dx_X12_sumOfPaths_29 : decode (go_cc mx_X12_sumOfPaths) 29 = .ok (.laload, 1) := by decide +kernel
theorem dx_X12_sumOfPaths_30 : decode (go_cc mx_X12_sumOfPaths) 30 = .ok (.invokestatic 297, 3) := by decide +kernel
theorem dx_X12_sumOfPaths_33 : decode (go_cc mx_X12_sumOfPaths) 33 = .ok (.invokestatic 300, 3) := by decide +kernel
theorem dx_X12_sumOfPaths_36 : decode (go_cc mx_X12_sumOfPaths) 36 = .ok (.lstore 4, 2) := by decide +kernel
theorem dx_X12_sumOfPaths_38 : decode (go_cc mx_X12_sumOfPaths) 38 = .ok (.iinc 6 1, 3) := by decide +kernel
theorem dx_X12_sumOfPaths_41 : decode (go_cc mx_X12_sumOfPaths) 41 = .ok (.goto (-35), 3) := by decide +kernel
theorem dx_X12_sumOfPaths_44 : decode (go_cc mx_X12_sumOfPaths) 44 = .ok (.lload 4, 2) := by decide +kernel
theorem dx_X12_sumOfPaths_46 : decode (go_cc mx_X12_sumOfPaths) 46 = .ok (.lreturn, 1) := by decide +kernel
theorem dx_X12_partWays_0 : decode (go_cc mx_X12_partWays) 0 = .ok (.iload_n 1, 1) := by decide +kernel
theorem dx_X12_partWays_1 : decode (go_cc mx_X12_partWays) 1 = .ok (.bipush 8, 2) := by decide +kernel
theorem dx_X12_partWays_3 : decode (go_cc mx_X12_partWays) 3 = .ok (.if_icmp .lt 26, 3) := by decide +kernel
theorem dx_X12_partWays_6 : decode (go_cc mx_X12_partWays) 6 = .ok (.iload_n 3, 1) := by decide +kernel
theorem dx_X12_partWays_7 : decode (go_cc mx_X12_partWays) 7 = .ok (.iload_n 2, 1) := by decide +kernel
theorem dx_X12_partWays_8 : decode (go_cc mx_X12_partWays) 8 = .ok (.iconst 1, 1) := by decide +kernel
theorem dx_X12_partWays_9 : decode (go_cc mx_X12_partWays) 9 = .ok (.iadd, 1) := by decide +kernel
theorem dx_X12_partWays_10 : decode (go_cc mx_X12_partWays) 10 = .ok (.if_icmp .ne 17, 3) := by decide +kernel
theorem dx_X12_partWays_13 : decode (go_cc mx_X12_partWays) 13 = .ok (.aload_n 0, 1) := by decide +kernel
theorem dx_X12_partWays_14 : decode (go_cc mx_X12_partWays) 14 = .ok (.getfield 48, 3) := by decide +kernel
theorem dx_X12_partWays_17 : decode (go_cc mx_X12_partWays) 17 = .ok (.iload_n 2, 1) := by decide +kernel
theorem dx_X12_partWays_18 : decode (go_cc mx_X12_partWays) 18 = .ok (.iaload, 1) := by decide +kernel
theorem dx_X12_partWays_19 : decode (go_cc mx_X12_partWays) 19 = .ok (.iload_n 1, 1) := by decide +kernel
theorem dx_X12_partWays_20 : decode (go_cc mx_X12_partWays) 20 = .ok (.if_icmp .ne 7, 3) := by decide +kernel
theorem dx_X12_partWays_23 : decode (go_cc mx_X12_partWays) 23 = .ok (.lconst 1, 1) := by decide +kernel
theorem dx_X12_partWays_24 : decode (go_cc mx_X12_partWays) 24 = .ok (.goto 4, 3) := by decide +kernel
theorem dx_X12_partWays_27 : decode (go_cc mx_X12_partWays) 27 = .ok (.lconst 0, 1) := by decide +kernel
theorem dx_X12_partWays_28 : decode (go_cc mx_X12_partWays) 28 = .ok (.lreturn, 1) := by decide +kernel
theorem dx_X12_partWays_29 : decode (go_cc mx_X12_partWays) 29 = .ok (.aload_n 0, 1) := by decide +kernel
theorem dx_X12_partWays_30 : decode (go_cc mx_X12_partWays) 30 = .ok (.getfield 64, 3) := by decide +kernel
theorem dx_X12_partWays_33 : decode (go_cc mx_X12_partWays) 33 = .ok (.sipush 256, 3) := by decide +kernel
theorem dx_X12_partWays_36 : decode (go_cc mx_X12_partWays) 36 = .ok (.iload_n 1, 1) := by decide +kernel
theorem dx_X12_partWays_37 : decode (go_cc mx_X12_partWays) 37 = .ok (.imul, 1) := by decide +kernel
theorem dx_X12_partWays_38 : decode (go_cc mx_X12_partWays) 38 = .ok (.bipush 16, 2) := by decide +kernel
theorem dx_X12_partWays_40 : decode (go_cc mx_X12_partWays) 40 = .ok (.iload_n 2, 1) := by decide +kernel
theorem dx_X12_partWays_41 : decode (go_cc mx_X12_partWays) 41 = .ok (.imul, 1) := by decide +kernel
theorem dx_X12_partWays_42 : decode (go_cc mx_X12_partWays) 42 = .ok (.iadd, 1) := by decide +kernel
theorem dx_X12_partWays_43 : decode (go_cc mx_X12_partWays) 43 = .ok (.iload_n 3, 1) := by decide +kernel
theorem dx_X12_partWays_44 : decode (go_cc mx_X12_partWays) 44 = .ok (.iadd, 1) := by decide +kernel
theorem dx_X12_partWays_45 : decode (go_cc mx_X12_partWays) 45 = .ok (.laload, 1) := by decide +kernel
theorem dx_X12_partWays_46 : decode (go_cc mx_X12_partWays) 46 = .ok (.lreturn, 1) := by decide +kernel
theorem dx_X12_laysFit_0 : decode (go_cc mx_X12_laysFit) 0 = .ok (.aload_n 0, 1) := by decide +kernel
theorem dx_X12_laysFit_1 : decode (go_cc mx_X12_laysFit) 1 = .ok (.iload_n 1, 1) := by decide +kernel
theorem dx_X12_laysFit_2 : decode (go_cc mx_X12_laysFit) 2 = .ok (.invokevirtual 148, 3) := by decide +kernel
theorem dx_X12_laysFit_5 : decode (go_cc mx_X12_laysFit) 5 = .ok (.istore 4, 2) := by decide +kernel
theorem dx_X12_laysFit_7 : decode (go_cc mx_X12_laysFit) 7 = .ok (.iload 4, 2) := by decide +kernel
theorem dx_X12_laysFit_9 : decode (go_cc mx_X12_laysFit) 9 = .ok (.istore 5, 2) := by decide +kernel
theorem dx_X12_laysFit_11 : decode (go_cc mx_X12_laysFit) 11 = .ok (.iload 5, 2) := by decide +kernel
theorem dx_X12_laysFit_13 : decode (go_cc mx_X12_laysFit) 13 = .ok (.ifCond .lt 141, 3) := by decide +kernel
theorem dx_X12_laysFit_16 : decode (go_cc mx_X12_laysFit) 16 = .ok (.iload_n 2, 1) := by decide +kernel
theorem dx_X12_laysFit_17 : decode (go_cc mx_X12_laysFit) 17 = .ok (.istore 6, 2) := by decide +kernel
theorem dx_X12_laysFit_19 : decode (go_cc mx_X12_laysFit) 19 = .ok (.iload 6, 2) := by decide +kernel
theorem dx_X12_laysFit_21 : decode (go_cc mx_X12_laysFit) 21 = .ok (.iload_n 3, 1) := by decide +kernel
theorem dx_X12_laysFit_22 : decode (go_cc mx_X12_laysFit) 22 = .ok (.if_icmp .gt 126, 3) := by decide +kernel
theorem dx_X12_laysFit_25 : decode (go_cc mx_X12_laysFit) 25 = .ok (.iload 5, 2) := by decide +kernel
theorem dx_X12_laysFit_27 : decode (go_cc mx_X12_laysFit) 27 = .ok (.iload 4, 2) := by decide +kernel
theorem dx_X12_laysFit_29 : decode (go_cc mx_X12_laysFit) 29 = .ok (.if_icmp .ne 13, 3) := by decide +kernel
theorem dx_X12_laysFit_32 : decode (go_cc mx_X12_laysFit) 32 = .ok (.iload 6, 2) := by decide +kernel
theorem dx_X12_laysFit_34 : decode (go_cc mx_X12_laysFit) 34 = .ok (.iload_n 3, 1) := by decide +kernel
theorem dx_X12_laysFit_35 : decode (go_cc mx_X12_laysFit) 35 = .ok (.if_icmp .ne 7, 3) := by decide +kernel
theorem dx_X12_laysFit_38 : decode (go_cc mx_X12_laysFit) 38 = .ok (.lconst 1, 1) := by decide +kernel
theorem dx_X12_laysFit_39 : decode (go_cc mx_X12_laysFit) 39 = .ok (.goto 4, 3) := by decide +kernel
theorem dx_X12_laysFit_42 : decode (go_cc mx_X12_laysFit) 42 = .ok (.lconst 0, 1) := by decide +kernel
theorem dx_X12_laysFit_43 : decode (go_cc mx_X12_laysFit) 43 = .ok (.lstore 7, 2) := by decide +kernel
theorem dx_X12_laysFit_45 : decode (go_cc mx_X12_laysFit) 45 = .ok (.iload 6, 2) := by decide +kernel
theorem dx_X12_laysFit_47 : decode (go_cc mx_X12_laysFit) 47 = .ok (.iconst 1, 1) := by decide +kernel
theorem dx_X12_laysFit_48 : decode (go_cc mx_X12_laysFit) 48 = .ok (.iadd, 1) := by decide +kernel
theorem dx_X12_laysFit_49 : decode (go_cc mx_X12_laysFit) 49 = .ok (.istore 9, 2) := by decide +kernel
theorem dx_X12_laysFit_51 : decode (go_cc mx_X12_laysFit) 51 = .ok (.iload 9, 2) := by decide +kernel
theorem dx_X12_laysFit_53 : decode (go_cc mx_X12_laysFit) 53 = .ok (.iload_n 3, 1) := by decide +kernel
theorem dx_X12_laysFit_54 : decode (go_cc mx_X12_laysFit) 54 = .ok (.if_icmp .gt 73, 3) := by decide +kernel
theorem dx_X12_laysFit_57 : decode (go_cc mx_X12_laysFit) 57 = .ok (.iload 5, 2) := by decide +kernel
theorem dx_X12_laysFit_59 : decode (go_cc mx_X12_laysFit) 59 = .ok (.iload 4, 2) := by decide +kernel
theorem dx_X12_laysFit_61 : decode (go_cc mx_X12_laysFit) 61 = .ok (.if_icmp .ge 66, 3) := by decide +kernel
theorem dx_X12_laysFit_64 : decode (go_cc mx_X12_laysFit) 64 = .ok (.iload 9, 2) := by decide +kernel
theorem dx_X12_laysFit_66 : decode (go_cc mx_X12_laysFit) 66 = .ok (.iload 6, 2) := by decide +kernel
theorem dx_X12_laysFit_68 : decode (go_cc mx_X12_laysFit) 68 = .ok (.isub, 1) := by decide +kernel
theorem dx_X12_laysFit_69 : decode (go_cc mx_X12_laysFit) 69 = .ok (.iload_n 3, 1) := by decide +kernel
theorem dx_X12_laysFit_70 : decode (go_cc mx_X12_laysFit) 70 = .ok (.iload_n 2, 1) := by decide +kernel
theorem dx_X12_laysFit_71 : decode (go_cc mx_X12_laysFit) 71 = .ok (.isub, 1) := by decide +kernel
theorem dx_X12_laysFit_72 : decode (go_cc mx_X12_laysFit) 72 = .ok (.if_icmp .lt 9, 3) := by decide +kernel
theorem dx_X12_laysFit_75 : decode (go_cc mx_X12_laysFit) 75 = .ok (.iload 4, 2) := by decide +kernel
theorem dx_X12_laysFit_77 : decode (go_cc mx_X12_laysFit) 77 = .ok (.iconst 1, 1) := by decide +kernel
theorem dx_X12_laysFit_78 : decode (go_cc mx_X12_laysFit) 78 = .ok (.if_icmp .ne 43, 3) := by decide +kernel
theorem dx_X12_laysFit_81 : decode (go_cc mx_X12_laysFit) 81 = .ok (.lload 7, 2) := by decide +kernel
theorem dx_X12_laysFit_83 : decode (go_cc mx_X12_laysFit) 83 = .ok (.aload_n 0, 1) := by decide +kernel
theorem dx_X12_laysFit_84 : decode (go_cc mx_X12_laysFit) 84 = .ok (.aload_n 0, 1) := by decide +kernel
theorem dx_X12_laysFit_85 : decode (go_cc mx_X12_laysFit) 85 = .ok (.iload_n 1, 1) := by decide +kernel
theorem dx_X12_laysFit_86 : decode (go_cc mx_X12_laysFit) 86 = .ok (.iload 5, 2) := by decide +kernel
theorem dx_X12_laysFit_88 : decode (go_cc mx_X12_laysFit) 88 = .ok (.invokevirtual 190, 3) := by decide +kernel
theorem dx_X12_laysFit_91 : decode (go_cc mx_X12_laysFit) 91 = .ok (.iload 6, 2) := by decide +kernel
theorem dx_X12_laysFit_93 : decode (go_cc mx_X12_laysFit) 93 = .ok (.iload 9, 2) := by decide +kernel
theorem dx_X12_laysFit_95 : decode (go_cc mx_X12_laysFit) 95 = .ok (.invokevirtual 303, 3) := by decide +kernel
theorem dx_X12_laysFit_98 : decode (go_cc mx_X12_laysFit) 98 = .ok (.aload_n 0, 1) := by decide +kernel
theorem dx_X12_laysFit_99 : decode (go_cc mx_X12_laysFit) 99 = .ok (.getfield 67, 3) := by decide +kernel
theorem dx_X12_laysFit_102 : decode (go_cc mx_X12_laysFit) 102 = .ok (.bipush 16, 2) := by decide +kernel
theorem dx_X12_laysFit_104 : decode (go_cc mx_X12_laysFit) 104 = .ok (.iload 5, 2) := by decide +kernel
theorem dx_X12_laysFit_106 : decode (go_cc mx_X12_laysFit) 106 = .ok (.iconst 1, 1) := by decide +kernel
theorem dx_X12_laysFit_107 : decode (go_cc mx_X12_laysFit) 107 = .ok (.iadd, 1) := by decide +kernel
theorem dx_X12_laysFit_108 : decode (go_cc mx_X12_laysFit) 108 = .ok (.imul, 1) := by decide +kernel
theorem dx_X12_laysFit_109 : decode (go_cc mx_X12_laysFit) 109 = .ok (.iload 9, 2) := by decide +kernel
theorem dx_X12_laysFit_111 : decode (go_cc mx_X12_laysFit) 111 = .ok (.iadd, 1) := by decide +kernel
theorem dx_X12_laysFit_112 : decode (go_cc mx_X12_laysFit) 112 = .ok (.laload, 1) := by decide +kernel
theorem dx_X12_laysFit_113 : decode (go_cc mx_X12_laysFit) 113 = .ok (.invokestatic 297, 3) := by decide +kernel
theorem dx_X12_laysFit_116 : decode (go_cc mx_X12_laysFit) 116 = .ok (.invokestatic 300, 3) := by decide +kernel
theorem dx_X12_laysFit_119 : decode (go_cc mx_X12_laysFit) 119 = .ok (.lstore 7, 2) := by decide +kernel
theorem dx_X12_laysFit_121 : decode (go_cc mx_X12_laysFit) 121 = .ok (.iinc 9 1, 3) := by decide +kernel
theorem dx_X12_laysFit_124 : decode (go_cc mx_X12_laysFit) 124 = .ok (.goto (-73), 3) := by decide +kernel
theorem dx_X12_laysFit_127 : decode (go_cc mx_X12_laysFit) 127 = .ok (.aload_n 0, 1) := by decide +kernel
theorem dx_X12_laysFit_128 : decode (go_cc mx_X12_laysFit) 128 = .ok (.getfield 67, 3) := by decide +kernel
theorem dx_X12_laysFit_131 : decode (go_cc mx_X12_laysFit) 131 = .ok (.bipush 16, 2) := by decide +kernel
theorem dx_X12_laysFit_133 : decode (go_cc mx_X12_laysFit) 133 = .ok (.iload 5, 2) := by decide +kernel
theorem dx_X12_laysFit_135 : decode (go_cc mx_X12_laysFit) 135 = .ok (.imul, 1) := by decide +kernel
theorem dx_X12_laysFit_136 : decode (go_cc mx_X12_laysFit) 136 = .ok (.iload 6, 2) := by decide +kernel
theorem dx_X12_laysFit_138 : decode (go_cc mx_X12_laysFit) 138 = .ok (.iadd, 1) := by decide +kernel
theorem dx_X12_laysFit_139 : decode (go_cc mx_X12_laysFit) 139 = .ok (.lload 7, 2) := by decide +kernel
theorem dx_X12_laysFit_141 : decode (go_cc mx_X12_laysFit) 141 = .ok (.lastore, 1) := by decide +kernel
theorem dx_X12_laysFit_142 : decode (go_cc mx_X12_laysFit) 142 = .ok (.iinc 6 1, 3) := by decide +kernel
theorem dx_X12_laysFit_145 : decode (go_cc mx_X12_laysFit) 145 = .ok (.goto (-126), 3) := by decide +kernel
theorem dx_X12_laysFit_148 : decode (go_cc mx_X12_laysFit) 148 = .ok (.iinc 5 (-1), 3) := by decide +kernel
theorem dx_X12_laysFit_151 : decode (go_cc mx_X12_laysFit) 151 = .ok (.goto (-140), 3) := by decide +kernel
theorem dx_X12_laysFit_154 : decode (go_cc mx_X12_laysFit) 154 = .ok (.return_, 1) := by decide +kernel
theorem dx_X12_laysTrees_0 : decode (go_cc mx_X12_laysTrees) 0 = .ok (.aload_n 0, 1) := by decide +kernel
theorem dx_X12_laysTrees_1 : decode (go_cc mx_X12_laysTrees) 1 = .ok (.invokevirtual 265, 3) := by decide +kernel
theorem dx_X12_laysTrees_4 : decode (go_cc mx_X12_laysTrees) 4 = .ok (.iconst 1, 1) := by decide +kernel
theorem dx_X12_laysTrees_5 : decode (go_cc mx_X12_laysTrees) 5 = .ok (.istore_n 1, 1) := by decide +kernel
theorem dx_X12_laysTrees_6 : decode (go_cc mx_X12_laysTrees) 6 = .ok (.iload_n 1, 1) := by decide +kernel
theorem dx_X12_laysTrees_7 : decode (go_cc mx_X12_laysTrees) 7 = .ok (.aload_n 0, 1) := by decide +kernel
theorem dx_X12_laysTrees_8 : decode (go_cc mx_X12_laysTrees) 8 = .ok (.invokevirtual 253, 3) := by decide +kernel
theorem dx_X12_laysTrees_11 : decode (go_cc mx_X12_laysTrees) 11 = .ok (.if_icmp .gt 212, 3) := by decide +kernel
theorem dx_X12_laysTrees_14 : decode (go_cc mx_X12_laysTrees) 14 = .ok (.iconst 0, 1) := by decide +kernel
theorem dx_X12_laysTrees_15 : decode (go_cc mx_X12_laysTrees) 15 = .ok (.istore_n 2, 1) := by decide +kernel
theorem dx_X12_laysTrees_16 : decode (go_cc mx_X12_laysTrees) 16 = .ok (.iload_n 2, 1) := by decide +kernel
theorem dx_X12_laysTrees_17 : decode (go_cc mx_X12_laysTrees) 17 = .ok (.iload_n 1, 1) := by decide +kernel
theorem dx_X12_laysTrees_18 : decode (go_cc mx_X12_laysTrees) 18 = .ok (.iadd, 1) := by decide +kernel
theorem dx_X12_laysTrees_19 : decode (go_cc mx_X12_laysTrees) 19 = .ok (.aload_n 0, 1) := by decide +kernel
theorem dx_X12_laysTrees_20 : decode (go_cc mx_X12_laysTrees) 20 = .ok (.invokevirtual 253, 3) := by decide +kernel
theorem dx_X12_laysTrees_23 : decode (go_cc mx_X12_laysTrees) 23 = .ok (.if_icmp .gt 194, 3) := by decide +kernel
theorem dx_X12_laysTrees_26 : decode (go_cc mx_X12_laysTrees) 26 = .ok (.bipush 16, 2) := by decide +kernel
theorem dx_X12_laysTrees_28 : decode (go_cc mx_X12_laysTrees) 28 = .ok (.iload_n 2, 1) := by decide +kernel
theorem dx_X12_laysTrees_29 : decode (go_cc mx_X12_laysTrees) 29 = .ok (.imul, 1) := by decide +kernel
theorem dx_X12_laysTrees_30 : decode (go_cc mx_X12_laysTrees) 30 = .ok (.iload_n 2, 1) := by decide +kernel
theorem dx_X12_laysTrees_31 : decode (go_cc mx_X12_laysTrees) 31 = .ok (.iadd, 1) := by decide +kernel
theorem dx_X12_laysTrees_32 : decode (go_cc mx_X12_laysTrees) 32 = .ok (.iload_n 1, 1) := by decide +kernel
theorem dx_X12_laysTrees_33 : decode (go_cc mx_X12_laysTrees) 33 = .ok (.iadd, 1) := by decide +kernel
theorem dx_X12_laysTrees_34 : decode (go_cc mx_X12_laysTrees) 34 = .ok (.istore_n 3, 1) := by decide +kernel
theorem dx_X12_laysTrees_35 : decode (go_cc mx_X12_laysTrees) 35 = .ok (.iconst 0, 1) := by decide +kernel
theorem dx_X12_laysTrees_36 : decode (go_cc mx_X12_laysTrees) 36 = .ok (.istore 4, 2) := by decide +kernel
theorem dx_X12_laysTrees_38 : decode (go_cc mx_X12_laysTrees) 38 = .ok (.iload 4, 2) := by decide +kernel
theorem dx_X12_laysTrees_40 : decode (go_cc mx_X12_laysTrees) 40 = .ok (.bipush 8, 2) := by decide +kernel
theorem dx_X12_laysTrees_42 : decode (go_cc mx_X12_laysTrees) 42 = .ok (.if_icmp .ge 23, 3) := by decide +kernel
theorem dx_X12_laysTrees_45 : decode (go_cc mx_X12_laysTrees) 45 = .ok (.aload_n 0, 1) := by decide +kernel
theorem dx_X12_laysTrees_46 : decode (go_cc mx_X12_laysTrees) 46 = .ok (.getfield 61, 3) := by decide +kernel
theorem dx_X12_laysTrees_49 : decode (go_cc mx_X12_laysTrees) 49 = .ok (.sipush 256, 3) := by decide +kernel
theorem dx_X12_laysTrees_52 : decode (go_cc mx_X12_laysTrees) 52 = .ok (.iload 4, 2) := by decide +kernel
theorem dx_X12_laysTrees_54 : decode (go_cc mx_X12_laysTrees) 54 = .ok (.imul, 1) := by decide +kernel
theorem dx_X12_laysTrees_55 : decode (go_cc mx_X12_laysTrees) 55 = .ok (.iload_n 3, 1) := by decide +kernel
theorem dx_X12_laysTrees_56 : decode (go_cc mx_X12_laysTrees) 56 = .ok (.iadd, 1) := by decide +kernel
theorem dx_X12_laysTrees_57 : decode (go_cc mx_X12_laysTrees) 57 = .ok (.lconst 0, 1) := by decide +kernel
theorem dx_X12_laysTrees_58 : decode (go_cc mx_X12_laysTrees) 58 = .ok (.lastore, 1) := by decide +kernel
theorem dx_X12_laysTrees_59 : decode (go_cc mx_X12_laysTrees) 59 = .ok (.iinc 4 1, 3) := by decide +kernel
theorem dx_X12_laysTrees_62 : decode (go_cc mx_X12_laysTrees) 62 = .ok (.goto (-24), 3) := by decide +kernel
theorem dx_X12_laysTrees_65 : decode (go_cc mx_X12_laysTrees) 65 = .ok (.iconst 0, 1) := by decide +kernel
theorem dx_X12_laysTrees_66 : decode (go_cc mx_X12_laysTrees) 66 = .ok (.istore 4, 2) := by decide +kernel
theorem dx_X12_laysTrees_68 : decode (go_cc mx_X12_laysTrees) 68 = .ok (.iload 4, 2) := by decide +kernel
theorem dx_X12_laysTrees_70 : decode (go_cc mx_X12_laysTrees) 70 = .ok (.bipush 16, 2) := by decide +kernel
theorem dx_X12_laysTrees_72 : decode (go_cc mx_X12_laysTrees) 72 = .ok (.if_icmp .ge 91, 3) := by decide +kernel
theorem dx_X12_laysTrees_75 : decode (go_cc mx_X12_laysTrees) 75 = .ok (.aload_n 0, 1) := by decide +kernel
theorem dx_X12_laysTrees_76 : decode (go_cc mx_X12_laysTrees) 76 = .ok (.iload 4, 2) := by decide +kernel
theorem dx_X12_laysTrees_78 : decode (go_cc mx_X12_laysTrees) 78 = .ok (.invokevirtual 148, 3) := by decide +kernel
theorem dx_X12_laysTrees_81 : decode (go_cc mx_X12_laysTrees) 81 = .ok (.ifCond .eq 76, 3) := by decide +kernel
theorem dx_X12_laysTrees_84 : decode (go_cc mx_X12_laysTrees) 84 = .ok (.aload_n 0, 1) := by decide +kernel
theorem dx_X12_laysTrees_85 : decode (go_cc mx_X12_laysTrees) 85 = .ok (.iload 4, 2) := by decide +kernel
theorem dx_X12_laysTrees_87 : decode (go_cc mx_X12_laysTrees) 87 = .ok (.invokevirtual 148, 3) := by decide +kernel
theorem dx_X12_laysTrees_90 : decode (go_cc mx_X12_laysTrees) 90 = .ok (.iconst 1, 1) := by decide +kernel
theorem dx_X12_laysTrees_91 : decode (go_cc mx_X12_laysTrees) 91 = .ok (.if_icmp .ne 19, 3) := by decide +kernel
theorem dx_X12_laysTrees_94 : decode (go_cc mx_X12_laysTrees) 94 = .ok (.aload_n 0, 1) := by decide +kernel
theorem dx_X12_laysTrees_95 : decode (go_cc mx_X12_laysTrees) 95 = .ok (.iload 4, 2) := by decide +kernel
theorem dx_X12_laysTrees_97 : decode (go_cc mx_X12_laysTrees) 97 = .ok (.iconst 0, 1) := by decide +kernel
theorem dx_X12_laysTrees_98 : decode (go_cc mx_X12_laysTrees) 98 = .ok (.invokevirtual 190, 3) := by decide +kernel
theorem dx_X12_laysTrees_101 : decode (go_cc mx_X12_laysTrees) 101 = .ok (.invokestatic 212, 3) := by decide +kernel
theorem dx_X12_laysTrees_104 : decode (go_cc mx_X12_laysTrees) 104 = .ok (.ifCond .eq 6, 3) := by decide +kernel
theorem dx_X12_laysTrees_107 : decode (go_cc mx_X12_laysTrees) 107 = .ok (.goto 50, 3) := by decide +kernel
theorem dx_X12_laysTrees_110 : decode (go_cc mx_X12_laysTrees) 110 = .ok (.aload_n 0, 1) := by decide +kernel
theorem dx_X12_laysTrees_111 : decode (go_cc mx_X12_laysTrees) 111 = .ok (.iload 4, 2) := by decide +kernel
theorem dx_X12_laysTrees_113 : decode (go_cc mx_X12_laysTrees) 113 = .ok (.iload_n 2, 1) := by decide +kernel
theorem dx_X12_laysTrees_114 : decode (go_cc mx_X12_laysTrees) 114 = .ok (.iload_n 2, 1) := by decide +kernel
theorem dx_X12_laysTrees_115 : decode (go_cc mx_X12_laysTrees) 115 = .ok (.iload_n 1, 1) := by decide +kernel
theorem dx_X12_laysTrees_116 : decode (go_cc mx_X12_laysTrees) 116 = .ok (.iadd, 1) := by decide +kernel
theorem dx_X12_laysTrees_117 : decode (go_cc mx_X12_laysTrees) 117 = .ok (.invokevirtual 307, 3) := by decide +kernel
theorem dx_X12_laysTrees_120 : decode (go_cc mx_X12_laysTrees) 120 = .ok (.sipush 256, 3) := by decide +kernel
theorem dx_X12_laysTrees_123 : decode (go_cc mx_X12_laysTrees) 123 = .ok (.aload_n 0, 1) := by decide +kernel
theorem dx_X12_laysTrees_124 : decode (go_cc mx_X12_laysTrees) 124 = .ok (.iload 4, 2) := by decide +kernel
theorem dx_X12_laysTrees_126 : decode (go_cc mx_X12_laysTrees) 126 = .ok (.invokevirtual 184, 3) := by decide +kernel
theorem dx_X12_laysTrees_129 : decode (go_cc mx_X12_laysTrees) 129 = .ok (.imul, 1) := by decide +kernel
theorem dx_X12_laysTrees_130 : decode (go_cc mx_X12_laysTrees) 130 = .ok (.iload_n 3, 1) := by decide +kernel
theorem dx_X12_laysTrees_131 : decode (go_cc mx_X12_laysTrees) 131 = .ok (.iadd, 1) := by decide +kernel
theorem dx_X12_laysTrees_132 : decode (go_cc mx_X12_laysTrees) 132 = .ok (.istore 5, 2) := by decide +kernel
theorem dx_X12_laysTrees_134 : decode (go_cc mx_X12_laysTrees) 134 = .ok (.aload_n 0, 1) := by decide +kernel
theorem dx_X12_laysTrees_135 : decode (go_cc mx_X12_laysTrees) 135 = .ok (.getfield 61, 3) := by decide +kernel
theorem dx_X12_laysTrees_138 : decode (go_cc mx_X12_laysTrees) 138 = .ok (.iload 5, 2) := by decide +kernel
theorem dx_X12_laysTrees_140 : decode (go_cc mx_X12_laysTrees) 140 = .ok (.aload_n 0, 1) := by decide +kernel
theorem dx_X12_laysTrees_141 : decode (go_cc mx_X12_laysTrees) 141 = .ok (.getfield 61, 3) := by decide +kernel
theorem dx_X12_laysTrees_144 : decode (go_cc mx_X12_laysTrees) 144 = .ok (.iload 5, 2) := by decide +kernel
theorem dx_X12_laysTrees_146 : decode (go_cc mx_X12_laysTrees) 146 = .ok (.laload, 1) := by decide +kernel
theorem dx_X12_laysTrees_147 : decode (go_cc mx_X12_laysTrees) 147 = .ok (.aload_n 0, 1) := by decide +kernel
theorem dx_X12_laysTrees_148 : decode (go_cc mx_X12_laysTrees) 148 = .ok (.getfield 67, 3) := by decide +kernel
theorem dx_X12_laysTrees_151 : decode (go_cc mx_X12_laysTrees) 151 = .ok (.iload_n 2, 1) := by decide +kernel
theorem dx_X12_laysTrees_152 : decode (go_cc mx_X12_laysTrees) 152 = .ok (.laload, 1) := by decide +kernel
theorem dx_X12_laysTrees_153 : decode (go_cc mx_X12_laysTrees) 153 = .ok (.invokestatic 300, 3) := by decide +kernel
theorem dx_X12_laysTrees_156 : decode (go_cc mx_X12_laysTrees) 156 = .ok (.lastore, 1) := by decide +kernel
theorem dx_X12_laysTrees_157 : decode (go_cc mx_X12_laysTrees) 157 = .ok (.iinc 4 1, 3) := by decide +kernel
theorem dx_X12_laysTrees_160 : decode (go_cc mx_X12_laysTrees) 160 = .ok (.goto (-92), 3) := by decide +kernel
theorem dx_X12_laysTrees_163 : decode (go_cc mx_X12_laysTrees) 163 = .ok (.iconst 0, 1) := by decide +kernel
theorem dx_X12_laysTrees_164 : decode (go_cc mx_X12_laysTrees) 164 = .ok (.istore 4, 2) := by decide +kernel
theorem dx_X12_laysTrees_166 : decode (go_cc mx_X12_laysTrees) 166 = .ok (.iload 4, 2) := by decide +kernel
theorem dx_X12_laysTrees_168 : decode (go_cc mx_X12_laysTrees) 168 = .ok (.bipush 8, 2) := by decide +kernel
theorem dx_X12_laysTrees_170 : decode (go_cc mx_X12_laysTrees) 170 = .ok (.if_icmp .ge 41, 3) := by decide +kernel
theorem dx_X12_laysTrees_173 : decode (go_cc mx_X12_laysTrees) 173 = .ok (.aload_n 0, 1) := by decide +kernel
theorem dx_X12_laysTrees_174 : decode (go_cc mx_X12_laysTrees) 174 = .ok (.iload 4, 2) := by decide +kernel
theorem dx_X12_laysTrees_176 : decode (go_cc mx_X12_laysTrees) 176 = .ok (.iconst 0, 1) := by decide +kernel
theorem dx_X12_laysTrees_177 : decode (go_cc mx_X12_laysTrees) 177 = .ok (.invokevirtual 311, 3) := by decide +kernel
theorem dx_X12_laysTrees_180 : decode (go_cc mx_X12_laysTrees) 180 = .ok (.aload_n 0, 1) := by decide +kernel
theorem dx_X12_laysTrees_181 : decode (go_cc mx_X12_laysTrees) 181 = .ok (.getfield 64, 3) := by decide +kernel
theorem dx_X12_laysTrees_184 : decode (go_cc mx_X12_laysTrees) 184 = .ok (.sipush 256, 3) := by decide +kernel
theorem dx_X12_laysTrees_187 : decode (go_cc mx_X12_laysTrees) 187 = .ok (.iload 4, 2) := by decide +kernel
theorem dx_X12_laysTrees_189 : decode (go_cc mx_X12_laysTrees) 189 = .ok (.imul, 1) := by decide +kernel
theorem dx_X12_laysTrees_190 : decode (go_cc mx_X12_laysTrees) 190 = .ok (.iload_n 3, 1) := by decide +kernel
theorem dx_X12_laysTrees_191 : decode (go_cc mx_X12_laysTrees) 191 = .ok (.iadd, 1) := by decide +kernel
theorem dx_X12_laysTrees_192 : decode (go_cc mx_X12_laysTrees) 192 = .ok (.aload_n 0, 1) := by decide +kernel
theorem dx_X12_laysTrees_193 : decode (go_cc mx_X12_laysTrees) 193 = .ok (.aload_n 0, 1) := by decide +kernel
theorem dx_X12_laysTrees_194 : decode (go_cc mx_X12_laysTrees) 194 = .ok (.getfield 61, 3) := by decide +kernel
theorem dx_X12_laysTrees_197 : decode (go_cc mx_X12_laysTrees) 197 = .ok (.iload_n 3, 1) := by decide +kernel
theorem dx_X12_laysTrees_198 : decode (go_cc mx_X12_laysTrees) 198 = .ok (.sipush 256, 3) := by decide +kernel
theorem dx_X12_laysTrees_201 : decode (go_cc mx_X12_laysTrees) 201 = .ok (.invokevirtual 315, 3) := by decide +kernel
theorem dx_X12_laysTrees_204 : decode (go_cc mx_X12_laysTrees) 204 = .ok (.lastore, 1) := by decide +kernel
theorem dx_X12_laysTrees_205 : decode (go_cc mx_X12_laysTrees) 205 = .ok (.iinc 4 1, 3) := by decide +kernel
theorem dx_X12_laysTrees_208 : decode (go_cc mx_X12_laysTrees) 208 = .ok (.goto (-42), 3) := by decide +kernel
theorem dx_X12_laysTrees_211 : decode (go_cc mx_X12_laysTrees) 211 = .ok (.iinc 2 1, 3) := by decide +kernel
theorem dx_X12_laysTrees_214 : decode (go_cc mx_X12_laysTrees) 214 = .ok (.goto (-198), 3) := by decide +kernel
theorem dx_X12_laysTrees_217 : decode (go_cc mx_X12_laysTrees) 217 = .ok (.iinc 1 1, 3) := by decide +kernel
theorem dx_X12_laysTrees_220 : decode (go_cc mx_X12_laysTrees) 220 = .ok (.goto (-214), 3) := by decide +kernel
theorem dx_X12_laysTrees_223 : decode (go_cc mx_X12_laysTrees) 223 = .ok (.return_, 1) := by decide +kernel
theorem dx_X12_trees_0 : decode (go_cc mx_X12_trees) 0 = .ok (.aload_n 0, 1) := by decide +kernel
theorem dx_X12_trees_1 : decode (go_cc mx_X12_trees) 1 = .ok (.iconst 0, 1) := by decide +kernel
theorem dx_X12_trees_2 : decode (go_cc mx_X12_trees) 2 = .ok (.putfield 139, 3) := by decide +kernel
theorem dx_X12_trees_5 : decode (go_cc mx_X12_trees) 5 = .ok (.iload_n 1, 1) := by decide +kernel
theorem dx_X12_trees_6 : decode (go_cc mx_X12_trees) 6 = .ok (.invokestatic 212, 3) := by decide +kernel
theorem dx_X12_trees_9 : decode (go_cc mx_X12_trees) 9 = .ok (.ifCond .eq 12, 3) := by decide +kernel
theorem dx_X12_trees_12 : decode (go_cc mx_X12_trees) 12 = .ok (.aload_n 0, 1) := by decide +kernel
theorem dx_X12_trees_13 : decode (go_cc mx_X12_trees) 13 = .ok (.iload_n 2, 1) := by decide +kernel
theorem dx_X12_trees_14 : decode (go_cc mx_X12_trees) 14 = .ok (.iload_n 3, 1) := by decide +kernel
theorem dx_X12_trees_15 : decode (go_cc mx_X12_trees) 15 = .ok (.invokevirtual 260, 3) := by decide +kernel
theorem dx_X12_trees_18 : decode (go_cc mx_X12_trees) 18 = .ok (.ifCond .ne 7, 3) := by decide +kernel
theorem dx_X12_trees_21 : decode (go_cc mx_X12_trees) 21 = .ok (.ldc2_w 263, 3) := by decide +kernel
theorem dx_X12_trees_24 : decode (go_cc mx_X12_trees) 24 = .ok (.lreturn, 1) := by decide +kernel
theorem dx_X12_trees_25 : decode (go_cc mx_X12_trees) 25 = .ok (.aload_n 0, 1) := by decide +kernel
theorem dx_X12_trees_26 : decode (go_cc mx_X12_trees) 26 = .ok (.invokevirtual 319, 3) := by decide +kernel
theorem dx_X12_trees_29 : decode (go_cc mx_X12_trees) 29 = .ok (.aload_n 0, 1) := by decide +kernel
theorem dx_X12_trees_30 : decode (go_cc mx_X12_trees) 30 = .ok (.getfield 64, 3) := by decide +kernel
theorem dx_X12_trees_33 : decode (go_cc mx_X12_trees) 33 = .ok (.sipush 256, 3) := by decide +kernel
theorem dx_X12_trees_36 : decode (go_cc mx_X12_trees) 36 = .ok (.iload_n 1, 1) := by decide +kernel
theorem dx_X12_trees_37 : decode (go_cc mx_X12_trees) 37 = .ok (.imul, 1) := by decide +kernel
theorem dx_X12_trees_38 : decode (go_cc mx_X12_trees) 38 = .ok (.bipush 16, 2) := by decide +kernel
theorem dx_X12_trees_40 : decode (go_cc mx_X12_trees) 40 = .ok (.iload_n 2, 1) := by decide +kernel
theorem dx_X12_trees_41 : decode (go_cc mx_X12_trees) 41 = .ok (.imul, 1) := by decide +kernel
theorem dx_X12_trees_42 : decode (go_cc mx_X12_trees) 42 = .ok (.iadd, 1) := by decide +kernel
theorem dx_X12_trees_43 : decode (go_cc mx_X12_trees) 43 = .ok (.iload_n 3, 1) := by decide +kernel
theorem dx_X12_trees_44 : decode (go_cc mx_X12_trees) 44 = .ok (.iadd, 1) := by decide +kernel
theorem dx_X12_trees_45 : decode (go_cc mx_X12_trees) 45 = .ok (.laload, 1) := by decide +kernel
theorem dx_X12_trees_46 : decode (go_cc mx_X12_trees) 46 = .ok (.lreturn, 1) := by decide +kernel
theorem dx_X12_doubtful_0 : decode (go_cc mx_X12_doubtful) 0 = .ok (.aload_n 0, 1) := by decide +kernel
theorem dx_X12_doubtful_1 : decode (go_cc mx_X12_doubtful) 1 = .ok (.iconst 0, 1) := by decide +kernel
theorem dx_X12_doubtful_2 : decode (go_cc mx_X12_doubtful) 2 = .ok (.putfield 139, 3) := by decide +kernel
theorem dx_X12_doubtful_5 : decode (go_cc mx_X12_doubtful) 5 = .ok (.iload_n 1, 1) := by decide +kernel
theorem dx_X12_doubtful_6 : decode (go_cc mx_X12_doubtful) 6 = .ok (.i2l, 1) := by decide +kernel
theorem dx_X12_doubtful_7 : decode (go_cc mx_X12_doubtful) 7 = .ok (.lconst 0, 1) := by decide +kernel
theorem dx_X12_doubtful_8 : decode (go_cc mx_X12_doubtful) 8 = .ok (.ldc2_w 286, 3) := by decide +kernel
theorem dx_X12_doubtful_11 : decode (go_cc mx_X12_doubtful) 11 = .ok (.invokestatic 144, 3) := by decide +kernel
theorem dx_X12_doubtful_14 : decode (go_cc mx_X12_doubtful) 14 = .ok (.ifCond .ne 6, 3) := by decide +kernel
theorem dx_X12_doubtful_17 : decode (go_cc mx_X12_doubtful) 17 = .ok (.bipush (-2), 2) := by decide +kernel
theorem dx_X12_doubtful_19 : decode (go_cc mx_X12_doubtful) 19 = .ok (.ireturn, 1) := by decide +kernel
theorem dx_X12_doubtful_20 : decode (go_cc mx_X12_doubtful) 20 = .ok (.aload_n 0, 1) := by decide +kernel
theorem dx_X12_doubtful_21 : decode (go_cc mx_X12_doubtful) 21 = .ok (.invokevirtual 319, 3) := by decide +kernel
theorem dx_X12_doubtful_24 : decode (go_cc mx_X12_doubtful) 24 = .ok (.iconst (-1), 1) := by decide +kernel
theorem dx_X12_doubtful_25 : decode (go_cc mx_X12_doubtful) 25 = .ok (.istore_n 2, 1) := by decide +kernel
theorem dx_X12_doubtful_26 : decode (go_cc mx_X12_doubtful) 26 = .ok (.iconst 0, 1) := by decide +kernel
theorem dx_X12_doubtful_27 : decode (go_cc mx_X12_doubtful) 27 = .ok (.istore_n 3, 1) := by decide +kernel
theorem dx_X12_doubtful_28 : decode (go_cc mx_X12_doubtful) 28 = .ok (.iconst 1, 1) := by decide +kernel
theorem dx_X12_doubtful_29 : decode (go_cc mx_X12_doubtful) 29 = .ok (.istore 4, 2) := by decide +kernel
theorem dx_X12_doubtful_31 : decode (go_cc mx_X12_doubtful) 31 = .ok (.iload 4, 2) := by decide +kernel
theorem dx_X12_doubtful_33 : decode (go_cc mx_X12_doubtful) 33 = .ok (.aload_n 0, 1) := by decide +kernel
theorem dx_X12_doubtful_34 : decode (go_cc mx_X12_doubtful) 34 = .ok (.invokevirtual 253, 3) := by decide +kernel
theorem dx_X12_doubtful_37 : decode (go_cc mx_X12_doubtful) 37 = .ok (.if_icmp .gt 130, 3) := by decide +kernel
theorem dx_X12_doubtful_40 : decode (go_cc mx_X12_doubtful) 40 = .ok (.iconst 0, 1) := by decide +kernel
theorem dx_X12_doubtful_41 : decode (go_cc mx_X12_doubtful) 41 = .ok (.istore 5, 2) := by decide +kernel
theorem dx_X12_doubtful_43 : decode (go_cc mx_X12_doubtful) 43 = .ok (.iload 5, 2) := by decide +kernel
theorem dx_X12_doubtful_45 : decode (go_cc mx_X12_doubtful) 45 = .ok (.iload 4, 2) := by decide +kernel
theorem dx_X12_doubtful_47 : decode (go_cc mx_X12_doubtful) 47 = .ok (.iadd, 1) := by decide +kernel
theorem dx_X12_doubtful_48 : decode (go_cc mx_X12_doubtful) 48 = .ok (.aload_n 0, 1) := by decide +kernel
theorem dx_X12_doubtful_49 : decode (go_cc mx_X12_doubtful) 49 = .ok (.invokevirtual 253, 3) := by decide +kernel
theorem dx_X12_doubtful_52 : decode (go_cc mx_X12_doubtful) 52 = .ok (.if_icmp .gt 109, 3) := by decide +kernel
theorem dx_X12_doubtful_55 : decode (go_cc mx_X12_doubtful) 55 = .ok (.iconst 0, 1) := by decide +kernel
theorem dx_X12_doubtful_56 : decode (go_cc mx_X12_doubtful) 56 = .ok (.istore 6, 2) := by decide +kernel
theorem dx_X12_doubtful_58 : decode (go_cc mx_X12_doubtful) 58 = .ok (.iload 6, 2) := by decide +kernel
theorem dx_X12_doubtful_60 : decode (go_cc mx_X12_doubtful) 60 = .ok (.bipush 8, 2) := by decide +kernel
theorem dx_X12_doubtful_62 : decode (go_cc mx_X12_doubtful) 62 = .ok (.if_icmp .ge 93, 3) := by decide +kernel
theorem dx_X12_doubtful_65 : decode (go_cc mx_X12_doubtful) 65 = .ok (.aload_n 0, 1) := by decide +kernel
theorem dx_X12_doubtful_66 : decode (go_cc mx_X12_doubtful) 66 = .ok (.getfield 64, 3) := by decide +kernel
theorem dx_X12_doubtful_69 : decode (go_cc mx_X12_doubtful) 69 = .ok (.sipush 256, 3) := by decide +kernel
theorem dx_X12_doubtful_72 : decode (go_cc mx_X12_doubtful) 72 = .ok (.iload 6, 2) := by decide +kernel
theorem dx_X12_doubtful_74 : decode (go_cc mx_X12_doubtful) 74 = .ok (.imul, 1) := by decide +kernel
theorem dx_X12_doubtful_75 : decode (go_cc mx_X12_doubtful) 75 = .ok (.bipush 16, 2) := by decide +kernel
theorem dx_X12_doubtful_77 : decode (go_cc mx_X12_doubtful) 77 = .ok (.iload 5, 2) := by decide +kernel
theorem dx_X12_doubtful_79 : decode (go_cc mx_X12_doubtful) 79 = .ok (.imul, 1) := by decide +kernel
theorem dx_X12_doubtful_80 : decode (go_cc mx_X12_doubtful) 80 = .ok (.iadd, 1) := by decide +kernel
theorem dx_X12_doubtful_81 : decode (go_cc mx_X12_doubtful) 81 = .ok (.iload 5, 2) := by decide +kernel
theorem dx_X12_doubtful_83 : decode (go_cc mx_X12_doubtful) 83 = .ok (.iadd, 1) := by decide +kernel
theorem dx_X12_doubtful_84 : decode (go_cc mx_X12_doubtful) 84 = .ok (.iload 4, 2) := by decide +kernel
theorem dx_X12_doubtful_86 : decode (go_cc mx_X12_doubtful) 86 = .ok (.iadd, 1) := by decide +kernel
theorem dx_X12_doubtful_87 : decode (go_cc mx_X12_doubtful) 87 = .ok (.laload, 1) := by decide +kernel
theorem dx_X12_doubtful_88 : decode (go_cc mx_X12_doubtful) 88 = .ok (.lstore 7, 2) := by decide +kernel
theorem dx_X12_doubtful_90 : decode (go_cc mx_X12_doubtful) 90 = .ok (.iload_n 3, 1) := by decide +kernel
theorem dx_X12_doubtful_91 : decode (go_cc mx_X12_doubtful) 91 = .ok (.lload 7, 2) := by decide +kernel
theorem dx_X12_doubtful_93 : decode (go_cc mx_X12_doubtful) 93 = .ok (.ldc2_w 288, 3) := by decide +kernel
theorem dx_X12_doubtful_96 : decode (go_cc mx_X12_doubtful) 96 = .ok (.lcmp, 1) := by decide +kernel
theorem dx_X12_doubtful_97 : decode (go_cc mx_X12_doubtful) 97 = .ok (.ifCond .ne 7, 3) := by decide +kernel
theorem dx_X12_doubtful_100 : decode (go_cc mx_X12_doubtful) 100 = .ok (.iconst 1, 1) := by decide +kernel
theorem dx_X12_doubtful_101 : decode (go_cc mx_X12_doubtful) 101 = .ok (.goto 4, 3) := by decide +kernel
theorem dx_X12_doubtful_104 : decode (go_cc mx_X12_doubtful) 104 = .ok (.iconst 0, 1) := by decide +kernel
theorem dx_X12_doubtful_105 : decode (go_cc mx_X12_doubtful) 105 = .ok (.ior, 1) := by decide +kernel
theorem dx_X12_doubtful_106 : decode (go_cc mx_X12_doubtful) 106 = .ok (.istore_n 3, 1) := by decide +kernel
theorem dx_X12_doubtful_107 : decode (go_cc mx_X12_doubtful) 107 = .ok (.lload 7, 2) := by decide +kernel
theorem dx_X12_doubtful_109 : decode (go_cc mx_X12_doubtful) 109 = .ok (.ldc2_w 286, 3) := by decide +kernel
theorem dx_X12_doubtful_112 : decode (go_cc mx_X12_doubtful) 112 = .ok (.lcmp, 1) := by decide +kernel
theorem dx_X12_doubtful_113 : decode (go_cc mx_X12_doubtful) 113 = .ok (.ifCond .lt 36, 3) := by decide +kernel
theorem dx_X12_doubtful_116 : decode (go_cc mx_X12_doubtful) 116 = .ok (.iload_n 2, 1) := by decide +kernel
theorem dx_X12_doubtful_117 : decode (go_cc mx_X12_doubtful) 117 = .ok (.iconst (-1), 1) := by decide +kernel
theorem dx_X12_doubtful_118 : decode (go_cc mx_X12_doubtful) 118 = .ok (.if_icmp .eq 6, 3) := by decide +kernel
theorem dx_X12_doubtful_121 : decode (go_cc mx_X12_doubtful) 121 = .ok (.goto 28, 3) := by decide +kernel
theorem dx_X12_doubtful_124 : decode (go_cc mx_X12_doubtful) 124 = .ok (.iload_n 1, 1) := by decide +kernel
theorem dx_X12_doubtful_125 : decode (go_cc mx_X12_doubtful) 125 = .ok (.ifCond .ne 8, 3) := by decide +kernel
theorem dx_X12_doubtful_128 : decode (go_cc mx_X12_doubtful) 128 = .ok (.iload 6, 2) := by decide +kernel
theorem dx_X12_doubtful_130 : decode (go_cc mx_X12_doubtful) 130 = .ok (.goto 18, 3) := by decide +kernel
theorem dx_X12_doubtful_133 : decode (go_cc mx_X12_doubtful) 133 = .ok (.iload_n 1, 1) := by decide +kernel
theorem dx_X12_doubtful_134 : decode (go_cc mx_X12_doubtful) 134 = .ok (.iconst 1, 1) := by decide +kernel
theorem dx_X12_doubtful_135 : decode (go_cc mx_X12_doubtful) 135 = .ok (.if_icmp .ne 8, 3) := by decide +kernel
theorem dx_X12_doubtful_138 : decode (go_cc mx_X12_doubtful) 138 = .ok (.iload 5, 2) := by decide +kernel
theorem dx_X12_doubtful_140 : decode (go_cc mx_X12_doubtful) 140 = .ok (.goto 8, 3) := by decide +kernel
theorem dx_X12_doubtful_143 : decode (go_cc mx_X12_doubtful) 143 = .ok (.iload 5, 2) := by decide +kernel
theorem dx_X12_doubtful_145 : decode (go_cc mx_X12_doubtful) 145 = .ok (.iload 4, 2) := by decide +kernel
theorem dx_X12_doubtful_147 : decode (go_cc mx_X12_doubtful) 147 = .ok (.iadd, 1) := by decide +kernel
theorem dx_X12_doubtful_148 : decode (go_cc mx_X12_doubtful) 148 = .ok (.istore_n 2, 1) := by decide +kernel
theorem dx_X12_doubtful_149 : decode (go_cc mx_X12_doubtful) 149 = .ok (.iinc 6 1, 3) := by decide +kernel
theorem dx_X12_doubtful_152 : decode (go_cc mx_X12_doubtful) 152 = .ok (.goto (-94), 3) := by decide +kernel
theorem dx_X12_doubtful_155 : decode (go_cc mx_X12_doubtful) 155 = .ok (.iinc 5 1, 3) := by decide +kernel
theorem dx_X12_doubtful_158 : decode (go_cc mx_X12_doubtful) 158 = .ok (.goto (-115), 3) := by decide +kernel
theorem dx_X12_doubtful_161 : decode (go_cc mx_X12_doubtful) 161 = .ok (.iinc 4 1, 3) := by decide +kernel
theorem dx_X12_doubtful_164 : decode (go_cc mx_X12_doubtful) 164 = .ok (.goto (-133), 3) := by decide +kernel
theorem dx_X12_doubtful_167 : decode (go_cc mx_X12_doubtful) 167 = .ok (.iload_n 3, 1) := by decide +kernel
theorem dx_X12_doubtful_168 : decode (go_cc mx_X12_doubtful) 168 = .ok (.ifCond .eq 8, 3) := by decide +kernel
theorem dx_X12_doubtful_171 : decode (go_cc mx_X12_doubtful) 171 = .ok (.bipush (-7), 2) := by decide +kernel
theorem dx_X12_doubtful_173 : decode (go_cc mx_X12_doubtful) 173 = .ok (.goto 4, 3) := by decide +kernel
theorem dx_X12_doubtful_176 : decode (go_cc mx_X12_doubtful) 176 = .ok (.iload_n 2, 1) := by decide +kernel
theorem dx_X12_doubtful_177 : decode (go_cc mx_X12_doubtful) 177 = .ok (.ireturn, 1) := by decide +kernel
theorem dx_X12_derivedMany_0 : decode (go_cc mx_X12_derivedMany) 0 = .ok (.iconst 0, 1) := by decide +kernel
theorem dx_X12_derivedMany_1 : decode (go_cc mx_X12_derivedMany) 1 = .ok (.istore_n 1, 1) := by decide +kernel
theorem dx_X12_derivedMany_2 : decode (go_cc mx_X12_derivedMany) 2 = .ok (.iconst 0, 1) := by decide +kernel
theorem dx_X12_derivedMany_3 : decode (go_cc mx_X12_derivedMany) 3 = .ok (.istore_n 2, 1) := by decide +kernel
theorem dx_X12_derivedMany_4 : decode (go_cc mx_X12_derivedMany) 4 = .ok (.iload_n 2, 1) := by decide +kernel
theorem dx_X12_derivedMany_5 : decode (go_cc mx_X12_derivedMany) 5 = .ok (.aload_n 0, 1) := by decide +kernel
theorem dx_X12_derivedMany_6 : decode (go_cc mx_X12_derivedMany) 6 = .ok (.invokevirtual 253, 3) := by decide +kernel
theorem dx_X12_derivedMany_9 : decode (go_cc mx_X12_derivedMany) 9 = .ok (.if_icmp .ge 62, 3) := by decide +kernel
theorem dx_X12_derivedMany_12 : decode (go_cc mx_X12_derivedMany) 12 = .ok (.iload_n 2, 1) := by decide +kernel
theorem dx_X12_derivedMany_13 : decode (go_cc mx_X12_derivedMany) 13 = .ok (.iconst 1, 1) := by decide +kernel
theorem dx_X12_derivedMany_14 : decode (go_cc mx_X12_derivedMany) 14 = .ok (.iadd, 1) := by decide +kernel
theorem dx_X12_derivedMany_15 : decode (go_cc mx_X12_derivedMany) 15 = .ok (.istore_n 3, 1) := by decide +kernel
theorem dx_X12_derivedMany_16 : decode (go_cc mx_X12_derivedMany) 16 = .ok (.iload_n 3, 1) := by decide +kernel
theorem dx_X12_derivedMany_17 : decode (go_cc mx_X12_derivedMany) 17 = .ok (.aload_n 0, 1) := by decide +kernel
theorem dx_X12_derivedMany_18 : decode (go_cc mx_X12_derivedMany) 18 = .ok (.invokevirtual 253, 3) := by decide +kernel
theorem dx_X12_derivedMany_21 : decode (go_cc mx_X12_derivedMany) 21 = .ok (.if_icmp .gt 44, 3) := by decide +kernel
theorem dx_X12_derivedMany_24 : decode (go_cc mx_X12_derivedMany) 24 = .ok (.iconst 0, 1) := by decide +kernel
theorem dx_X12_derivedMany_25 : decode (go_cc mx_X12_derivedMany) 25 = .ok (.istore 4, 2) := by decide +kernel
theorem dx_X12_derivedMany_27 : decode (go_cc mx_X12_derivedMany) 27 = .ok (.iload 4, 2) := by decide +kernel
theorem dx_X12_derivedMany_29 : decode (go_cc mx_X12_derivedMany) 29 = .ok (.bipush 8, 2) := by decide +kernel
theorem dx_X12_derivedMany_31 : decode (go_cc mx_X12_derivedMany) 31 = .ok (.if_icmp .ge 28, 3) := by decide +kernel
theorem dx_X12_derivedMany_34 : decode (go_cc mx_X12_derivedMany) 34 = .ok (.iload_n 1, 1) := by decide +kernel
theorem dx_X12_derivedMany_35 : decode (go_cc mx_X12_derivedMany) 35 = .ok (.aload_n 0, 1) := by decide +kernel
theorem dx_X12_derivedMany_36 : decode (go_cc mx_X12_derivedMany) 36 = .ok (.iload 4, 2) := by decide +kernel
theorem dx_X12_derivedMany_38 : decode (go_cc mx_X12_derivedMany) 38 = .ok (.iload_n 2, 1) := by decide +kernel
theorem dx_X12_derivedMany_39 : decode (go_cc mx_X12_derivedMany) 39 = .ok (.iload_n 3, 1) := by decide +kernel
theorem dx_X12_derivedMany_40 : decode (go_cc mx_X12_derivedMany) 40 = .ok (.invokevirtual 268, 3) := by decide +kernel
theorem dx_X12_derivedMany_43 : decode (go_cc mx_X12_derivedMany) 43 = .ok (.ifCond .eq 7, 3) := by decide +kernel
theorem dx_X12_derivedMany_46 : decode (go_cc mx_X12_derivedMany) 46 = .ok (.iconst 1, 1) := by decide +kernel
theorem dx_X12_derivedMany_47 : decode (go_cc mx_X12_derivedMany) 47 = .ok (.goto 4, 3) := by decide +kernel
theorem dx_X12_derivedMany_50 : decode (go_cc mx_X12_derivedMany) 50 = .ok (.iconst 0, 1) := by decide +kernel
theorem dx_X12_derivedMany_51 : decode (go_cc mx_X12_derivedMany) 51 = .ok (.iadd, 1) := by decide +kernel
theorem dx_X12_derivedMany_52 : decode (go_cc mx_X12_derivedMany) 52 = .ok (.istore_n 1, 1) := by decide +kernel
theorem dx_X12_derivedMany_53 : decode (go_cc mx_X12_derivedMany) 53 = .ok (.iinc 4 1, 3) := by decide +kernel
theorem dx_X12_derivedMany_56 : decode (go_cc mx_X12_derivedMany) 56 = .ok (.goto (-29), 3) := by decide +kernel
theorem dx_X12_derivedMany_59 : decode (go_cc mx_X12_derivedMany) 59 = .ok (.iinc 3 1, 3) := by decide +kernel
theorem dx_X12_derivedMany_62 : decode (go_cc mx_X12_derivedMany) 62 = .ok (.goto (-46), 3) := by decide +kernel
theorem dx_X12_derivedMany_65 : decode (go_cc mx_X12_derivedMany) 65 = .ok (.iinc 2 1, 3) := by decide +kernel
theorem dx_X12_derivedMany_68 : decode (go_cc mx_X12_derivedMany) 68 = .ok (.goto (-64), 3) := by decide +kernel
theorem dx_X12_derivedMany_71 : decode (go_cc mx_X12_derivedMany) 71 = .ok (.iload_n 1, 1) := by decide +kernel
theorem dx_X12_derivedMany_72 : decode (go_cc mx_X12_derivedMany) 72 = .ok (.ireturn, 1) := by decide +kernel
theorem dx_X12_loss_0 : decode (go_cc mx_X12_loss) 0 = .ok (.aload_n 0, 1) := by decide +kernel
theorem dx_X12_loss_1 : decode (go_cc mx_X12_loss) 1 = .ok (.iconst 0, 1) := by decide +kernel
theorem dx_X12_loss_2 : decode (go_cc mx_X12_loss) 2 = .ok (.putfield 139, 3) := by decide +kernel
theorem dx_X12_loss_5 : decode (go_cc mx_X12_loss) 5 = .ok (.aload_n 0, 1) := by decide +kernel
theorem dx_X12_loss_6 : decode (go_cc mx_X12_loss) 6 = .ok (.iload_n 1, 1) := by decide +kernel
theorem dx_X12_loss_7 : decode (go_cc mx_X12_loss) 7 = .ok (.invokevirtual 203, 3) := by decide +kernel
theorem dx_X12_loss_10 : decode (go_cc mx_X12_loss) 10 = .ok (.ifCond .ne 6, 3) := by decide +kernel
theorem dx_X12_loss_13 : decode (go_cc mx_X12_loss) 13 = .ok (.bipush (-2), 2) := by decide +kernel
theorem dx_X12_loss_15 : decode (go_cc mx_X12_loss) 15 = .ok (.ireturn, 1) := by decide +kernel
theorem dx_X12_loss_16 : decode (go_cc mx_X12_loss) 16 = .ok (.aload_n 0, 1) := by decide +kernel
theorem dx_X12_loss_17 : decode (go_cc mx_X12_loss) 17 = .ok (.invokevirtual 265, 3) := by decide +kernel
theorem dx_X12_loss_20 : decode (go_cc mx_X12_loss) 20 = .ok (.aload_n 0, 1) := by decide +kernel
theorem dx_X12_loss_21 : decode (go_cc mx_X12_loss) 21 = .ok (.invokevirtual 322, 3) := by decide +kernel
theorem dx_X12_loss_24 : decode (go_cc mx_X12_loss) 24 = .ok (.istore_n 2, 1) := by decide +kernel
theorem dx_X12_loss_25 : decode (go_cc mx_X12_loss) 25 = .ok (.aload_n 0, 1) := by decide +kernel
theorem dx_X12_loss_26 : decode (go_cc mx_X12_loss) 26 = .ok (.iload_n 1, 1) := by decide +kernel
theorem dx_X12_loss_27 : decode (go_cc mx_X12_loss) 27 = .ok (.invokevirtual 148, 3) := by decide +kernel
theorem dx_X12_loss_30 : decode (go_cc mx_X12_loss) 30 = .ok (.istore_n 3, 1) := by decide +kernel
theorem dx_X12_loss_31 : decode (go_cc mx_X12_loss) 31 = .ok (.aload_n 0, 1) := by decide +kernel
theorem dx_X12_loss_32 : decode (go_cc mx_X12_loss) 32 = .ok (.getfield 7, 3) := by decide +kernel
theorem dx_X12_loss_35 : decode (go_cc mx_X12_loss) 35 = .ok (.bipush 7, 2) := by decide +kernel
theorem dx_X12_loss_37 : decode (go_cc mx_X12_loss) 37 = .ok (.iload_n 1, 1) := by decide +kernel
theorem dx_X12_loss_38 : decode (go_cc mx_X12_loss) 38 = .ok (.imul, 1) := by decide +kernel
theorem dx_X12_loss_39 : decode (go_cc mx_X12_loss) 39 = .ok (.iconst 0, 1) := by decide +kernel
theorem dx_X12_loss_40 : decode (go_cc mx_X12_loss) 40 = .ok (.iadd, 1) := by decide +kernel
theorem dx_X12_loss_41 : decode (go_cc mx_X12_loss) 41 = .ok (.iconst 0, 1) := by decide +kernel
theorem dx_X12_loss_42 : decode (go_cc mx_X12_loss) 42 = .ok (.iastore, 1) := by decide +kernel
theorem dx_X12_loss_43 : decode (go_cc mx_X12_loss) 43 = .ok (.aload_n 0, 1) := by decide +kernel
theorem dx_X12_loss_44 : decode (go_cc mx_X12_loss) 44 = .ok (.aload_n 0, 1) := by decide +kernel
theorem dx_X12_loss_45 : decode (go_cc mx_X12_loss) 45 = .ok (.invokevirtual 253, 3) := by decide +kernel
theorem dx_X12_loss_48 : decode (go_cc mx_X12_loss) 48 = .ok (.invokevirtual 256, 3) := by decide +kernel
theorem dx_X12_loss_51 : decode (go_cc mx_X12_loss) 51 = .ok (.aload_n 0, 1) := by decide +kernel
theorem dx_X12_loss_52 : decode (go_cc mx_X12_loss) 52 = .ok (.invokevirtual 322, 3) := by decide +kernel
theorem dx_X12_loss_55 : decode (go_cc mx_X12_loss) 55 = .ok (.istore 4, 2) := by decide +kernel
theorem dx_X12_loss_57 : decode (go_cc mx_X12_loss) 57 = .ok (.aload_n 0, 1) := by decide +kernel
theorem dx_X12_loss_58 : decode (go_cc mx_X12_loss) 58 = .ok (.getfield 7, 3) := by decide +kernel
theorem dx_X12_loss_61 : decode (go_cc mx_X12_loss) 61 = .ok (.bipush 7, 2) := by decide +kernel
theorem dx_X12_loss_63 : decode (go_cc mx_X12_loss) 63 = .ok (.iload_n 1, 1) := by decide +kernel
theorem dx_X12_loss_64 : decode (go_cc mx_X12_loss) 64 = .ok (.imul, 1) := by decide +kernel
theorem dx_X12_loss_65 : decode (go_cc mx_X12_loss) 65 = .ok (.iconst 0, 1) := by decide +kernel
theorem dx_X12_loss_66 : decode (go_cc mx_X12_loss) 66 = .ok (.iadd, 1) := by decide +kernel
theorem dx_X12_loss_67 : decode (go_cc mx_X12_loss) 67 = .ok (.iload_n 3, 1) := by decide +kernel
theorem dx_X12_loss_68 : decode (go_cc mx_X12_loss) 68 = .ok (.iastore, 1) := by decide +kernel
theorem dx_X12_loss_69 : decode (go_cc mx_X12_loss) 69 = .ok (.aload_n 0, 1) := by decide +kernel
theorem dx_X12_loss_70 : decode (go_cc mx_X12_loss) 70 = .ok (.iconst 0, 1) := by decide +kernel
theorem dx_X12_loss_71 : decode (go_cc mx_X12_loss) 71 = .ok (.putfield 155, 3) := by decide +kernel
theorem dx_X12_loss_74 : decode (go_cc mx_X12_loss) 74 = .ok (.iload_n 2, 1) := by decide +kernel
theorem dx_X12_loss_75 : decode (go_cc mx_X12_loss) 75 = .ok (.iload 4, 2) := by decide +kernel
theorem dx_X12_loss_77 : decode (go_cc mx_X12_loss) 77 = .ok (.isub, 1) := by decide +kernel
theorem dx_X12_loss_78 : decode (go_cc mx_X12_loss) 78 = .ok (.ireturn, 1) := by decide +kernel
theorem dx_X12_waits_0 : decode (go_cc mx_X12_waits) 0 = .ok (.aload_n 0, 1) := by decide +kernel
theorem dx_X12_waits_1 : decode (go_cc mx_X12_waits) 1 = .ok (.getfield 91, 3) := by decide +kernel
theorem dx_X12_waits_4 : decode (go_cc mx_X12_waits) 4 = .ok (.iconst 5, 1) := by decide +kernel
theorem dx_X12_waits_5 : decode (go_cc mx_X12_waits) 5 = .ok (.aload_n 0, 1) := by decide +kernel
theorem dx_X12_waits_6 : decode (go_cc mx_X12_waits) 6 = .ok (.getfield 325, 3) := by decide +kernel
theorem dx_X12_waits_9 : decode (go_cc mx_X12_waits) 9 = .ok (.imul, 1) := by decide +kernel
theorem dx_X12_waits_10 : decode (go_cc mx_X12_waits) 10 = .ok (.iload_n 1, 1) := by decide +kernel
theorem dx_X12_waits_11 : decode (go_cc mx_X12_waits) 11 = .ok (.iastore, 1) := by decide +kernel
theorem dx_X12_waits_12 : decode (go_cc mx_X12_waits) 12 = .ok (.aload_n 0, 1) := by decide +kernel
theorem dx_X12_waits_13 : decode (go_cc mx_X12_waits) 13 = .ok (.getfield 91, 3) := by decide +kernel
theorem dx_X12_waits_16 : decode (go_cc mx_X12_waits) 16 = .ok (.iconst 5, 1) := by decide +kernel
theorem dx_X12_waits_17 : decode (go_cc mx_X12_waits) 17 = .ok (.aload_n 0, 1) := by decide +kernel
theorem dx_X12_waits_18 : decode (go_cc mx_X12_waits) 18 = .ok (.getfield 325, 3) := by decide +kernel
theorem dx_X12_waits_21 : decode (go_cc mx_X12_waits) 21 = .ok (.imul, 1) := by decide +kernel
theorem dx_X12_waits_22 : decode (go_cc mx_X12_waits) 22 = .ok (.iconst 1, 1) := by decide +kernel
theorem dx_X12_waits_23 : decode (go_cc mx_X12_waits) 23 = .ok (.iadd, 1) := by decide +kernel
theorem dx_X12_waits_24 : decode (go_cc mx_X12_waits) 24 = .ok (.iload_n 2, 1) := by decide +kernel
theorem dx_X12_waits_25 : decode (go_cc mx_X12_waits) 25 = .ok (.iastore, 1) := by decide +kernel
theorem dx_X12_waits_26 : decode (go_cc mx_X12_waits) 26 = .ok (.aload_n 0, 1) := by decide +kernel
theorem dx_X12_waits_27 : decode (go_cc mx_X12_waits) 27 = .ok (.getfield 91, 3) := by decide +kernel
theorem dx_X12_waits_30 : decode (go_cc mx_X12_waits) 30 = .ok (.iconst 5, 1) := by decide +kernel
theorem dx_X12_waits_31 : decode (go_cc mx_X12_waits) 31 = .ok (.aload_n 0, 1) := by decide +kernel
theorem dx_X12_waits_32 : decode (go_cc mx_X12_waits) 32 = .ok (.getfield 325, 3) := by decide +kernel
theorem dx_X12_waits_35 : decode (go_cc mx_X12_waits) 35 = .ok (.imul, 1) := by decide +kernel
theorem dx_X12_waits_36 : decode (go_cc mx_X12_waits) 36 = .ok (.iconst 2, 1) := by decide +kernel
theorem dx_X12_waits_37 : decode (go_cc mx_X12_waits) 37 = .ok (.iadd, 1) := by decide +kernel
theorem dx_X12_waits_38 : decode (go_cc mx_X12_waits) 38 = .ok (.iload_n 3, 1) := by decide +kernel
theorem dx_X12_waits_39 : decode (go_cc mx_X12_waits) 39 = .ok (.iastore, 1) := by decide +kernel
theorem dx_X12_waits_40 : decode (go_cc mx_X12_waits) 40 = .ok (.aload_n 0, 1) := by decide +kernel
theorem dx_X12_waits_41 : decode (go_cc mx_X12_waits) 41 = .ok (.getfield 91, 3) := by decide +kernel
theorem dx_X12_waits_44 : decode (go_cc mx_X12_waits) 44 = .ok (.iconst 5, 1) := by decide +kernel
theorem dx_X12_waits_45 : decode (go_cc mx_X12_waits) 45 = .ok (.aload_n 0, 1) := by decide +kernel
theorem dx_X12_waits_46 : decode (go_cc mx_X12_waits) 46 = .ok (.getfield 325, 3) := by decide +kernel
theorem dx_X12_waits_49 : decode (go_cc mx_X12_waits) 49 = .ok (.imul, 1) := by decide +kernel
theorem dx_X12_waits_50 : decode (go_cc mx_X12_waits) 50 = .ok (.iconst 3, 1) := by decide +kernel
theorem dx_X12_waits_51 : decode (go_cc mx_X12_waits) 51 = .ok (.iadd, 1) := by decide +kernel
theorem dx_X12_waits_52 : decode (go_cc mx_X12_waits) 52 = .ok (.iload 4, 2) := by decide +kernel
theorem dx_X12_waits_54 : decode (go_cc mx_X12_waits) 54 = .ok (.iastore, 1) := by decide +kernel
theorem dx_X12_waits_55 : decode (go_cc mx_X12_waits) 55 = .ok (.aload_n 0, 1) := by decide +kernel
theorem dx_X12_waits_56 : decode (go_cc mx_X12_waits) 56 = .ok (.getfield 91, 3) := by decide +kernel
theorem dx_X12_waits_59 : decode (go_cc mx_X12_waits) 59 = .ok (.iconst 5, 1) := by decide +kernel
theorem dx_X12_waits_60 : decode (go_cc mx_X12_waits) 60 = .ok (.aload_n 0, 1) := by decide +kernel
theorem dx_X12_waits_61 : decode (go_cc mx_X12_waits) 61 = .ok (.getfield 325, 3) := by decide +kernel
theorem dx_X12_waits_64 : decode (go_cc mx_X12_waits) 64 = .ok (.imul, 1) := by decide +kernel
theorem dx_X12_waits_65 : decode (go_cc mx_X12_waits) 65 = .ok (.iconst 4, 1) := by decide +kernel
theorem dx_X12_waits_66 : decode (go_cc mx_X12_waits) 66 = .ok (.iadd, 1) := by decide +kernel
theorem dx_X12_waits_67 : decode (go_cc mx_X12_waits) 67 = .ok (.iload 5, 2) := by decide +kernel
theorem dx_X12_waits_69 : decode (go_cc mx_X12_waits) 69 = .ok (.iastore, 1) := by decide +kernel
theorem dx_X12_waits_70 : decode (go_cc mx_X12_waits) 70 = .ok (.aload_n 0, 1) := by decide +kernel
theorem dx_X12_waits_71 : decode (go_cc mx_X12_waits) 71 = .ok (.dup, 1) := by decide +kernel
theorem dx_X12_waits_72 : decode (go_cc mx_X12_waits) 72 = .ok (.getfield 325, 3) := by decide +kernel
theorem dx_X12_waits_75 : decode (go_cc mx_X12_waits) 75 = .ok (.iconst 1, 1) := by decide +kernel
theorem dx_X12_waits_76 : decode (go_cc mx_X12_waits) 76 = .ok (.iadd, 1) := by decide +kernel
theorem dx_X12_waits_77 : decode (go_cc mx_X12_waits) 77 = .ok (.putfield 325, 3) := by decide +kernel
theorem dx_X12_waits_80 : decode (go_cc mx_X12_waits) 80 = .ok (.return_, 1) := by decide +kernel
theorem dx_X12_waysWith_0 : decode (go_cc mx_X12_waysWith) 0 = .ok (.aload_n 0, 1) := by decide +kernel
theorem dx_X12_waysWith_1 : decode (go_cc mx_X12_waysWith) 1 = .ok (.iload_n 1, 1) := by decide +kernel
theorem dx_X12_waysWith_2 : decode (go_cc mx_X12_waysWith) 2 = .ok (.invokevirtual 148, 3) := by decide +kernel
theorem dx_X12_waysWith_5 : decode (go_cc mx_X12_waysWith) 5 = .ok (.iconst 1, 1) := by decide +kernel
theorem dx_X12_waysWith_6 : decode (go_cc mx_X12_waysWith) 6 = .ok (.if_icmp .ne 62, 3) := by decide +kernel
theorem dx_X12_waysWith_9 : decode (go_cc mx_X12_waysWith) 9 = .ok (.aload_n 0, 1) := by decide +kernel
theorem dx_X12_waysWith_10 : decode (go_cc mx_X12_waysWith) 10 = .ok (.iload_n 1, 1) := by decide +kernel
theorem dx_X12_waysWith_11 : decode (go_cc mx_X12_waysWith) 11 = .ok (.iconst 0, 1) := by decide +kernel
theorem dx_X12_waysWith_12 : decode (go_cc mx_X12_waysWith) 12 = .ok (.invokevirtual 190, 3) := by decide +kernel
theorem dx_X12_waysWith_15 : decode (go_cc mx_X12_waysWith) 15 = .ok (.invokestatic 212, 3) := by decide +kernel
theorem dx_X12_waysWith_18 : decode (go_cc mx_X12_waysWith) 18 = .ok (.ifCond .eq 50, 3) := by decide +kernel
theorem dx_X12_waysWith_21 : decode (go_cc mx_X12_waysWith) 21 = .ok (.iload 4, 2) := by decide +kernel
theorem dx_X12_waysWith_23 : decode (go_cc mx_X12_waysWith) 23 = .ok (.aload_n 0, 1) := by decide +kernel
theorem dx_X12_waysWith_24 : decode (go_cc mx_X12_waysWith) 24 = .ok (.iload_n 1, 1) := by decide +kernel
theorem dx_X12_waysWith_25 : decode (go_cc mx_X12_waysWith) 25 = .ok (.iconst 0, 1) := by decide +kernel
theorem dx_X12_waysWith_26 : decode (go_cc mx_X12_waysWith) 26 = .ok (.invokevirtual 190, 3) := by decide +kernel
theorem dx_X12_waysWith_29 : decode (go_cc mx_X12_waysWith) 29 = .ok (.ishr, 1) := by decide +kernel
theorem dx_X12_waysWith_30 : decode (go_cc mx_X12_waysWith) 30 = .ok (.iconst 1, 1) := by decide +kernel
theorem dx_X12_waysWith_31 : decode (go_cc mx_X12_waysWith) 31 = .ok (.iand, 1) := by decide +kernel
theorem dx_X12_waysWith_32 : decode (go_cc mx_X12_waysWith) 32 = .ok (.iconst 1, 1) := by decide +kernel
theorem dx_X12_waysWith_33 : decode (go_cc mx_X12_waysWith) 33 = .ok (.if_icmp .ne 5, 3) := by decide +kernel
theorem dx_X12_waysWith_36 : decode (go_cc mx_X12_waysWith) 36 = .ok (.lconst 0, 1) := by decide +kernel
theorem dx_X12_waysWith_37 : decode (go_cc mx_X12_waysWith) 37 = .ok (.lreturn, 1) := by decide +kernel
theorem dx_X12_waysWith_38 : decode (go_cc mx_X12_waysWith) 38 = .ok (.aload_n 0, 1) := by decide +kernel
theorem dx_X12_waysWith_39 : decode (go_cc mx_X12_waysWith) 39 = .ok (.aload_n 0, 1) := by decide +kernel
theorem dx_X12_waysWith_40 : decode (go_cc mx_X12_waysWith) 40 = .ok (.iload_n 1, 1) := by decide +kernel
theorem dx_X12_waysWith_41 : decode (go_cc mx_X12_waysWith) 41 = .ok (.iconst 0, 1) := by decide +kernel
theorem dx_X12_waysWith_42 : decode (go_cc mx_X12_waysWith) 42 = .ok (.invokevirtual 190, 3) := by decide +kernel
theorem dx_X12_waysWith_45 : decode (go_cc mx_X12_waysWith) 45 = .ok (.iload 4, 2) := by decide +kernel
theorem dx_X12_waysWith_47 : decode (go_cc mx_X12_waysWith) 47 = .ok (.invokevirtual 311, 3) := by decide +kernel
theorem dx_X12_waysWith_50 : decode (go_cc mx_X12_waysWith) 50 = .ok (.aload_n 0, 1) := by decide +kernel
theorem dx_X12_waysWith_51 : decode (go_cc mx_X12_waysWith) 51 = .ok (.aload_n 0, 1) := by decide +kernel
theorem dx_X12_waysWith_52 : decode (go_cc mx_X12_waysWith) 52 = .ok (.getfield 61, 3) := by decide +kernel
theorem dx_X12_waysWith_55 : decode (go_cc mx_X12_waysWith) 55 = .ok (.bipush 16, 2) := by decide +kernel
theorem dx_X12_waysWith_57 : decode (go_cc mx_X12_waysWith) 57 = .ok (.iload_n 2, 1) := by decide +kernel
theorem dx_X12_waysWith_58 : decode (go_cc mx_X12_waysWith) 58 = .ok (.imul, 1) := by decide +kernel
theorem dx_X12_waysWith_59 : decode (go_cc mx_X12_waysWith) 59 = .ok (.iload_n 3, 1) := by decide +kernel
theorem dx_X12_waysWith_60 : decode (go_cc mx_X12_waysWith) 60 = .ok (.iadd, 1) := by decide +kernel
theorem dx_X12_waysWith_61 : decode (go_cc mx_X12_waysWith) 61 = .ok (.sipush 256, 3) := by decide +kernel
theorem dx_X12_waysWith_64 : decode (go_cc mx_X12_waysWith) 64 = .ok (.invokevirtual 315, 3) := by decide +kernel
theorem dx_X12_waysWith_67 : decode (go_cc mx_X12_waysWith) 67 = .ok (.lreturn, 1) := by decide +kernel
theorem dx_X12_waysWith_68 : decode (go_cc mx_X12_waysWith) 68 = .ok (.aload_n 0, 1) := by decide +kernel
theorem dx_X12_waysWith_69 : decode (go_cc mx_X12_waysWith) 69 = .ok (.iload_n 1, 1) := by decide +kernel
theorem dx_X12_waysWith_70 : decode (go_cc mx_X12_waysWith) 70 = .ok (.iload_n 2, 1) := by decide +kernel
theorem dx_X12_waysWith_71 : decode (go_cc mx_X12_waysWith) 71 = .ok (.iload_n 3, 1) := by decide +kernel
theorem dx_X12_waysWith_72 : decode (go_cc mx_X12_waysWith) 72 = .ok (.invokevirtual 307, 3) := by decide +kernel
theorem dx_X12_waysWith_75 : decode (go_cc mx_X12_waysWith) 75 = .ok (.aload_n 0, 1) := by decide +kernel
theorem dx_X12_waysWith_76 : decode (go_cc mx_X12_waysWith) 76 = .ok (.getfield 67, 3) := by decide +kernel
theorem dx_X12_waysWith_79 : decode (go_cc mx_X12_waysWith) 79 = .ok (.iload_n 2, 1) := by decide +kernel
theorem dx_X12_waysWith_80 : decode (go_cc mx_X12_waysWith) 80 = .ok (.laload, 1) := by decide +kernel
theorem dx_X12_waysWith_81 : decode (go_cc mx_X12_waysWith) 81 = .ok (.lreturn, 1) := by decide +kernel
theorem dx_X12_isPast_0 : decode (go_cc mx_X12_isPast) 0 = .ok (.lload_n 2, 1) := by decide +kernel
theorem dx_X12_isPast_1 : decode (go_cc mx_X12_isPast) 1 = .ok (.ldc2_w 288, 3) := by decide +kernel
theorem dx_X12_isPast_4 : decode (go_cc mx_X12_isPast) 4 = .ok (.lcmp, 1) := by decide +kernel
theorem dx_X12_isPast_5 : decode (go_cc mx_X12_isPast) 5 = .ok (.ifCond .eq 13, 3) := by decide +kernel
theorem dx_X12_isPast_8 : decode (go_cc mx_X12_isPast) 8 = .ok (.lload_n 0, 1) := by decide +kernel
theorem dx_X12_isPast_9 : decode (go_cc mx_X12_isPast) 9 = .ok (.lload_n 2, 1) := by decide +kernel
theorem dx_X12_isPast_10 : decode (go_cc mx_X12_isPast) 10 = .ok (.lcmp, 1) := by decide +kernel
theorem dx_X12_isPast_11 : decode (go_cc mx_X12_isPast) 11 = .ok (.ifCond .lt 7, 3) := by decide +kernel
theorem dx_X12_isPast_14 : decode (go_cc mx_X12_isPast) 14 = .ok (.iconst 1, 1) := by decide +kernel
theorem dx_X12_isPast_15 : decode (go_cc mx_X12_isPast) 15 = .ok (.goto 4, 3) := by decide +kernel
theorem dx_X12_isPast_18 : decode (go_cc mx_X12_isPast) 18 = .ok (.iconst 0, 1) := by decide +kernel
theorem dx_X12_isPast_19 : decode (go_cc mx_X12_isPast) 19 = .ok (.ireturn, 1) := by decide +kernel
theorem dx_X12_laysEnds_0 : decode (go_cc mx_X12_laysEnds) 0 = .ok (.aload_n 0, 1) := by decide +kernel
theorem dx_X12_laysEnds_1 : decode (go_cc mx_X12_laysEnds) 1 = .ok (.getfield 94, 3) := by decide +kernel
theorem dx_X12_laysEnds_4 : decode (go_cc mx_X12_laysEnds) 4 = .ok (.iconst 0, 1) := by decide +kernel
theorem dx_X12_laysEnds_5 : decode (go_cc mx_X12_laysEnds) 5 = .ok (.iload_n 2, 1) := by decide +kernel
theorem dx_X12_laysEnds_6 : decode (go_cc mx_X12_laysEnds) 6 = .ok (.iastore, 1) := by decide +kernel
theorem dx_X12_laysEnds_7 : decode (go_cc mx_X12_laysEnds) 7 = .ok (.aload_n 0, 1) := by decide +kernel
theorem dx_X12_laysEnds_8 : decode (go_cc mx_X12_laysEnds) 8 = .ok (.getfield 94, 3) := by decide +kernel
theorem dx_X12_laysEnds_11 : decode (go_cc mx_X12_laysEnds) 11 = .ok (.iconst 1, 1) := by decide +kernel
theorem dx_X12_laysEnds_12 : decode (go_cc mx_X12_laysEnds) 12 = .ok (.iload_n 3, 1) := by decide +kernel
theorem dx_X12_laysEnds_13 : decode (go_cc mx_X12_laysEnds) 13 = .ok (.iastore, 1) := by decide +kernel
theorem dx_X12_laysEnds_14 : decode (go_cc mx_X12_laysEnds) 14 = .ok (.aload_n 0, 1) := by decide +kernel
theorem dx_X12_laysEnds_15 : decode (go_cc mx_X12_laysEnds) 15 = .ok (.iload_n 1, 1) := by decide +kernel
theorem dx_X12_laysEnds_16 : decode (go_cc mx_X12_laysEnds) 16 = .ok (.invokevirtual 148, 3) := by decide +kernel
theorem dx_X12_laysEnds_19 : decode (go_cc mx_X12_laysEnds) 19 = .ok (.iconst 1, 1) := by decide +kernel
theorem dx_X12_laysEnds_20 : decode (go_cc mx_X12_laysEnds) 20 = .ok (.if_icmp .ne 4, 3) := by decide +kernel
theorem dx_X12_laysEnds_23 : decode (go_cc mx_X12_laysEnds) 23 = .ok (.return_, 1) := by decide +kernel
theorem dx_X12_laysEnds_24 : decode (go_cc mx_X12_laysEnds) 24 = .ok (.aload_n 0, 1) := by decide +kernel
theorem dx_X12_laysEnds_25 : decode (go_cc mx_X12_laysEnds) 25 = .ok (.iload_n 1, 1) := by decide +kernel
theorem dx_X12_laysEnds_26 : decode (go_cc mx_X12_laysEnds) 26 = .ok (.iload_n 2, 1) := by decide +kernel
theorem dx_X12_laysEnds_27 : decode (go_cc mx_X12_laysEnds) 27 = .ok (.iload_n 3, 1) := by decide +kernel
theorem dx_X12_laysEnds_28 : decode (go_cc mx_X12_laysEnds) 28 = .ok (.invokevirtual 307, 3) := by decide +kernel
theorem dx_X12_laysEnds_31 : decode (go_cc mx_X12_laysEnds) 31 = .ok (.lconst 1, 1) := by decide +kernel
theorem dx_X12_laysEnds_32 : decode (go_cc mx_X12_laysEnds) 32 = .ok (.lstore 4, 2) := by decide +kernel
theorem dx_X12_laysEnds_34 : decode (go_cc mx_X12_laysEnds) 34 = .ok (.iconst 0, 1) := by decide +kernel
theorem dx_X12_laysEnds_35 : decode (go_cc mx_X12_laysEnds) 35 = .ok (.istore 6, 2) := by decide +kernel
theorem dx_X12_laysEnds_37 : decode (go_cc mx_X12_laysEnds) 37 = .ok (.iload 6, 2) := by decide +kernel
theorem dx_X12_laysEnds_39 : decode (go_cc mx_X12_laysEnds) 39 = .ok (.aload_n 0, 1) := by decide +kernel
theorem dx_X12_laysEnds_40 : decode (go_cc mx_X12_laysEnds) 40 = .ok (.iload_n 1, 1) := by decide +kernel
theorem dx_X12_laysEnds_41 : decode (go_cc mx_X12_laysEnds) 41 = .ok (.invokevirtual 148, 3) := by decide +kernel
theorem dx_X12_laysEnds_44 : decode (go_cc mx_X12_laysEnds) 44 = .ok (.if_icmp .ge 177, 3) := by decide +kernel
theorem dx_X12_laysEnds_47 : decode (go_cc mx_X12_laysEnds) 47 = .ok (.aload_n 0, 1) := by decide +kernel
theorem dx_X12_laysEnds_48 : decode (go_cc mx_X12_laysEnds) 48 = .ok (.getfield 94, 3) := by decide +kernel
theorem dx_X12_laysEnds_51 : decode (go_cc mx_X12_laysEnds) 51 = .ok (.iload 6, 2) := by decide +kernel
theorem dx_X12_laysEnds_53 : decode (go_cc mx_X12_laysEnds) 53 = .ok (.iaload, 1) := by decide +kernel
theorem dx_X12_laysEnds_54 : decode (go_cc mx_X12_laysEnds) 54 = .ok (.iconst 1, 1) := by decide +kernel
theorem dx_X12_laysEnds_55 : decode (go_cc mx_X12_laysEnds) 55 = .ok (.iadd, 1) := by decide +kernel
theorem dx_X12_laysEnds_56 : decode (go_cc mx_X12_laysEnds) 56 = .ok (.istore 7, 2) := by decide +kernel
theorem dx_X12_laysEnds_58 : decode (go_cc mx_X12_laysEnds) 58 = .ok (.lload 4, 2) := by decide +kernel
theorem dx_X12_laysEnds_60 : decode (go_cc mx_X12_laysEnds) 60 = .ok (.aload_n 0, 1) := by decide +kernel
theorem dx_X12_laysEnds_61 : decode (go_cc mx_X12_laysEnds) 61 = .ok (.aload_n 0, 1) := by decide +kernel
theorem dx_X12_laysEnds_62 : decode (go_cc mx_X12_laysEnds) 62 = .ok (.iload_n 1, 1) := by decide +kernel
theorem dx_X12_laysEnds_63 : decode (go_cc mx_X12_laysEnds) 63 = .ok (.iload 6, 2) := by decide +kernel
theorem dx_X12_laysEnds_65 : decode (go_cc mx_X12_laysEnds) 65 = .ok (.invokevirtual 190, 3) := by decide +kernel
theorem dx_X12_laysEnds_68 : decode (go_cc mx_X12_laysEnds) 68 = .ok (.aload_n 0, 1) := by decide +kernel
theorem dx_X12_laysEnds_69 : decode (go_cc mx_X12_laysEnds) 69 = .ok (.getfield 94, 3) := by decide +kernel
theorem dx_X12_laysEnds_72 : decode (go_cc mx_X12_laysEnds) 72 = .ok (.iload 6, 2) := by decide +kernel
theorem dx_X12_laysEnds_74 : decode (go_cc mx_X12_laysEnds) 74 = .ok (.iaload, 1) := by decide +kernel
theorem dx_X12_laysEnds_75 : decode (go_cc mx_X12_laysEnds) 75 = .ok (.iload 7, 2) := by decide +kernel
theorem dx_X12_laysEnds_77 : decode (go_cc mx_X12_laysEnds) 77 = .ok (.invokevirtual 303, 3) := by decide +kernel
theorem dx_X12_laysEnds_80 : decode (go_cc mx_X12_laysEnds) 80 = .ok (.aload_n 0, 1) := by decide +kernel
theorem dx_X12_laysEnds_81 : decode (go_cc mx_X12_laysEnds) 81 = .ok (.getfield 67, 3) := by decide +kernel
theorem dx_X12_laysEnds_84 : decode (go_cc mx_X12_laysEnds) 84 = .ok (.bipush 16, 2) := by decide +kernel
theorem dx_X12_laysEnds_86 : decode (go_cc mx_X12_laysEnds) 86 = .ok (.iload 6, 2) := by decide +kernel
theorem dx_X12_laysEnds_88 : decode (go_cc mx_X12_laysEnds) 88 = .ok (.iconst 1, 1) := by decide +kernel
theorem dx_X12_laysEnds_89 : decode (go_cc mx_X12_laysEnds) 89 = .ok (.iadd, 1) := by decide +kernel
theorem dx_X12_laysEnds_90 : decode (go_cc mx_X12_laysEnds) 90 = .ok (.imul, 1) := by decide +kernel
theorem dx_X12_laysEnds_91 : decode (go_cc mx_X12_laysEnds) 91 = .ok (.iload 7, 2) := by decide +kernel
theorem dx_X12_laysEnds_93 : decode (go_cc mx_X12_laysEnds) 93 = .ok (.iadd, 1) := by decide +kernel
theorem dx_X12_laysEnds_94 : decode (go_cc mx_X12_laysEnds) 94 = .ok (.laload, 1) := by decide +kernel
theorem dx_X12_laysEnds_95 : decode (go_cc mx_X12_laysEnds) 95 = .ok (.invokestatic 297, 3) := by decide +kernel
theorem dx_X12_laysEnds_98 : decode (go_cc mx_X12_laysEnds) 98 = .ok (.invokestatic 297, 3) := by decide +kernel
theorem dx_X12_laysEnds_101 : decode (go_cc mx_X12_laysEnds) 101 = .ok (.lstore 8, 2) := by decide +kernel
theorem dx_X12_laysEnds_103 : decode (go_cc mx_X12_laysEnds) 103 = .ok (.aload_n 0, 1) := by decide +kernel
theorem dx_X12_laysEnds_104 : decode (go_cc mx_X12_laysEnds) 104 = .ok (.getfield 328, 3) := by decide +kernel
theorem dx_X12_laysEnds_107 : decode (go_cc mx_X12_laysEnds) 107 = .ok (.lload 8, 2) := by decide +kernel
theorem dx_X12_laysEnds_109 : decode (go_cc mx_X12_laysEnds) 109 = .ok (.invokestatic 332, 3) := by decide +kernel
theorem dx_X12_laysEnds_112 : decode (go_cc mx_X12_laysEnds) 112 = .ok (.ifCond .eq 65, 3) := by decide +kernel
theorem dx_X12_laysEnds_115 : decode (go_cc mx_X12_laysEnds) 115 = .ok (.aload_n 0, 1) := by decide +kernel
theorem dx_X12_laysEnds_116 : decode (go_cc mx_X12_laysEnds) 116 = .ok (.dup, 1) := by decide +kernel
theorem dx_X12_laysEnds_117 : decode (go_cc mx_X12_laysEnds) 117 = .ok (.getfield 328, 3) := by decide +kernel
theorem dx_X12_laysEnds_120 : decode (go_cc mx_X12_laysEnds) 120 = .ok (.lload 8, 2) := by decide +kernel
theorem dx_X12_laysEnds_122 : decode (go_cc mx_X12_laysEnds) 122 = .ok (.lsub, 1) := by decide +kernel
theorem dx_X12_laysEnds_123 : decode (go_cc mx_X12_laysEnds) 123 = .ok (.putfield 328, 3) := by decide +kernel
theorem dx_X12_laysEnds_126 : decode (go_cc mx_X12_laysEnds) 126 = .ok (.iinc 7 1, 3) := by decide +kernel
theorem dx_X12_laysEnds_129 : decode (go_cc mx_X12_laysEnds) 129 = .ok (.lload 4, 2) := by decide +kernel
theorem dx_X12_laysEnds_131 : decode (go_cc mx_X12_laysEnds) 131 = .ok (.aload_n 0, 1) := by decide +kernel
theorem dx_X12_laysEnds_132 : decode (go_cc mx_X12_laysEnds) 132 = .ok (.aload_n 0, 1) := by decide +kernel
theorem dx_X12_laysEnds_133 : decode (go_cc mx_X12_laysEnds) 133 = .ok (.iload_n 1, 1) := by decide +kernel
theorem dx_X12_laysEnds_134 : decode (go_cc mx_X12_laysEnds) 134 = .ok (.iload 6, 2) := by decide +kernel
theorem dx_X12_laysEnds_136 : decode (go_cc mx_X12_laysEnds) 136 = .ok (.invokevirtual 190, 3) := by decide +kernel
theorem dx_X12_laysEnds_139 : decode (go_cc mx_X12_laysEnds) 139 = .ok (.aload_n 0, 1) := by decide +kernel
theorem dx_X12_laysEnds_140 : decode (go_cc mx_X12_laysEnds) 140 = .ok (.getfield 94, 3) := by decide +kernel
theorem dx_X12_laysEnds_143 : decode (go_cc mx_X12_laysEnds) 143 = .ok (.iload 6, 2) := by decide +kernel
theorem dx_X12_laysEnds_145 : decode (go_cc mx_X12_laysEnds) 145 = .ok (.iaload, 1) := by decide +kernel
theorem dx_X12_laysEnds_146 : decode (go_cc mx_X12_laysEnds) 146 = .ok (.iload 7, 2) := by decide +kernel
theorem dx_X12_laysEnds_148 : decode (go_cc mx_X12_laysEnds) 148 = .ok (.invokevirtual 303, 3) := by decide +kernel
theorem dx_X12_laysEnds_151 : decode (go_cc mx_X12_laysEnds) 151 = .ok (.aload_n 0, 1) := by decide +kernel
theorem dx_X12_laysEnds_152 : decode (go_cc mx_X12_laysEnds) 152 = .ok (.getfield 67, 3) := by decide +kernel
theorem dx_X12_laysEnds_155 : decode (go_cc mx_X12_laysEnds) 155 = .ok (.bipush 16, 2) := by decide +kernel
theorem dx_X12_laysEnds_157 : decode (go_cc mx_X12_laysEnds) 157 = .ok (.iload 6, 2) := by decide +kernel
theorem dx_X12_laysEnds_159 : decode (go_cc mx_X12_laysEnds) 159 = .ok (.iconst 1, 1) := by decide +kernel
theorem dx_X12_laysEnds_160 : decode (go_cc mx_X12_laysEnds) 160 = .ok (.iadd, 1) := by decide +kernel
theorem dx_X12_laysEnds_161 : decode (go_cc mx_X12_laysEnds) 161 = .ok (.imul, 1) := by decide +kernel
theorem dx_X12_laysEnds_162 : decode (go_cc mx_X12_laysEnds) 162 = .ok (.iload 7, 2) := by decide +kernel
theorem dx_X12_laysEnds_164 : decode (go_cc mx_X12_laysEnds) 164 = .ok (.iadd, 1) := by decide +kernel
theorem dx_X12_laysEnds_165 : decode (go_cc mx_X12_laysEnds) 165 = .ok (.laload, 1) := by decide +kernel
theorem dx_X12_laysEnds_166 : decode (go_cc mx_X12_laysEnds) 166 = .ok (.invokestatic 297, 3) := by decide +kernel
theorem dx_X12_laysEnds_169 : decode (go_cc mx_X12_laysEnds) 169 = .ok (.invokestatic 297, 3) := by decide +kernel
theorem dx_X12_laysEnds_172 : decode (go_cc mx_X12_laysEnds) 172 = .ok (.lstore 8, 2) := by decide +kernel
theorem dx_X12_laysEnds_174 : decode (go_cc mx_X12_laysEnds) 174 = .ok (.goto (-71), 3) := by decide +kernel
theorem dx_X12_laysEnds_177 : decode (go_cc mx_X12_laysEnds) 177 = .ok (.aload_n 0, 1) := by decide +kernel
theorem dx_X12_laysEnds_178 : decode (go_cc mx_X12_laysEnds) 178 = .ok (.getfield 94, 3) := by decide +kernel
theorem dx_X12_laysEnds_181 : decode (go_cc mx_X12_laysEnds) 181 = .ok (.iload 6, 2) := by decide +kernel
theorem dx_X12_laysEnds_183 : decode (go_cc mx_X12_laysEnds) 183 = .ok (.iconst 1, 1) := by decide +kernel
theorem dx_X12_laysEnds_184 : decode (go_cc mx_X12_laysEnds) 184 = .ok (.iadd, 1) := by decide +kernel
theorem dx_X12_laysEnds_185 : decode (go_cc mx_X12_laysEnds) 185 = .ok (.iload 7, 2) := by decide +kernel
theorem dx_X12_laysEnds_187 : decode (go_cc mx_X12_laysEnds) 187 = .ok (.iastore, 1) := by decide +kernel
theorem dx_X12_laysEnds_188 : decode (go_cc mx_X12_laysEnds) 188 = .ok (.lload 4, 2) := by decide +kernel
theorem dx_X12_laysEnds_190 : decode (go_cc mx_X12_laysEnds) 190 = .ok (.aload_n 0, 1) := by decide +kernel
theorem dx_X12_laysEnds_191 : decode (go_cc mx_X12_laysEnds) 191 = .ok (.aload_n 0, 1) := by decide +kernel
theorem dx_X12_laysEnds_192 : decode (go_cc mx_X12_laysEnds) 192 = .ok (.iload_n 1, 1) := by decide +kernel
theorem dx_X12_laysEnds_193 : decode (go_cc mx_X12_laysEnds) 193 = .ok (.iload 6, 2) := by decide +kernel
theorem dx_X12_laysEnds_195 : decode (go_cc mx_X12_laysEnds) 195 = .ok (.invokevirtual 190, 3) := by decide +kernel
theorem dx_X12_laysEnds_198 : decode (go_cc mx_X12_laysEnds) 198 = .ok (.aload_n 0, 1) := by decide +kernel
theorem dx_X12_laysEnds_199 : decode (go_cc mx_X12_laysEnds) 199 = .ok (.getfield 94, 3) := by decide +kernel
theorem dx_X12_laysEnds_202 : decode (go_cc mx_X12_laysEnds) 202 = .ok (.iload 6, 2) := by decide +kernel
theorem dx_X12_laysEnds_204 : decode (go_cc mx_X12_laysEnds) 204 = .ok (.iaload, 1) := by decide +kernel
theorem dx_X12_laysEnds_205 : decode (go_cc mx_X12_laysEnds) 205 = .ok (.iload 7, 2) := by decide +kernel
theorem dx_X12_laysEnds_207 : decode (go_cc mx_X12_laysEnds) 207 = .ok (.invokevirtual 303, 3) := by decide +kernel
theorem dx_X12_laysEnds_210 : decode (go_cc mx_X12_laysEnds) 210 = .ok (.invokestatic 297, 3) := by decide +kernel
theorem dx_X12_laysEnds_213 : decode (go_cc mx_X12_laysEnds) 213 = .ok (.lstore 4, 2) := by decide +kernel
theorem dx_X12_laysEnds_215 : decode (go_cc mx_X12_laysEnds) 215 = .ok (.iinc 6 1, 3) := by decide +kernel
theorem dx_X12_laysEnds_218 : decode (go_cc mx_X12_laysEnds) 218 = .ok (.goto (-181), 3) := by decide +kernel
theorem dx_X12_laysEnds_221 : decode (go_cc mx_X12_laysEnds) 221 = .ok (.return_, 1) := by decide +kernel
theorem dx_X12_splits_0 : decode (go_cc mx_X12_splits) 0 = .ok (.aload_n 0, 1) := by decide +kernel
theorem dx_X12_splits_1 : decode (go_cc mx_X12_splits) 1 = .ok (.iload_n 1, 1) := by decide +kernel
theorem dx_X12_splits_2 : decode (go_cc mx_X12_splits) 2 = .ok (.invokevirtual 148, 3) := by decide +kernel
theorem dx_X12_splits_5 : decode (go_cc mx_X12_splits) 5 = .ok (.iconst 1, 1) := by decide +kernel
theorem dx_X12_splits_6 : decode (go_cc mx_X12_splits) 6 = .ok (.isub, 1) := by decide +kernel
theorem dx_X12_splits_7 : decode (go_cc mx_X12_splits) 7 = .ok (.istore_n 2, 1) := by decide +kernel
theorem dx_X12_splits_8 : decode (go_cc mx_X12_splits) 8 = .ok (.iload_n 2, 1) := by decide +kernel
theorem dx_X12_splits_9 : decode (go_cc mx_X12_splits) 9 = .ok (.ifCond .lt 98, 3) := by decide +kernel
theorem dx_X12_splits_12 : decode (go_cc mx_X12_splits) 12 = .ok (.aload_n 0, 1) := by decide +kernel
theorem dx_X12_splits_13 : decode (go_cc mx_X12_splits) 13 = .ok (.iload_n 1, 1) := by decide +kernel
theorem dx_X12_splits_14 : decode (go_cc mx_X12_splits) 14 = .ok (.invokevirtual 148, 3) := by decide +kernel
theorem dx_X12_splits_17 : decode (go_cc mx_X12_splits) 17 = .ok (.iconst 1, 1) := by decide +kernel
theorem dx_X12_splits_18 : decode (go_cc mx_X12_splits) 18 = .ok (.if_icmp .ne 9, 3) := by decide +kernel
theorem dx_X12_splits_21 : decode (go_cc mx_X12_splits) 21 = .ok (.ldc2_w 288, 3) := by decide +kernel
theorem dx_X12_splits_24 : decode (go_cc mx_X12_splits) 24 = .ok (.goto 27, 3) := by decide +kernel
theorem dx_X12_splits_27 : decode (go_cc mx_X12_splits) 27 = .ok (.aload_n 0, 1) := by decide +kernel
theorem dx_X12_splits_28 : decode (go_cc mx_X12_splits) 28 = .ok (.aload_n 0, 1) := by decide +kernel
theorem dx_X12_splits_29 : decode (go_cc mx_X12_splits) 29 = .ok (.iload_n 1, 1) := by decide +kernel
theorem dx_X12_splits_30 : decode (go_cc mx_X12_splits) 30 = .ok (.iload_n 2, 1) := by decide +kernel
theorem dx_X12_splits_31 : decode (go_cc mx_X12_splits) 31 = .ok (.invokevirtual 190, 3) := by decide +kernel
theorem dx_X12_splits_34 : decode (go_cc mx_X12_splits) 34 = .ok (.aload_n 0, 1) := by decide +kernel
theorem dx_X12_splits_35 : decode (go_cc mx_X12_splits) 35 = .ok (.getfield 94, 3) := by decide +kernel
theorem dx_X12_splits_38 : decode (go_cc mx_X12_splits) 38 = .ok (.iload_n 2, 1) := by decide +kernel
theorem dx_X12_splits_39 : decode (go_cc mx_X12_splits) 39 = .ok (.iaload, 1) := by decide +kernel
theorem dx_X12_splits_40 : decode (go_cc mx_X12_splits) 40 = .ok (.aload_n 0, 1) := by decide +kernel
theorem dx_X12_splits_41 : decode (go_cc mx_X12_splits) 41 = .ok (.getfield 94, 3) := by decide +kernel
theorem dx_X12_splits_44 : decode (go_cc mx_X12_splits) 44 = .ok (.iload_n 2, 1) := by decide +kernel
theorem dx_X12_splits_45 : decode (go_cc mx_X12_splits) 45 = .ok (.iconst 1, 1) := by decide +kernel
theorem dx_X12_splits_46 : decode (go_cc mx_X12_splits) 46 = .ok (.iadd, 1) := by decide +kernel
theorem dx_X12_splits_47 : decode (go_cc mx_X12_splits) 47 = .ok (.iaload, 1) := by decide +kernel
theorem dx_X12_splits_48 : decode (go_cc mx_X12_splits) 48 = .ok (.invokevirtual 303, 3) := by decide +kernel
theorem dx_X12_splits_51 : decode (go_cc mx_X12_splits) 51 = .ok (.lstore_n 3, 1) := by decide +kernel
theorem dx_X12_splits_52 : decode (go_cc mx_X12_splits) 52 = .ok (.aload_n 0, 1) := by decide +kernel
theorem dx_X12_splits_53 : decode (go_cc mx_X12_splits) 53 = .ok (.getfield 97, 3) := by decide +kernel
theorem dx_X12_splits_56 : decode (go_cc mx_X12_splits) 56 = .ok (.iload_n 2, 1) := by decide +kernel
theorem dx_X12_splits_57 : decode (go_cc mx_X12_splits) 57 = .ok (.lload_n 3, 1) := by decide +kernel
theorem dx_X12_splits_58 : decode (go_cc mx_X12_splits) 58 = .ok (.ldc2_w 288, 3) := by decide +kernel
theorem dx_X12_splits_61 : decode (go_cc mx_X12_splits) 61 = .ok (.lcmp, 1) := by decide +kernel
theorem dx_X12_splits_62 : decode (go_cc mx_X12_splits) 62 = .ok (.ifCond .ne 10, 3) := by decide +kernel
theorem dx_X12_splits_65 : decode (go_cc mx_X12_splits) 65 = .ok (.aload_n 0, 1) := by decide +kernel
theorem dx_X12_splits_66 : decode (go_cc mx_X12_splits) 66 = .ok (.getfield 328, 3) := by decide +kernel
theorem dx_X12_splits_69 : decode (go_cc mx_X12_splits) 69 = .ok (.goto 9, 3) := by decide +kernel
theorem dx_X12_splits_72 : decode (go_cc mx_X12_splits) 72 = .ok (.aload_n 0, 1) := by decide +kernel
theorem dx_X12_splits_73 : decode (go_cc mx_X12_splits) 73 = .ok (.getfield 328, 3) := by decide +kernel
theorem dx_X12_splits_76 : decode (go_cc mx_X12_splits) 76 = .ok (.lload_n 3, 1) := by decide +kernel
theorem dx_X12_splits_77 : decode (go_cc mx_X12_splits) 77 = .ok (.lrem, 1) := by decide +kernel
theorem dx_X12_splits_78 : decode (go_cc mx_X12_splits) 78 = .ok (.lastore, 1) := by decide +kernel
theorem dx_X12_splits_79 : decode (go_cc mx_X12_splits) 79 = .ok (.aload_n 0, 1) := by decide +kernel
theorem dx_X12_splits_80 : decode (go_cc mx_X12_splits) 80 = .ok (.lload_n 3, 1) := by decide +kernel
theorem dx_X12_splits_81 : decode (go_cc mx_X12_splits) 81 = .ok (.ldc2_w 288, 3) := by decide +kernel
theorem dx_X12_splits_84 : decode (go_cc mx_X12_splits) 84 = .ok (.lcmp, 1) := by decide +kernel
theorem dx_X12_splits_85 : decode (go_cc mx_X12_splits) 85 = .ok (.ifCond .ne 7, 3) := by decide +kernel
theorem dx_X12_splits_88 : decode (go_cc mx_X12_splits) 88 = .ok (.lconst 0, 1) := by decide +kernel
theorem dx_X12_splits_89 : decode (go_cc mx_X12_splits) 89 = .ok (.goto 9, 3) := by decide +kernel
theorem dx_X12_splits_92 : decode (go_cc mx_X12_splits) 92 = .ok (.aload_n 0, 1) := by decide +kernel
theorem dx_X12_splits_93 : decode (go_cc mx_X12_splits) 93 = .ok (.getfield 328, 3) := by decide +kernel
theorem dx_X12_splits_96 : decode (go_cc mx_X12_splits) 96 = .ok (.lload_n 3, 1) := by decide +kernel
theorem dx_X12_splits_97 : decode (go_cc mx_X12_splits) 97 = .ok (.ldiv, 1) := by decide +kernel
theorem dx_X12_splits_98 : decode (go_cc mx_X12_splits) 98 = .ok (.putfield 328, 3) := by decide +kernel
theorem dx_X12_splits_101 : decode (go_cc mx_X12_splits) 101 = .ok (.iinc 2 (-1), 3) := by decide +kernel
theorem dx_X12_splits_104 : decode (go_cc mx_X12_splits) 104 = .ok (.goto (-96), 3) := by decide +kernel
theorem dx_X12_splits_107 : decode (go_cc mx_X12_splits) 107 = .ok (.return_, 1) := by decide +kernel
theorem dx_X12_laysTree_0 : decode (go_cc mx_X12_laysTree) 0 = .ok (.aload_n 0, 1) := by decide +kernel
theorem dx_X12_laysTree_1 : decode (go_cc mx_X12_laysTree) 1 = .ok (.iconst 0, 1) := by decide +kernel
theorem dx_X12_laysTree_2 : decode (go_cc mx_X12_laysTree) 2 = .ok (.putfield 336, 3) := by decide +kernel
theorem dx_X12_laysTree_5 : decode (go_cc mx_X12_laysTree) 5 = .ok (.aload_n 0, 1) := by decide +kernel
theorem dx_X12_laysTree_6 : decode (go_cc mx_X12_laysTree) 6 = .ok (.iconst 0, 1) := by decide +kernel
theorem dx_X12_laysTree_7 : decode (go_cc mx_X12_laysTree) 7 = .ok (.putfield 325, 3) := by decide +kernel
theorem dx_X12_laysTree_10 : decode (go_cc mx_X12_laysTree) 10 = .ok (.aload_n 0, 1) := by decide +kernel
theorem dx_X12_laysTree_11 : decode (go_cc mx_X12_laysTree) 11 = .ok (.invokevirtual 272, 3) := by decide +kernel
theorem dx_X12_laysTree_14 : decode (go_cc mx_X12_laysTree) 14 = .ok (.ifCond .ne 4, 3) := by decide +kernel
theorem dx_X12_laysTree_17 : decode (go_cc mx_X12_laysTree) 17 = .ok (.return_, 1) := by decide +kernel
theorem dx_X12_laysTree_18 : decode (go_cc mx_X12_laysTree) 18 = .ok (.aload_n 0, 1) := by decide +kernel
theorem dx_X12_laysTree_19 : decode (go_cc mx_X12_laysTree) 19 = .ok (.invokevirtual 319, 3) := by decide +kernel
theorem dx_X12_laysTree_22 : decode (go_cc mx_X12_laysTree) 22 = .ok (.aload_n 0, 1) := by decide +kernel
theorem dx_X12_laysTree_23 : decode (go_cc mx_X12_laysTree) 23 = .ok (.getfield 100, 3) := by decide +kernel
theorem dx_X12_laysTree_26 : decode (go_cc mx_X12_laysTree) 26 = .ok (.iconst 0, 1) := by decide +kernel
theorem dx_X12_laysTree_27 : decode (go_cc mx_X12_laysTree) 27 = .ok (.lload_n 1, 1) := by decide +kernel
theorem dx_X12_laysTree_28 : decode (go_cc mx_X12_laysTree) 28 = .ok (.lastore, 1) := by decide +kernel
theorem dx_X12_laysTree_29 : decode (go_cc mx_X12_laysTree) 29 = .ok (.aload_n 0, 1) := by decide +kernel
theorem dx_X12_laysTree_30 : decode (go_cc mx_X12_laysTree) 30 = .ok (.aload_n 0, 1) := by decide +kernel
theorem dx_X12_laysTree_31 : decode (go_cc mx_X12_laysTree) 31 = .ok (.getfield 7, 3) := by decide +kernel
theorem dx_X12_laysTree_34 : decode (go_cc mx_X12_laysTree) 34 = .ok (.bipush 112, 2) := by decide +kernel
theorem dx_X12_laysTree_36 : decode (go_cc mx_X12_laysTree) 36 = .ok (.iaload, 1) := by decide +kernel
theorem dx_X12_laysTree_37 : decode (go_cc mx_X12_laysTree) 37 = .ok (.iconst 0, 1) := by decide +kernel
theorem dx_X12_laysTree_38 : decode (go_cc mx_X12_laysTree) 38 = .ok (.aload_n 0, 1) := by decide +kernel
theorem dx_X12_laysTree_39 : decode (go_cc mx_X12_laysTree) 39 = .ok (.invokevirtual 253, 3) := by decide +kernel
theorem dx_X12_laysTree_42 : decode (go_cc mx_X12_laysTree) 42 = .ok (.iconst 0, 1) := by decide +kernel
theorem dx_X12_laysTree_43 : decode (go_cc mx_X12_laysTree) 43 = .ok (.iconst (-1), 1) := by decide +kernel
theorem dx_X12_laysTree_44 : decode (go_cc mx_X12_laysTree) 44 = .ok (.invokevirtual 339, 3) := by decide +kernel
theorem dx_X12_laysTree_47 : decode (go_cc mx_X12_laysTree) 47 = .ok (.aload_n 0, 1) := by decide +kernel
theorem dx_X12_laysTree_48 : decode (go_cc mx_X12_laysTree) 48 = .ok (.getfield 325, 3) := by decide +kernel
theorem dx_X12_laysTree_51 : decode (go_cc mx_X12_laysTree) 51 = .ok (.ifCond .le 389, 3) := by decide +kernel
theorem dx_X12_laysTree_54 : decode (go_cc mx_X12_laysTree) 54 = .ok (.aload_n 0, 1) := by decide +kernel
theorem dx_X12_laysTree_55 : decode (go_cc mx_X12_laysTree) 55 = .ok (.dup, 1) := by decide +kernel
theorem dx_X12_laysTree_56 : decode (go_cc mx_X12_laysTree) 56 = .ok (.getfield 325, 3) := by decide +kernel
theorem dx_X12_laysTree_59 : decode (go_cc mx_X12_laysTree) 59 = .ok (.iconst 1, 1) := by decide +kernel
theorem dx_X12_laysTree_60 : decode (go_cc mx_X12_laysTree) 60 = .ok (.isub, 1) := by decide +kernel
theorem dx_X12_laysTree_61 : decode (go_cc mx_X12_laysTree) 61 = .ok (.putfield 325, 3) := by decide +kernel
theorem dx_X12_laysTree_64 : decode (go_cc mx_X12_laysTree) 64 = .ok (.aload_n 0, 1) := by decide +kernel
theorem dx_X12_laysTree_65 : decode (go_cc mx_X12_laysTree) 65 = .ok (.getfield 91, 3) := by decide +kernel
theorem dx_X12_laysTree_68 : decode (go_cc mx_X12_laysTree) 68 = .ok (.iconst 5, 1) := by decide +kernel
theorem dx_X12_laysTree_69 : decode (go_cc mx_X12_laysTree) 69 = .ok (.aload_n 0, 1) := by decide +kernel
theorem dx_X12_laysTree_70 : decode (go_cc mx_X12_laysTree) 70 = .ok (.getfield 325, 3) := by decide +kernel
theorem dx_X12_laysTree_73 : decode (go_cc mx_X12_laysTree) 73 = .ok (.imul, 1) := by decide +kernel
theorem dx_X12_laysTree_74 : decode (go_cc mx_X12_laysTree) 74 = .ok (.iaload, 1) := by decide +kernel
theorem dx_X12_laysTree_75 : decode (go_cc mx_X12_laysTree) 75 = .ok (.istore_n 3, 1) := by decide +kernel
theorem dx_X12_laysTree_76 : decode (go_cc mx_X12_laysTree) 76 = .ok (.aload_n 0, 1) := by decide +kernel
theorem dx_X12_laysTree_77 : decode (go_cc mx_X12_laysTree) 77 = .ok (.getfield 91, 3) := by decide +kernel
theorem dx_X12_laysTree_80 : decode (go_cc mx_X12_laysTree) 80 = .ok (.iconst 5, 1) := by decide +kernel
theorem dx_X12_laysTree_81 : decode (go_cc mx_X12_laysTree) 81 = .ok (.aload_n 0, 1) := by decide +kernel
theorem dx_X12_laysTree_82 : decode (go_cc mx_X12_laysTree) 82 = .ok (.getfield 325, 3) := by decide +kernel
theorem dx_X12_laysTree_85 : decode (go_cc mx_X12_laysTree) 85 = .ok (.imul, 1) := by decide +kernel
theorem dx_X12_laysTree_86 : decode (go_cc mx_X12_laysTree) 86 = .ok (.iconst 1, 1) := by decide +kernel
theorem dx_X12_laysTree_87 : decode (go_cc mx_X12_laysTree) 87 = .ok (.iadd, 1) := by decide +kernel
theorem dx_X12_laysTree_88 : decode (go_cc mx_X12_laysTree) 88 = .ok (.iaload, 1) := by decide +kernel
theorem dx_X12_laysTree_89 : decode (go_cc mx_X12_laysTree) 89 = .ok (.istore 4, 2) := by decide +kernel
theorem dx_X12_laysTree_91 : decode (go_cc mx_X12_laysTree) 91 = .ok (.aload_n 0, 1) := by decide +kernel
theorem dx_X12_laysTree_92 : decode (go_cc mx_X12_laysTree) 92 = .ok (.getfield 91, 3) := by decide +kernel
theorem dx_X12_laysTree_95 : decode (go_cc mx_X12_laysTree) 95 = .ok (.iconst 5, 1) := by decide +kernel
theorem dx_X12_laysTree_96 : decode (go_cc mx_X12_laysTree) 96 = .ok (.aload_n 0, 1) := by decide +kernel
theorem dx_X12_laysTree_97 : decode (go_cc mx_X12_laysTree) 97 = .ok (.getfield 325, 3) := by decide +kernel
theorem dx_X12_laysTree_100 : decode (go_cc mx_X12_laysTree) 100 = .ok (.imul, 1) := by decide +kernel
theorem dx_X12_laysTree_101 : decode (go_cc mx_X12_laysTree) 101 = .ok (.iconst 2, 1) := by decide +kernel
theorem dx_X12_laysTree_102 : decode (go_cc mx_X12_laysTree) 102 = .ok (.iadd, 1) := by decide +kernel
theorem dx_X12_laysTree_103 : decode (go_cc mx_X12_laysTree) 103 = .ok (.iaload, 1) := by decide +kernel
theorem dx_X12_laysTree_104 : decode (go_cc mx_X12_laysTree) 104 = .ok (.istore 5, 2) := by decide +kernel
theorem dx_X12_laysTree_106 : decode (go_cc mx_X12_laysTree) 106 = .ok (.aload_n 0, 1) := by decide +kernel
theorem dx_X12_laysTree_107 : decode (go_cc mx_X12_laysTree) 107 = .ok (.getfield 91, 3) := by decide +kernel
theorem dx_X12_laysTree_110 : decode (go_cc mx_X12_laysTree) 110 = .ok (.iconst 5, 1) := by decide +kernel
theorem dx_X12_laysTree_111 : decode (go_cc mx_X12_laysTree) 111 = .ok (.aload_n 0, 1) := by decide +kernel
theorem dx_X12_laysTree_112 : decode (go_cc mx_X12_laysTree) 112 = .ok (.getfield 325, 3) := by decide +kernel
theorem dx_X12_laysTree_115 : decode (go_cc mx_X12_laysTree) 115 = .ok (.imul, 1) := by decide +kernel
theorem dx_X12_laysTree_116 : decode (go_cc mx_X12_laysTree) 116 = .ok (.iconst 3, 1) := by decide +kernel
theorem dx_X12_laysTree_117 : decode (go_cc mx_X12_laysTree) 117 = .ok (.iadd, 1) := by decide +kernel
theorem dx_X12_laysTree_118 : decode (go_cc mx_X12_laysTree) 118 = .ok (.iaload, 1) := by decide +kernel
theorem dx_X12_laysTree_119 : decode (go_cc mx_X12_laysTree) 119 = .ok (.iconst 1, 1) := by decide +kernel
theorem dx_X12_laysTree_120 : decode (go_cc mx_X12_laysTree) 120 = .ok (.iload_n 3, 1) := by decide +kernel
theorem dx_X12_laysTree_121 : decode (go_cc mx_X12_laysTree) 121 = .ok (.ishl, 1) := by decide +kernel
theorem dx_X12_laysTree_122 : decode (go_cc mx_X12_laysTree) 122 = .ok (.ior, 1) := by decide +kernel
theorem dx_X12_laysTree_123 : decode (go_cc mx_X12_laysTree) 123 = .ok (.istore 6, 2) := by decide +kernel
theorem dx_X12_laysTree_125 : decode (go_cc mx_X12_laysTree) 125 = .ok (.aload_n 0, 1) := by decide +kernel
theorem dx_X12_laysTree_126 : decode (go_cc mx_X12_laysTree) 126 = .ok (.getfield 91, 3) := by decide +kernel
theorem dx_X12_laysTree_129 : decode (go_cc mx_X12_laysTree) 129 = .ok (.iconst 5, 1) := by decide +kernel
theorem dx_X12_laysTree_130 : decode (go_cc mx_X12_laysTree) 130 = .ok (.aload_n 0, 1) := by decide +kernel
theorem dx_X12_laysTree_131 : decode (go_cc mx_X12_laysTree) 131 = .ok (.getfield 325, 3) := by decide +kernel
theorem dx_X12_laysTree_134 : decode (go_cc mx_X12_laysTree) 134 = .ok (.imul, 1) := by decide +kernel
theorem dx_X12_laysTree_135 : decode (go_cc mx_X12_laysTree) 135 = .ok (.iconst 4, 1) := by decide +kernel
theorem dx_X12_laysTree_136 : decode (go_cc mx_X12_laysTree) 136 = .ok (.iadd, 1) := by decide +kernel
theorem dx_X12_laysTree_137 : decode (go_cc mx_X12_laysTree) 137 = .ok (.iaload, 1) := by decide +kernel
theorem dx_X12_laysTree_138 : decode (go_cc mx_X12_laysTree) 138 = .ok (.istore 7, 2) := by decide +kernel
theorem dx_X12_laysTree_140 : decode (go_cc mx_X12_laysTree) 140 = .ok (.aload_n 0, 1) := by decide +kernel
theorem dx_X12_laysTree_141 : decode (go_cc mx_X12_laysTree) 141 = .ok (.aload_n 0, 1) := by decide +kernel
theorem dx_X12_laysTree_142 : decode (go_cc mx_X12_laysTree) 142 = .ok (.getfield 100, 3) := by decide +kernel
theorem dx_X12_laysTree_145 : decode (go_cc mx_X12_laysTree) 145 = .ok (.aload_n 0, 1) := by decide +kernel
theorem dx_X12_laysTree_146 : decode (go_cc mx_X12_laysTree) 146 = .ok (.getfield 325, 3) := by decide +kernel
theorem dx_X12_laysTree_149 : decode (go_cc mx_X12_laysTree) 149 = .ok (.laload, 1) := by decide +kernel
theorem dx_X12_laysTree_150 : decode (go_cc mx_X12_laysTree) 150 = .ok (.putfield 328, 3) := by decide +kernel
theorem dx_X12_laysTree_153 : decode (go_cc mx_X12_laysTree) 153 = .ok (.iconst 0, 1) := by decide +kernel
theorem dx_X12_laysTree_154 : decode (go_cc mx_X12_laysTree) 154 = .ok (.istore 8, 2) := by decide +kernel
theorem dx_X12_laysTree_156 : decode (go_cc mx_X12_laysTree) 156 = .ok (.aload_n 0, 1) := by decide +kernel
theorem dx_X12_laysTree_157 : decode (go_cc mx_X12_laysTree) 157 = .ok (.iload 8, 2) := by decide +kernel
theorem dx_X12_laysTree_159 : decode (go_cc mx_X12_laysTree) 159 = .ok (.invokevirtual 148, 3) := by decide +kernel
theorem dx_X12_laysTree_162 : decode (go_cc mx_X12_laysTree) 162 = .ok (.ifCond .eq 35, 3) := by decide +kernel
theorem dx_X12_laysTree_165 : decode (go_cc mx_X12_laysTree) 165 = .ok (.aload_n 0, 1) := by decide +kernel
theorem dx_X12_laysTree_166 : decode (go_cc mx_X12_laysTree) 166 = .ok (.iload 8, 2) := by decide +kernel
theorem dx_X12_laysTree_168 : decode (go_cc mx_X12_laysTree) 168 = .ok (.invokevirtual 184, 3) := by decide +kernel
theorem dx_X12_laysTree_171 : decode (go_cc mx_X12_laysTree) 171 = .ok (.iload_n 3, 1) := by decide +kernel
theorem dx_X12_laysTree_172 : decode (go_cc mx_X12_laysTree) 172 = .ok (.if_icmp .ne 25, 3) := by decide +kernel
theorem dx_X12_laysTree_175 : decode (go_cc mx_X12_laysTree) 175 = .ok (.aload_n 0, 1) := by decide +kernel
theorem dx_X12_laysTree_176 : decode (go_cc mx_X12_laysTree) 176 = .ok (.getfield 328, 3) := by decide +kernel
theorem dx_X12_laysTree_179 : decode (go_cc mx_X12_laysTree) 179 = .ok (.aload_n 0, 1) := by decide +kernel
theorem dx_X12_laysTree_180 : decode (go_cc mx_X12_laysTree) 180 = .ok (.iload 8, 2) := by decide +kernel
theorem dx_X12_laysTree_182 : decode (go_cc mx_X12_laysTree) 182 = .ok (.iload 4, 2) := by decide +kernel
theorem dx_X12_laysTree_184 : decode (go_cc mx_X12_laysTree) 184 = .ok (.iload 5, 2) := by decide +kernel
theorem dx_X12_laysTree_186 : decode (go_cc mx_X12_laysTree) 186 = .ok (.iload 6, 2) := by decide +kernel
theorem dx_X12_laysTree_188 : decode (go_cc mx_X12_laysTree) 188 = .ok (.invokevirtual 342, 3) := by decide +kernel
theorem dx_X12_laysTree_191 : decode (go_cc mx_X12_laysTree) 191 = .ok (.invokestatic 332, 3) := by decide +kernel
theorem dx_X12_laysTree_194 : decode (go_cc mx_X12_laysTree) 194 = .ok (.ifCond .eq 49, 3) := by decide +kernel
theorem dx_X12_laysTree_197 : decode (go_cc mx_X12_laysTree) 197 = .ok (.aload_n 0, 1) := by decide +kernel
theorem dx_X12_laysTree_198 : decode (go_cc mx_X12_laysTree) 198 = .ok (.iload 8, 2) := by decide +kernel
theorem dx_X12_laysTree_200 : decode (go_cc mx_X12_laysTree) 200 = .ok (.invokevirtual 148, 3) := by decide +kernel
theorem dx_X12_laysTree_203 : decode (go_cc mx_X12_laysTree) 203 = .ok (.ifCond .le 34, 3) := by decide +kernel
theorem dx_X12_laysTree_206 : decode (go_cc mx_X12_laysTree) 206 = .ok (.aload_n 0, 1) := by decide +kernel
theorem dx_X12_laysTree_207 : decode (go_cc mx_X12_laysTree) 207 = .ok (.iload 8, 2) := by decide +kernel
theorem dx_X12_laysTree_209 : decode (go_cc mx_X12_laysTree) 209 = .ok (.invokevirtual 184, 3) := by decide +kernel
theorem dx_X12_laysTree_212 : decode (go_cc mx_X12_laysTree) 212 = .ok (.iload_n 3, 1) := by decide +kernel
theorem dx_X12_laysTree_213 : decode (go_cc mx_X12_laysTree) 213 = .ok (.if_icmp .ne 24, 3) := by decide +kernel
theorem dx_X12_laysTree_216 : decode (go_cc mx_X12_laysTree) 216 = .ok (.aload_n 0, 1) := by decide +kernel
theorem dx_X12_laysTree_217 : decode (go_cc mx_X12_laysTree) 217 = .ok (.dup, 1) := by decide +kernel
theorem dx_X12_laysTree_218 : decode (go_cc mx_X12_laysTree) 218 = .ok (.getfield 328, 3) := by decide +kernel
theorem dx_X12_laysTree_221 : decode (go_cc mx_X12_laysTree) 221 = .ok (.aload_n 0, 1) := by decide +kernel
theorem dx_X12_laysTree_222 : decode (go_cc mx_X12_laysTree) 222 = .ok (.iload 8, 2) := by decide +kernel
theorem dx_X12_laysTree_224 : decode (go_cc mx_X12_laysTree) 224 = .ok (.iload 4, 2) := by decide +kernel
theorem dx_X12_laysTree_226 : decode (go_cc mx_X12_laysTree) 226 = .ok (.iload 5, 2) := by decide +kernel
theorem dx_X12_laysTree_228 : decode (go_cc mx_X12_laysTree) 228 = .ok (.iload 6, 2) := by decide +kernel
theorem dx_X12_laysTree_230 : decode (go_cc mx_X12_laysTree) 230 = .ok (.invokevirtual 342, 3) := by decide +kernel
theorem dx_X12_laysTree_233 : decode (go_cc mx_X12_laysTree) 233 = .ok (.lsub, 1) := by decide +kernel
theorem dx_X12_laysTree_234 : decode (go_cc mx_X12_laysTree) 234 = .ok (.putfield 328, 3) := by decide +kernel
theorem dx_X12_laysTree_237 : decode (go_cc mx_X12_laysTree) 237 = .ok (.iinc 8 1, 3) := by decide +kernel
theorem dx_X12_laysTree_240 : decode (go_cc mx_X12_laysTree) 240 = .ok (.goto (-84), 3) := by decide +kernel
theorem dx_X12_laysTree_243 : decode (go_cc mx_X12_laysTree) 243 = .ok (.aload_n 0, 1) := by decide +kernel
theorem dx_X12_laysTree_244 : decode (go_cc mx_X12_laysTree) 244 = .ok (.iload 8, 2) := by decide +kernel
theorem dx_X12_laysTree_246 : decode (go_cc mx_X12_laysTree) 246 = .ok (.iload 4, 2) := by decide +kernel
theorem dx_X12_laysTree_248 : decode (go_cc mx_X12_laysTree) 248 = .ok (.iload 5, 2) := by decide +kernel
theorem dx_X12_laysTree_250 : decode (go_cc mx_X12_laysTree) 250 = .ok (.invokevirtual 346, 3) := by decide +kernel
theorem dx_X12_laysTree_253 : decode (go_cc mx_X12_laysTree) 253 = .ok (.aload_n 0, 1) := by decide +kernel
theorem dx_X12_laysTree_254 : decode (go_cc mx_X12_laysTree) 254 = .ok (.iload 8, 2) := by decide +kernel
theorem dx_X12_laysTree_256 : decode (go_cc mx_X12_laysTree) 256 = .ok (.invokevirtual 349, 3) := by decide +kernel
theorem dx_X12_laysTree_259 : decode (go_cc mx_X12_laysTree) 259 = .ok (.aload_n 0, 1) := by decide +kernel
theorem dx_X12_laysTree_260 : decode (go_cc mx_X12_laysTree) 260 = .ok (.getfield 336, 3) := by decide +kernel
theorem dx_X12_laysTree_263 : decode (go_cc mx_X12_laysTree) 263 = .ok (.istore 9, 2) := by decide +kernel
theorem dx_X12_laysTree_265 : decode (go_cc mx_X12_laysTree) 265 = .ok (.aload_n 0, 1) := by decide +kernel
theorem dx_X12_laysTree_266 : decode (go_cc mx_X12_laysTree) 266 = .ok (.getfield 76, 3) := by decide +kernel
theorem dx_X12_laysTree_269 : decode (go_cc mx_X12_laysTree) 269 = .ok (.iload 9, 2) := by decide +kernel
theorem dx_X12_laysTree_271 : decode (go_cc mx_X12_laysTree) 271 = .ok (.iload 8, 2) := by decide +kernel
theorem dx_X12_laysTree_273 : decode (go_cc mx_X12_laysTree) 273 = .ok (.iastore, 1) := by decide +kernel
theorem dx_X12_laysTree_274 : decode (go_cc mx_X12_laysTree) 274 = .ok (.aload_n 0, 1) := by decide +kernel
theorem dx_X12_laysTree_275 : decode (go_cc mx_X12_laysTree) 275 = .ok (.getfield 79, 3) := by decide +kernel
theorem dx_X12_laysTree_278 : decode (go_cc mx_X12_laysTree) 278 = .ok (.iload 9, 2) := by decide +kernel
theorem dx_X12_laysTree_280 : decode (go_cc mx_X12_laysTree) 280 = .ok (.iload 4, 2) := by decide +kernel
theorem dx_X12_laysTree_282 : decode (go_cc mx_X12_laysTree) 282 = .ok (.iastore, 1) := by decide +kernel
theorem dx_X12_laysTree_283 : decode (go_cc mx_X12_laysTree) 283 = .ok (.aload_n 0, 1) := by decide +kernel
theorem dx_X12_laysTree_284 : decode (go_cc mx_X12_laysTree) 284 = .ok (.getfield 82, 3) := by decide +kernel
theorem dx_X12_laysTree_287 : decode (go_cc mx_X12_laysTree) 287 = .ok (.iload 9, 2) := by decide +kernel
theorem dx_X12_laysTree_289 : decode (go_cc mx_X12_laysTree) 289 = .ok (.iload 5, 2) := by decide +kernel
theorem dx_X12_laysTree_291 : decode (go_cc mx_X12_laysTree) 291 = .ok (.iastore, 1) := by decide +kernel
theorem dx_X12_laysTree_292 : decode (go_cc mx_X12_laysTree) 292 = .ok (.aload_n 0, 1) := by decide +kernel
theorem dx_X12_laysTree_293 : decode (go_cc mx_X12_laysTree) 293 = .ok (.getfield 85, 3) := by decide +kernel
theorem dx_X12_laysTree_296 : decode (go_cc mx_X12_laysTree) 296 = .ok (.iload 9, 2) := by decide +kernel
theorem dx_X12_laysTree_298 : decode (go_cc mx_X12_laysTree) 298 = .ok (.iload 7, 2) := by decide +kernel
theorem dx_X12_laysTree_300 : decode (go_cc mx_X12_laysTree) 300 = .ok (.iastore, 1) := by decide +kernel
theorem dx_X12_laysTree_301 : decode (go_cc mx_X12_laysTree) 301 = .ok (.aload_n 0, 1) := by decide +kernel
theorem dx_X12_laysTree_302 : decode (go_cc mx_X12_laysTree) 302 = .ok (.getfield 88, 3) := by decide +kernel
theorem dx_X12_laysTree_305 : decode (go_cc mx_X12_laysTree) 305 = .ok (.iload 9, 2) := by decide +kernel
theorem dx_X12_laysTree_307 : decode (go_cc mx_X12_laysTree) 307 = .ok (.iload 7, 2) := by decide +kernel
theorem dx_X12_laysTree_309 : decode (go_cc mx_X12_laysTree) 309 = .ok (.iconst (-1), 1) := by decide +kernel
theorem dx_X12_laysTree_310 : decode (go_cc mx_X12_laysTree) 310 = .ok (.if_icmp .ne 7, 3) := by decide +kernel
theorem dx_X12_laysTree_313 : decode (go_cc mx_X12_laysTree) 313 = .ok (.iconst 0, 1) := by decide +kernel
theorem dx_X12_laysTree_314 : decode (go_cc mx_X12_laysTree) 314 = .ok (.goto 12, 3) := by decide +kernel
theorem dx_X12_laysTree_317 : decode (go_cc mx_X12_laysTree) 317 = .ok (.aload_n 0, 1) := by decide +kernel
theorem dx_X12_laysTree_318 : decode (go_cc mx_X12_laysTree) 318 = .ok (.getfield 88, 3) := by decide +kernel
theorem dx_X12_laysTree_321 : decode (go_cc mx_X12_laysTree) 321 = .ok (.iload 7, 2) := by decide +kernel
theorem dx_X12_laysTree_323 : decode (go_cc mx_X12_laysTree) 323 = .ok (.iaload, 1) := by decide +kernel
theorem dx_X12_laysTree_324 : decode (go_cc mx_X12_laysTree) 324 = .ok (.iconst 1, 1) := by decide +kernel
theorem dx_X12_laysTree_325 : decode (go_cc mx_X12_laysTree) 325 = .ok (.iadd, 1) := by decide +kernel
theorem dx_X12_laysTree_326 : decode (go_cc mx_X12_laysTree) 326 = .ok (.iastore, 1) := by decide +kernel
theorem dx_X12_laysTree_327 : decode (go_cc mx_X12_laysTree) 327 = .ok (.aload_n 0, 1) := by decide +kernel
theorem dx_X12_laysTree_328 : decode (go_cc mx_X12_laysTree) 328 = .ok (.dup, 1) := by decide +kernel
theorem dx_X12_laysTree_329 : decode (go_cc mx_X12_laysTree) 329 = .ok (.getfield 336, 3) := by decide +kernel
theorem dx_X12_laysTree_332 : decode (go_cc mx_X12_laysTree) 332 = .ok (.iconst 1, 1) := by decide +kernel
theorem dx_X12_laysTree_333 : decode (go_cc mx_X12_laysTree) 333 = .ok (.iadd, 1) := by decide +kernel
theorem dx_X12_laysTree_334 : decode (go_cc mx_X12_laysTree) 334 = .ok (.putfield 336, 3) := by decide +kernel
theorem dx_X12_laysTree_337 : decode (go_cc mx_X12_laysTree) 337 = .ok (.aload_n 0, 1) := by decide +kernel
theorem dx_X12_laysTree_338 : decode (go_cc mx_X12_laysTree) 338 = .ok (.iload 8, 2) := by decide +kernel
theorem dx_X12_laysTree_340 : decode (go_cc mx_X12_laysTree) 340 = .ok (.invokevirtual 148, 3) := by decide +kernel
theorem dx_X12_laysTree_343 : decode (go_cc mx_X12_laysTree) 343 = .ok (.iconst 1, 1) := by decide +kernel
theorem dx_X12_laysTree_344 : decode (go_cc mx_X12_laysTree) 344 = .ok (.isub, 1) := by decide +kernel
theorem dx_X12_laysTree_345 : decode (go_cc mx_X12_laysTree) 345 = .ok (.istore 10, 2) := by decide +kernel
theorem dx_X12_laysTree_347 : decode (go_cc mx_X12_laysTree) 347 = .ok (.iload 10, 2) := by decide +kernel
theorem dx_X12_laysTree_349 : decode (go_cc mx_X12_laysTree) 349 = .ok (.ifCond .lt 88, 3) := by decide +kernel
theorem dx_X12_laysTree_352 : decode (go_cc mx_X12_laysTree) 352 = .ok (.aload_n 0, 1) := by decide +kernel
theorem dx_X12_laysTree_353 : decode (go_cc mx_X12_laysTree) 353 = .ok (.iload 8, 2) := by decide +kernel
theorem dx_X12_laysTree_355 : decode (go_cc mx_X12_laysTree) 355 = .ok (.iload 10, 2) := by decide +kernel
theorem dx_X12_laysTree_357 : decode (go_cc mx_X12_laysTree) 357 = .ok (.invokevirtual 190, 3) := by decide +kernel
theorem dx_X12_laysTree_360 : decode (go_cc mx_X12_laysTree) 360 = .ok (.invokestatic 212, 3) := by decide +kernel
theorem dx_X12_laysTree_363 : decode (go_cc mx_X12_laysTree) 363 = .ok (.ifCond .ne 6, 3) := by decide +kernel
theorem dx_X12_laysTree_366 : decode (go_cc mx_X12_laysTree) 366 = .ok (.goto 65, 3) := by decide +kernel
theorem dx_X12_laysTree_369 : decode (go_cc mx_X12_laysTree) 369 = .ok (.aload_n 0, 1) := by decide +kernel
theorem dx_X12_laysTree_370 : decode (go_cc mx_X12_laysTree) 370 = .ok (.getfield 100, 3) := by decide +kernel
theorem dx_X12_laysTree_373 : decode (go_cc mx_X12_laysTree) 373 = .ok (.aload_n 0, 1) := by decide +kernel
theorem dx_X12_laysTree_374 : decode (go_cc mx_X12_laysTree) 374 = .ok (.getfield 325, 3) := by decide +kernel
theorem dx_X12_laysTree_377 : decode (go_cc mx_X12_laysTree) 377 = .ok (.aload_n 0, 1) := by decide +kernel
theorem dx_X12_laysTree_378 : decode (go_cc mx_X12_laysTree) 378 = .ok (.getfield 97, 3) := by decide +kernel
theorem dx_X12_laysTree_381 : decode (go_cc mx_X12_laysTree) 381 = .ok (.iload 10, 2) := by decide +kernel
theorem dx_X12_laysTree_383 : decode (go_cc mx_X12_laysTree) 383 = .ok (.laload, 1) := by decide +kernel
theorem dx_X12_laysTree_384 : decode (go_cc mx_X12_laysTree) 384 = .ok (.lastore, 1) := by decide +kernel
theorem dx_X12_laysTree_385 : decode (go_cc mx_X12_laysTree) 385 = .ok (.aload_n 0, 1) := by decide +kernel
theorem dx_X12_laysTree_386 : decode (go_cc mx_X12_laysTree) 386 = .ok (.aload_n 0, 1) := by decide +kernel
theorem dx_X12_laysTree_387 : decode (go_cc mx_X12_laysTree) 387 = .ok (.iload 8, 2) := by decide +kernel
theorem dx_X12_laysTree_389 : decode (go_cc mx_X12_laysTree) 389 = .ok (.iload 10, 2) := by decide +kernel
theorem dx_X12_laysTree_391 : decode (go_cc mx_X12_laysTree) 391 = .ok (.invokevirtual 190, 3) := by decide +kernel
theorem dx_X12_laysTree_394 : decode (go_cc mx_X12_laysTree) 394 = .ok (.aload_n 0, 1) := by decide +kernel
theorem dx_X12_laysTree_395 : decode (go_cc mx_X12_laysTree) 395 = .ok (.getfield 94, 3) := by decide +kernel
theorem dx_X12_laysTree_398 : decode (go_cc mx_X12_laysTree) 398 = .ok (.iload 10, 2) := by decide +kernel
theorem dx_X12_laysTree_400 : decode (go_cc mx_X12_laysTree) 400 = .ok (.iaload, 1) := by decide +kernel
theorem dx_X12_laysTree_401 : decode (go_cc mx_X12_laysTree) 401 = .ok (.aload_n 0, 1) := by decide +kernel
theorem dx_X12_laysTree_402 : decode (go_cc mx_X12_laysTree) 402 = .ok (.getfield 94, 3) := by decide +kernel
theorem dx_X12_laysTree_405 : decode (go_cc mx_X12_laysTree) 405 = .ok (.iload 10, 2) := by decide +kernel
theorem dx_X12_laysTree_407 : decode (go_cc mx_X12_laysTree) 407 = .ok (.iconst 1, 1) := by decide +kernel
theorem dx_X12_laysTree_408 : decode (go_cc mx_X12_laysTree) 408 = .ok (.iadd, 1) := by decide +kernel
theorem dx_X12_laysTree_409 : decode (go_cc mx_X12_laysTree) 409 = .ok (.iaload, 1) := by decide +kernel
theorem dx_X12_laysTree_410 : decode (go_cc mx_X12_laysTree) 410 = .ok (.aload_n 0, 1) := by decide +kernel
theorem dx_X12_laysTree_411 : decode (go_cc mx_X12_laysTree) 411 = .ok (.iload 8, 2) := by decide +kernel
theorem dx_X12_laysTree_413 : decode (go_cc mx_X12_laysTree) 413 = .ok (.invokevirtual 148, 3) := by decide +kernel
theorem dx_X12_laysTree_416 : decode (go_cc mx_X12_laysTree) 416 = .ok (.iconst 1, 1) := by decide +kernel
theorem dx_X12_laysTree_417 : decode (go_cc mx_X12_laysTree) 417 = .ok (.if_icmp .ne 8, 3) := by decide +kernel
theorem dx_X12_laysTree_420 : decode (go_cc mx_X12_laysTree) 420 = .ok (.iload 6, 2) := by decide +kernel
theorem dx_X12_laysTree_422 : decode (go_cc mx_X12_laysTree) 422 = .ok (.goto 4, 3) := by decide +kernel
theorem dx_X12_laysTree_425 : decode (go_cc mx_X12_laysTree) 425 = .ok (.iconst 0, 1) := by decide +kernel
theorem dx_X12_laysTree_426 : decode (go_cc mx_X12_laysTree) 426 = .ok (.iload 9, 2) := by decide +kernel
theorem dx_X12_laysTree_428 : decode (go_cc mx_X12_laysTree) 428 = .ok (.invokevirtual 339, 3) := by decide +kernel
theorem dx_X12_laysTree_431 : decode (go_cc mx_X12_laysTree) 431 = .ok (.iinc 10 (-1), 3) := by decide +kernel
theorem dx_X12_laysTree_434 : decode (go_cc mx_X12_laysTree) 434 = .ok (.goto (-87), 3) := by decide +kernel
theorem dx_X12_laysTree_437 : decode (go_cc mx_X12_laysTree) 437 = .ok (.goto (-390), 3) := by decide +kernel
theorem dx_X12_laysTree_440 : decode (go_cc mx_X12_laysTree) 440 = .ok (.return_, 1) := by decide +kernel
theorem dx_X12_nodes_0 : decode (go_cc mx_X12_nodes) 0 = .ok (.aload_n 0, 1) := by decide +kernel
theorem dx_X12_nodes_1 : decode (go_cc mx_X12_nodes) 1 = .ok (.iconst 0, 1) := by decide +kernel
theorem dx_X12_nodes_2 : decode (go_cc mx_X12_nodes) 2 = .ok (.putfield 139, 3) := by decide +kernel
theorem dx_X12_nodes_5 : decode (go_cc mx_X12_nodes) 5 = .ok (.aload_n 0, 1) := by decide +kernel
theorem dx_X12_nodes_6 : decode (go_cc mx_X12_nodes) 6 = .ok (.lconst 0, 1) := by decide +kernel
theorem dx_X12_nodes_7 : decode (go_cc mx_X12_nodes) 7 = .ok (.invokevirtual 352, 3) := by decide +kernel
theorem dx_X12_nodes_10 : decode (go_cc mx_X12_nodes) 10 = .ok (.aload_n 0, 1) := by decide +kernel
theorem dx_X12_nodes_11 : decode (go_cc mx_X12_nodes) 11 = .ok (.getfield 336, 3) := by decide +kernel
theorem dx_X12_nodes_14 : decode (go_cc mx_X12_nodes) 14 = .ok (.ireturn, 1) := by decide +kernel
theorem dx_X12_node_0 : decode (go_cc mx_X12_node) 0 = .ok (.aload_n 0, 1) := by decide +kernel
theorem dx_X12_node_1 : decode (go_cc mx_X12_node) 1 = .ok (.iconst 0, 1) := by decide +kernel
theorem dx_X12_node_2 : decode (go_cc mx_X12_node) 2 = .ok (.putfield 139, 3) := by decide +kernel
theorem dx_X12_node_5 : decode (go_cc mx_X12_node) 5 = .ok (.aload_n 0, 1) := by decide +kernel
theorem dx_X12_node_6 : decode (go_cc mx_X12_node) 6 = .ok (.lconst 0, 1) := by decide +kernel
theorem dx_X12_node_7 : decode (go_cc mx_X12_node) 7 = .ok (.invokevirtual 352, 3) := by decide +kernel
theorem dx_X12_node_10 : decode (go_cc mx_X12_node) 10 = .ok (.iload_n 1, 1) := by decide +kernel
theorem dx_X12_node_11 : decode (go_cc mx_X12_node) 11 = .ok (.i2l, 1) := by decide +kernel
theorem dx_X12_node_12 : decode (go_cc mx_X12_node) 12 = .ok (.lconst 0, 1) := by decide +kernel
theorem dx_X12_node_13 : decode (go_cc mx_X12_node) 13 = .ok (.aload_n 0, 1) := by decide +kernel
theorem dx_X12_node_14 : decode (go_cc mx_X12_node) 14 = .ok (.getfield 336, 3) := by decide +kernel
theorem dx_X12_node_17 : decode (go_cc mx_X12_node) 17 = .ok (.iconst 1, 1) := by decide +kernel
theorem dx_X12_node_18 : decode (go_cc mx_X12_node) 18 = .ok (.isub, 1) := by decide +kernel
theorem dx_X12_node_19 : decode (go_cc mx_X12_node) 19 = .ok (.i2l, 1) := by decide +kernel
theorem dx_X12_node_20 : decode (go_cc mx_X12_node) 20 = .ok (.invokestatic 144, 3) := by decide +kernel
theorem dx_X12_node_23 : decode (go_cc mx_X12_node) 23 = .ok (.ifCond .eq 24, 3) := by decide +kernel
theorem dx_X12_node_26 : decode (go_cc mx_X12_node) 26 = .ok (.iload_n 2, 1) := by decide +kernel
theorem dx_X12_node_27 : decode (go_cc mx_X12_node) 27 = .ok (.i2l, 1) := by decide +kernel
theorem dx_X12_node_28 : decode (go_cc mx_X12_node) 28 = .ok (.lconst 0, 1) := by decide +kernel
theorem dx_X12_node_29 : decode (go_cc mx_X12_node) 29 = .ok (.ldc2_w 356, 3) := by decide +kernel
theorem dx_X12_node_32 : decode (go_cc mx_X12_node) 32 = .ok (.invokestatic 144, 3) := by decide +kernel
theorem dx_X12_node_35 : decode (go_cc mx_X12_node) 35 = .ok (.ifCond .eq 12, 3) := by decide +kernel
theorem dx_X12_node_38 : decode (go_cc mx_X12_node) 38 = .ok (.aload_n 0, 1) := by decide +kernel
theorem dx_X12_node_39 : decode (go_cc mx_X12_node) 39 = .ok (.iload_n 1, 1) := by decide +kernel
theorem dx_X12_node_40 : decode (go_cc mx_X12_node) 40 = .ok (.iload_n 2, 1) := by decide +kernel
theorem dx_X12_node_41 : decode (go_cc mx_X12_node) 41 = .ok (.invokevirtual 358, 3) := by decide +kernel
theorem dx_X12_node_44 : decode (go_cc mx_X12_node) 44 = .ok (.goto 5, 3) := by decide +kernel
theorem dx_X12_node_47 : decode (go_cc mx_X12_node) 47 = .ok (.bipush (-2), 2) := by decide +kernel
theorem dx_X12_node_49 : decode (go_cc mx_X12_node) 49 = .ok (.ireturn, 1) := by decide +kernel
theorem dx_X12_tree_0 : decode (go_cc mx_X12_tree) 0 = .ok (.aload_n 0, 1) := by decide +kernel
theorem dx_X12_tree_1 : decode (go_cc mx_X12_tree) 1 = .ok (.iconst 0, 1) := by decide +kernel
theorem dx_X12_tree_2 : decode (go_cc mx_X12_tree) 2 = .ok (.putfield 139, 3) := by decide +kernel
theorem dx_X12_tree_5 : decode (go_cc mx_X12_tree) 5 = .ok (.lconst 0, 1) := by decide +kernel
theorem dx_X12_tree_6 : decode (go_cc mx_X12_tree) 6 = .ok (.lstore 4, 2) := by decide +kernel
theorem dx_X12_tree_8 : decode (go_cc mx_X12_tree) 8 = .ok (.aload_n 0, 1) := by decide +kernel
theorem dx_X12_tree_9 : decode (go_cc mx_X12_tree) 9 = .ok (.invokevirtual 272, 3) := by decide +kernel
theorem dx_X12_tree_12 : decode (go_cc mx_X12_tree) 12 = .ok (.ifCond .eq 30, 3) := by decide +kernel
theorem dx_X12_tree_15 : decode (go_cc mx_X12_tree) 15 = .ok (.aload_n 0, 1) := by decide +kernel
theorem dx_X12_tree_16 : decode (go_cc mx_X12_tree) 16 = .ok (.invokevirtual 319, 3) := by decide +kernel
theorem dx_X12_tree_19 : decode (go_cc mx_X12_tree) 19 = .ok (.aload_n 0, 1) := by decide +kernel
theorem dx_X12_tree_20 : decode (go_cc mx_X12_tree) 20 = .ok (.getfield 64, 3) := by decide +kernel
theorem dx_X12_tree_23 : decode (go_cc mx_X12_tree) 23 = .ok (.sipush 256, 3) := by decide +kernel
theorem dx_X12_tree_26 : decode (go_cc mx_X12_tree) 26 = .ok (.aload_n 0, 1) := by decide +kernel
theorem dx_X12_tree_27 : decode (go_cc mx_X12_tree) 27 = .ok (.getfield 7, 3) := by decide +kernel
theorem dx_X12_tree_30 : decode (go_cc mx_X12_tree) 30 = .ok (.bipush 112, 2) := by decide +kernel
theorem dx_X12_tree_32 : decode (go_cc mx_X12_tree) 32 = .ok (.iaload, 1) := by decide +kernel
theorem dx_X12_tree_33 : decode (go_cc mx_X12_tree) 33 = .ok (.imul, 1) := by decide +kernel
theorem dx_X12_tree_34 : decode (go_cc mx_X12_tree) 34 = .ok (.aload_n 0, 1) := by decide +kernel
theorem dx_X12_tree_35 : decode (go_cc mx_X12_tree) 35 = .ok (.invokevirtual 253, 3) := by decide +kernel
theorem dx_X12_tree_38 : decode (go_cc mx_X12_tree) 38 = .ok (.iadd, 1) := by decide +kernel
theorem dx_X12_tree_39 : decode (go_cc mx_X12_tree) 39 = .ok (.laload, 1) := by decide +kernel
theorem dx_X12_tree_40 : decode (go_cc mx_X12_tree) 40 = .ok (.lstore 4, 2) := by decide +kernel
theorem dx_X12_tree_42 : decode (go_cc mx_X12_tree) 42 = .ok (.lload 4, 2) := by decide +kernel
theorem dx_X12_tree_44 : decode (go_cc mx_X12_tree) 44 = .ok (.ldc2_w 288, 3) := by decide +kernel
theorem dx_X12_tree_47 : decode (go_cc mx_X12_tree) 47 = .ok (.lcmp, 1) := by decide +kernel
theorem dx_X12_tree_48 : decode (go_cc mx_X12_tree) 48 = .ok (.ifCond .ne 6, 3) := by decide +kernel
theorem dx_X12_tree_51 : decode (go_cc mx_X12_tree) 51 = .ok (.bipush (-7), 2) := by decide +kernel
theorem dx_X12_tree_53 : decode (go_cc mx_X12_tree) 53 = .ok (.ireturn, 1) := by decide +kernel
theorem dx_X12_tree_54 : decode (go_cc mx_X12_tree) 54 = .ok (.iload_n 1, 1) := by decide +kernel
theorem dx_X12_tree_55 : decode (go_cc mx_X12_tree) 55 = .ok (.ifCond .lt 11, 3) := by decide +kernel
theorem dx_X12_tree_58 : decode (go_cc mx_X12_tree) 58 = .ok (.iload_n 1, 1) := by decide +kernel
theorem dx_X12_tree_59 : decode (go_cc mx_X12_tree) 59 = .ok (.i2l, 1) := by decide +kernel
theorem dx_X12_tree_60 : decode (go_cc mx_X12_tree) 60 = .ok (.lload 4, 2) := by decide +kernel
theorem dx_X12_tree_62 : decode (go_cc mx_X12_tree) 62 = .ok (.lcmp, 1) := by decide +kernel
theorem dx_X12_tree_63 : decode (go_cc mx_X12_tree) 63 = .ok (.ifCond .lt 6, 3) := by decide +kernel
theorem dx_X12_tree_66 : decode (go_cc mx_X12_tree) 66 = .ok (.bipush (-3), 2) := by decide +kernel
theorem dx_X12_tree_68 : decode (go_cc mx_X12_tree) 68 = .ok (.ireturn, 1) := by decide +kernel
theorem dx_X12_tree_69 : decode (go_cc mx_X12_tree) 69 = .ok (.aload_n 0, 1) := by decide +kernel
theorem dx_X12_tree_70 : decode (go_cc mx_X12_tree) 70 = .ok (.iload_n 1, 1) := by decide +kernel
theorem dx_X12_tree_71 : decode (go_cc mx_X12_tree) 71 = .ok (.i2l, 1) := by decide +kernel
theorem dx_X12_tree_72 : decode (go_cc mx_X12_tree) 72 = .ok (.invokevirtual 352, 3) := by decide +kernel
theorem dx_X12_tree_75 : decode (go_cc mx_X12_tree) 75 = .ok (.iload_n 2, 1) := by decide +kernel
theorem dx_X12_tree_76 : decode (go_cc mx_X12_tree) 76 = .ok (.i2l, 1) := by decide +kernel
theorem dx_X12_tree_77 : decode (go_cc mx_X12_tree) 77 = .ok (.ldc2_w 361, 3) := by decide +kernel
theorem dx_X12_tree_80 : decode (go_cc mx_X12_tree) 80 = .ok (.aload_n 0, 1) := by decide +kernel
theorem dx_X12_tree_81 : decode (go_cc mx_X12_tree) 81 = .ok (.getfield 336, 3) := by decide +kernel
theorem dx_X12_tree_84 : decode (go_cc mx_X12_tree) 84 = .ok (.iconst 1, 1) := by decide +kernel
theorem dx_X12_tree_85 : decode (go_cc mx_X12_tree) 85 = .ok (.isub, 1) := by decide +kernel
theorem dx_X12_tree_86 : decode (go_cc mx_X12_tree) 86 = .ok (.i2l, 1) := by decide +kernel
theorem dx_X12_tree_87 : decode (go_cc mx_X12_tree) 87 = .ok (.invokestatic 144, 3) := by decide +kernel
theorem dx_X12_tree_90 : decode (go_cc mx_X12_tree) 90 = .ok (.ifCond .eq 15, 3) := by decide +kernel
theorem dx_X12_tree_93 : decode (go_cc mx_X12_tree) 93 = .ok (.iload_n 3, 1) := by decide +kernel
theorem dx_X12_tree_94 : decode (go_cc mx_X12_tree) 94 = .ok (.i2l, 1) := by decide +kernel
theorem dx_X12_tree_95 : decode (go_cc mx_X12_tree) 95 = .ok (.lconst 0, 1) := by decide +kernel
theorem dx_X12_tree_96 : decode (go_cc mx_X12_tree) 96 = .ok (.ldc2_w 356, 3) := by decide +kernel
theorem dx_X12_tree_99 : decode (go_cc mx_X12_tree) 99 = .ok (.invokestatic 144, 3) := by decide +kernel
theorem dx_X12_tree_102 : decode (go_cc mx_X12_tree) 102 = .ok (.ifCond .ne 6, 3) := by decide +kernel
theorem dx_X12_tree_105 : decode (go_cc mx_X12_tree) 105 = .ok (.bipush (-2), 2) := by decide +kernel
theorem dx_X12_tree_107 : decode (go_cc mx_X12_tree) 107 = .ok (.ireturn, 1) := by decide +kernel
theorem dx_X12_tree_108 : decode (go_cc mx_X12_tree) 108 = .ok (.iload_n 2, 1) := by decide +kernel
theorem dx_X12_tree_109 : decode (go_cc mx_X12_tree) 109 = .ok (.iconst (-1), 1) := by decide +kernel
theorem dx_X12_tree_110 : decode (go_cc mx_X12_tree) 110 = .ok (.if_icmp .ne 10, 3) := by decide +kernel
theorem dx_X12_tree_113 : decode (go_cc mx_X12_tree) 113 = .ok (.aload_n 0, 1) := by decide +kernel
theorem dx_X12_tree_114 : decode (go_cc mx_X12_tree) 114 = .ok (.getfield 336, 3) := by decide +kernel
theorem dx_X12_tree_117 : decode (go_cc mx_X12_tree) 117 = .ok (.goto 9, 3) := by decide +kernel
theorem dx_X12_tree_120 : decode (go_cc mx_X12_tree) 120 = .ok (.aload_n 0, 1) := by decide +kernel
theorem dx_X12_tree_121 : decode (go_cc mx_X12_tree) 121 = .ok (.iload_n 2, 1) := by decide +kernel
theorem dx_X12_tree_122 : decode (go_cc mx_X12_tree) 122 = .ok (.iload_n 3, 1) := by decide +kernel
theorem dx_X12_tree_123 : decode (go_cc mx_X12_tree) 123 = .ok (.invokevirtual 358, 3) := by decide +kernel
theorem dx_X12_tree_126 : decode (go_cc mx_X12_tree) 126 = .ok (.ireturn, 1) := by decide +kernel
theorem dx_X12_nodeBy_0 : decode (go_cc mx_X12_nodeBy) 0 = .ok (.iload_n 2, 1) := by decide +kernel
theorem dx_X12_nodeBy_1 : decode (go_cc mx_X12_nodeBy) 1 = .ok (.tableswitch 59 0 3 #[31, 38, 45, 52], 31) := by decide +kernel
theorem dx_X12_nodeBy_32 : decode (go_cc mx_X12_nodeBy) 32 = .ok (.aload_n 0, 1) := by decide +kernel
theorem dx_X12_nodeBy_33 : decode (go_cc mx_X12_nodeBy) 33 = .ok (.getfield 76, 3) := by decide +kernel
theorem dx_X12_nodeBy_36 : decode (go_cc mx_X12_nodeBy) 36 = .ok (.iload_n 1, 1) := by decide +kernel
theorem dx_X12_nodeBy_37 : decode (go_cc mx_X12_nodeBy) 37 = .ok (.iaload, 1) := by decide +kernel
theorem dx_X12_nodeBy_38 : decode (go_cc mx_X12_nodeBy) 38 = .ok (.ireturn, 1) := by decide +kernel
theorem dx_X12_nodeBy_39 : decode (go_cc mx_X12_nodeBy) 39 = .ok (.aload_n 0, 1) := by decide +kernel
theorem dx_X12_nodeBy_40 : decode (go_cc mx_X12_nodeBy) 40 = .ok (.getfield 79, 3) := by decide +kernel
theorem dx_X12_nodeBy_43 : decode (go_cc mx_X12_nodeBy) 43 = .ok (.iload_n 1, 1) := by decide +kernel
theorem dx_X12_nodeBy_44 : decode (go_cc mx_X12_nodeBy) 44 = .ok (.iaload, 1) := by decide +kernel
theorem dx_X12_nodeBy_45 : decode (go_cc mx_X12_nodeBy) 45 = .ok (.ireturn, 1) := by decide +kernel
theorem dx_X12_nodeBy_46 : decode (go_cc mx_X12_nodeBy) 46 = .ok (.aload_n 0, 1) := by decide +kernel
theorem dx_X12_nodeBy_47 : decode (go_cc mx_X12_nodeBy) 47 = .ok (.getfield 82, 3) := by decide +kernel
theorem dx_X12_nodeBy_50 : decode (go_cc mx_X12_nodeBy) 50 = .ok (.iload_n 1, 1) := by decide +kernel
theorem dx_X12_nodeBy_51 : decode (go_cc mx_X12_nodeBy) 51 = .ok (.iaload, 1) := by decide +kernel
theorem dx_X12_nodeBy_52 : decode (go_cc mx_X12_nodeBy) 52 = .ok (.ireturn, 1) := by decide +kernel
theorem dx_X12_nodeBy_53 : decode (go_cc mx_X12_nodeBy) 53 = .ok (.aload_n 0, 1) := by decide +kernel
theorem dx_X12_nodeBy_54 : decode (go_cc mx_X12_nodeBy) 54 = .ok (.getfield 85, 3) := by decide +kernel
theorem dx_X12_nodeBy_57 : decode (go_cc mx_X12_nodeBy) 57 = .ok (.iload_n 1, 1) := by decide +kernel
theorem dx_X12_nodeBy_58 : decode (go_cc mx_X12_nodeBy) 58 = .ok (.iaload, 1) := by decide +kernel
theorem dx_X12_nodeBy_59 : decode (go_cc mx_X12_nodeBy) 59 = .ok (.ireturn, 1) := by decide +kernel
theorem dx_X12_nodeBy_60 : decode (go_cc mx_X12_nodeBy) 60 = .ok (.aload_n 0, 1) := by decide +kernel
theorem dx_X12_nodeBy_61 : decode (go_cc mx_X12_nodeBy) 61 = .ok (.getfield 88, 3) := by decide +kernel
theorem dx_X12_nodeBy_64 : decode (go_cc mx_X12_nodeBy) 64 = .ok (.iload_n 1, 1) := by decide +kernel
theorem dx_X12_nodeBy_65 : decode (go_cc mx_X12_nodeBy) 65 = .ok (.iaload, 1) := by decide +kernel
theorem dx_X12_nodeBy_66 : decode (go_cc mx_X12_nodeBy) 66 = .ok (.ireturn, 1) := by decide +kernel
theorem dx_X12_laysForm_0 : decode (go_cc mx_X12_laysForm) 0 = .ok (.aload_n 0, 1) := by decide +kernel
theorem dx_X12_laysForm_1 : decode (go_cc mx_X12_laysForm) 1 = .ok (.lconst 0, 1) := by decide +kernel
theorem dx_X12_laysForm_2 : decode (go_cc mx_X12_laysForm) 2 = .ok (.invokevirtual 352, 3) := by decide +kernel
theorem dx_X12_laysForm_5 : decode (go_cc mx_X12_laysForm) 5 = .ok (.aload_n 0, 1) := by decide +kernel
theorem dx_X12_laysForm_6 : decode (go_cc mx_X12_laysForm) 6 = .ok (.getfield 336, 3) := by decide +kernel
theorem dx_X12_laysForm_9 : decode (go_cc mx_X12_laysForm) 9 = .ok (.ifCond .eq 17, 3) := by decide +kernel
theorem dx_X12_laysForm_12 : decode (go_cc mx_X12_laysForm) 12 = .ok (.iload_n 1, 1) := by decide +kernel
theorem dx_X12_laysForm_13 : decode (go_cc mx_X12_laysForm) 13 = .ok (.i2l, 1) := by decide +kernel
theorem dx_X12_laysForm_14 : decode (go_cc mx_X12_laysForm) 14 = .ok (.lconst 0, 1) := by decide +kernel
theorem dx_X12_laysForm_15 : decode (go_cc mx_X12_laysForm) 15 = .ok (.aload_n 0, 1) := by decide +kernel
theorem dx_X12_laysForm_16 : decode (go_cc mx_X12_laysForm) 16 = .ok (.getfield 336, 3) := by decide +kernel
theorem dx_X12_laysForm_19 : decode (go_cc mx_X12_laysForm) 19 = .ok (.i2l, 1) := by decide +kernel
theorem dx_X12_laysForm_20 : decode (go_cc mx_X12_laysForm) 20 = .ok (.invokestatic 144, 3) := by decide +kernel
theorem dx_X12_laysForm_23 : decode (go_cc mx_X12_laysForm) 23 = .ok (.ifCond .ne 5, 3) := by decide +kernel
theorem dx_X12_laysForm_26 : decode (go_cc mx_X12_laysForm) 26 = .ok (.iconst 0, 1) := by decide +kernel
theorem dx_X12_laysForm_27 : decode (go_cc mx_X12_laysForm) 27 = .ok (.ireturn, 1) := by decide +kernel
theorem dx_X12_laysForm_28 : decode (go_cc mx_X12_laysForm) 28 = .ok (.aload_n 0, 1) := by decide +kernel
theorem dx_X12_laysForm_29 : decode (go_cc mx_X12_laysForm) 29 = .ok (.getfield 103, 3) := by decide +kernel
theorem dx_X12_laysForm_32 : decode (go_cc mx_X12_laysForm) 32 = .ok (.iconst 0, 1) := by decide +kernel
theorem dx_X12_laysForm_33 : decode (go_cc mx_X12_laysForm) 33 = .ok (.aload_n 0, 1) := by decide +kernel
theorem dx_X12_laysForm_34 : decode (go_cc mx_X12_laysForm) 34 = .ok (.getfield 7, 3) := by decide +kernel
theorem dx_X12_laysForm_37 : decode (go_cc mx_X12_laysForm) 37 = .ok (.bipush 112, 2) := by decide +kernel
theorem dx_X12_laysForm_39 : decode (go_cc mx_X12_laysForm) 39 = .ok (.iaload, 1) := by decide +kernel
theorem dx_X12_laysForm_40 : decode (go_cc mx_X12_laysForm) 40 = .ok (.iastore, 1) := by decide +kernel
theorem dx_X12_laysForm_41 : decode (go_cc mx_X12_laysForm) 41 = .ok (.aload_n 0, 1) := by decide +kernel
theorem dx_X12_laysForm_42 : decode (go_cc mx_X12_laysForm) 42 = .ok (.iconst 1, 1) := by decide +kernel
theorem dx_X12_laysForm_43 : decode (go_cc mx_X12_laysForm) 43 = .ok (.putfield 363, 3) := by decide +kernel
theorem dx_X12_laysForm_46 : decode (go_cc mx_X12_laysForm) 46 = .ok (.iconst 0, 1) := by decide +kernel
theorem dx_X12_laysForm_47 : decode (go_cc mx_X12_laysForm) 47 = .ok (.istore_n 2, 1) := by decide +kernel
theorem dx_X12_laysForm_48 : decode (go_cc mx_X12_laysForm) 48 = .ok (.iload_n 2, 1) := by decide +kernel
theorem dx_X12_laysForm_49 : decode (go_cc mx_X12_laysForm) 49 = .ok (.iload_n 1, 1) := by decide +kernel
theorem dx_X12_laysForm_50 : decode (go_cc mx_X12_laysForm) 50 = .ok (.if_icmp .ge 128, 3) := by decide +kernel
theorem dx_X12_laysForm_53 : decode (go_cc mx_X12_laysForm) 53 = .ok (.iconst 0, 1) := by decide +kernel
theorem dx_X12_laysForm_54 : decode (go_cc mx_X12_laysForm) 54 = .ok (.istore_n 3, 1) := by decide +kernel
theorem dx_X12_laysForm_55 : decode (go_cc mx_X12_laysForm) 55 = .ok (.aload_n 0, 1) := by decide +kernel
theorem dx_X12_laysForm_56 : decode (go_cc mx_X12_laysForm) 56 = .ok (.getfield 103, 3) := by decide +kernel
theorem dx_X12_laysForm_59 : decode (go_cc mx_X12_laysForm) 59 = .ok (.iload_n 3, 1) := by decide +kernel
theorem dx_X12_laysForm_60 : decode (go_cc mx_X12_laysForm) 60 = .ok (.iaload, 1) := by decide +kernel
theorem dx_X12_laysForm_61 : decode (go_cc mx_X12_laysForm) 61 = .ok (.invokestatic 212, 3) := by decide +kernel
theorem dx_X12_laysForm_64 : decode (go_cc mx_X12_laysForm) 64 = .ok (.ifCond .ne 9, 3) := by decide +kernel
theorem dx_X12_laysForm_67 : decode (go_cc mx_X12_laysForm) 67 = .ok (.iinc 3 1, 3) := by decide +kernel
theorem dx_X12_laysForm_70 : decode (go_cc mx_X12_laysForm) 70 = .ok (.goto (-15), 3) := by decide +kernel
theorem dx_X12_laysForm_73 : decode (go_cc mx_X12_laysForm) 73 = .ok (.aload_n 0, 1) := by decide +kernel
theorem dx_X12_laysForm_74 : decode (go_cc mx_X12_laysForm) 74 = .ok (.aload_n 0, 1) := by decide +kernel
theorem dx_X12_laysForm_75 : decode (go_cc mx_X12_laysForm) 75 = .ok (.getfield 76, 3) := by decide +kernel
theorem dx_X12_laysForm_78 : decode (go_cc mx_X12_laysForm) 78 = .ok (.iload_n 2, 1) := by decide +kernel
theorem dx_X12_laysForm_79 : decode (go_cc mx_X12_laysForm) 79 = .ok (.iaload, 1) := by decide +kernel
theorem dx_X12_laysForm_80 : decode (go_cc mx_X12_laysForm) 80 = .ok (.invokevirtual 148, 3) := by decide +kernel
theorem dx_X12_laysForm_83 : decode (go_cc mx_X12_laysForm) 83 = .ok (.iconst 1, 1) := by decide +kernel
theorem dx_X12_laysForm_84 : decode (go_cc mx_X12_laysForm) 84 = .ok (.isub, 1) := by decide +kernel
theorem dx_X12_laysForm_85 : decode (go_cc mx_X12_laysForm) 85 = .ok (.istore 4, 2) := by decide +kernel
theorem dx_X12_laysForm_87 : decode (go_cc mx_X12_laysForm) 87 = .ok (.aload_n 0, 1) := by decide +kernel
theorem dx_X12_laysForm_88 : decode (go_cc mx_X12_laysForm) 88 = .ok (.getfield 363, 3) := by decide +kernel
theorem dx_X12_laysForm_91 : decode (go_cc mx_X12_laysForm) 91 = .ok (.iconst 1, 1) := by decide +kernel
theorem dx_X12_laysForm_92 : decode (go_cc mx_X12_laysForm) 92 = .ok (.isub, 1) := by decide +kernel
theorem dx_X12_laysForm_93 : decode (go_cc mx_X12_laysForm) 93 = .ok (.istore 5, 2) := by decide +kernel
theorem dx_X12_laysForm_95 : decode (go_cc mx_X12_laysForm) 95 = .ok (.iload 5, 2) := by decide +kernel
theorem dx_X12_laysForm_97 : decode (go_cc mx_X12_laysForm) 97 = .ok (.iload_n 3, 1) := by decide +kernel
theorem dx_X12_laysForm_98 : decode (go_cc mx_X12_laysForm) 98 = .ok (.if_icmp .le 26, 3) := by decide +kernel
theorem dx_X12_laysForm_101 : decode (go_cc mx_X12_laysForm) 101 = .ok (.aload_n 0, 1) := by decide +kernel
theorem dx_X12_laysForm_102 : decode (go_cc mx_X12_laysForm) 102 = .ok (.getfield 103, 3) := by decide +kernel
theorem dx_X12_laysForm_105 : decode (go_cc mx_X12_laysForm) 105 = .ok (.iload 5, 2) := by decide +kernel
theorem dx_X12_laysForm_107 : decode (go_cc mx_X12_laysForm) 107 = .ok (.iload 4, 2) := by decide +kernel
theorem dx_X12_laysForm_109 : decode (go_cc mx_X12_laysForm) 109 = .ok (.iadd, 1) := by decide +kernel
theorem dx_X12_laysForm_110 : decode (go_cc mx_X12_laysForm) 110 = .ok (.aload_n 0, 1) := by decide +kernel
theorem dx_X12_laysForm_111 : decode (go_cc mx_X12_laysForm) 111 = .ok (.getfield 103, 3) := by decide +kernel
theorem dx_X12_laysForm_114 : decode (go_cc mx_X12_laysForm) 114 = .ok (.iload 5, 2) := by decide +kernel
theorem dx_X12_laysForm_116 : decode (go_cc mx_X12_laysForm) 116 = .ok (.iaload, 1) := by decide +kernel
theorem dx_X12_laysForm_117 : decode (go_cc mx_X12_laysForm) 117 = .ok (.iastore, 1) := by decide +kernel
theorem dx_X12_laysForm_118 : decode (go_cc mx_X12_laysForm) 118 = .ok (.iinc 5 (-1), 3) := by decide +kernel
theorem dx_X12_laysForm_121 : decode (go_cc mx_X12_laysForm) 121 = .ok (.goto (-26), 3) := by decide +kernel
theorem dx_X12_laysForm_124 : decode (go_cc mx_X12_laysForm) 124 = .ok (.iconst 0, 1) := by decide +kernel
theorem dx_X12_laysForm_125 : decode (go_cc mx_X12_laysForm) 125 = .ok (.istore 5, 2) := by decide +kernel
theorem dx_X12_laysForm_127 : decode (go_cc mx_X12_laysForm) 127 = .ok (.iload 5, 2) := by decide +kernel
theorem dx_X12_laysForm_129 : decode (go_cc mx_X12_laysForm) 129 = .ok (.iload 4, 2) := by decide +kernel
theorem dx_X12_laysForm_131 : decode (go_cc mx_X12_laysForm) 131 = .ok (.if_icmp .gt 30, 3) := by decide +kernel
theorem dx_X12_laysForm_134 : decode (go_cc mx_X12_laysForm) 134 = .ok (.aload_n 0, 1) := by decide +kernel
theorem dx_X12_laysForm_135 : decode (go_cc mx_X12_laysForm) 135 = .ok (.getfield 103, 3) := by decide +kernel
theorem dx_X12_laysForm_138 : decode (go_cc mx_X12_laysForm) 138 = .ok (.iload_n 3, 1) := by decide +kernel
theorem dx_X12_laysForm_139 : decode (go_cc mx_X12_laysForm) 139 = .ok (.iload 5, 2) := by decide +kernel
theorem dx_X12_laysForm_141 : decode (go_cc mx_X12_laysForm) 141 = .ok (.iadd, 1) := by decide +kernel
theorem dx_X12_laysForm_142 : decode (go_cc mx_X12_laysForm) 142 = .ok (.aload_n 0, 1) := by decide +kernel
theorem dx_X12_laysForm_143 : decode (go_cc mx_X12_laysForm) 143 = .ok (.aload_n 0, 1) := by decide +kernel
theorem dx_X12_laysForm_144 : decode (go_cc mx_X12_laysForm) 144 = .ok (.getfield 76, 3) := by decide +kernel
theorem dx_X12_laysForm_147 : decode (go_cc mx_X12_laysForm) 147 = .ok (.iload_n 2, 1) := by decide +kernel
theorem dx_X12_laysForm_148 : decode (go_cc mx_X12_laysForm) 148 = .ok (.iaload, 1) := by decide +kernel
theorem dx_X12_laysForm_149 : decode (go_cc mx_X12_laysForm) 149 = .ok (.iload 5, 2) := by decide +kernel
theorem dx_X12_laysForm_151 : decode (go_cc mx_X12_laysForm) 151 = .ok (.invokevirtual 190, 3) := by decide +kernel
theorem dx_X12_laysForm_154 : decode (go_cc mx_X12_laysForm) 154 = .ok (.iastore, 1) := by decide +kernel
theorem dx_X12_laysForm_155 : decode (go_cc mx_X12_laysForm) 155 = .ok (.iinc 5 1, 3) := by decide +kernel
theorem dx_X12_laysForm_158 : decode (go_cc mx_X12_laysForm) 158 = .ok (.goto (-31), 3) := by decide +kernel
theorem dx_X12_laysForm_161 : decode (go_cc mx_X12_laysForm) 161 = .ok (.aload_n 0, 1) := by decide +kernel
theorem dx_X12_laysForm_162 : decode (go_cc mx_X12_laysForm) 162 = .ok (.dup, 1) := by decide +kernel
theorem dx_X12_laysForm_163 : decode (go_cc mx_X12_laysForm) 163 = .ok (.getfield 363, 3) := by decide +kernel
theorem dx_X12_laysForm_166 : decode (go_cc mx_X12_laysForm) 166 = .ok (.iload 4, 2) := by decide +kernel
theorem dx_X12_laysForm_168 : decode (go_cc mx_X12_laysForm) 168 = .ok (.iadd, 1) := by decide +kernel
theorem dx_X12_laysForm_169 : decode (go_cc mx_X12_laysForm) 169 = .ok (.putfield 363, 3) := by decide +kernel
theorem dx_X12_laysForm_172 : decode (go_cc mx_X12_laysForm) 172 = .ok (.iinc 2 1, 3) := by decide +kernel
theorem dx_X12_laysForm_175 : decode (go_cc mx_X12_laysForm) 175 = .ok (.goto (-127), 3) := by decide +kernel
theorem dx_X12_laysForm_178 : decode (go_cc mx_X12_laysForm) 178 = .ok (.iconst 1, 1) := by decide +kernel
theorem dx_X12_laysForm_179 : decode (go_cc mx_X12_laysForm) 179 = .ok (.ireturn, 1) := by decide +kernel
theorem dx_X12_form_0 : decode (go_cc mx_X12_form) 0 = .ok (.aload_n 0, 1) := by decide +kernel
theorem dx_X12_form_1 : decode (go_cc mx_X12_form) 1 = .ok (.iconst 0, 1) := by decide +kernel
theorem dx_X12_form_2 : decode (go_cc mx_X12_form) 2 = .ok (.putfield 139, 3) := by decide +kernel
theorem dx_X12_form_5 : decode (go_cc mx_X12_form) 5 = .ok (.aload_n 0, 1) := by decide +kernel
theorem dx_X12_form_6 : decode (go_cc mx_X12_form) 6 = .ok (.iload_n 1, 1) := by decide +kernel
theorem dx_X12_form_7 : decode (go_cc mx_X12_form) 7 = .ok (.invokevirtual 366, 3) := by decide +kernel
theorem dx_X12_form_10 : decode (go_cc mx_X12_form) 10 = .ok (.ifCond .ne 6, 3) := by decide +kernel
theorem dx_X12_form_13 : decode (go_cc mx_X12_form) 13 = .ok (.bipush (-2), 2) := by decide +kernel
theorem dx_X12_form_15 : decode (go_cc mx_X12_form) 15 = .ok (.ireturn, 1) := by decide +kernel
theorem dx_X12_form_16 : decode (go_cc mx_X12_form) 16 = .ok (.iload_n 2, 1) := by decide +kernel
theorem dx_X12_form_17 : decode (go_cc mx_X12_form) 17 = .ok (.ifCond .ge 6, 3) := by decide +kernel
theorem dx_X12_form_20 : decode (go_cc mx_X12_form) 20 = .ok (.bipush (-3), 2) := by decide +kernel
theorem dx_X12_form_22 : decode (go_cc mx_X12_form) 22 = .ok (.ireturn, 1) := by decide +kernel
theorem dx_X12_form_23 : decode (go_cc mx_X12_form) 23 = .ok (.iload_n 2, 1) := by decide +kernel
theorem dx_X12_form_24 : decode (go_cc mx_X12_form) 24 = .ok (.aload_n 0, 1) := by decide +kernel
theorem dx_X12_form_25 : decode (go_cc mx_X12_form) 25 = .ok (.getfield 363, 3) := by decide +kernel
theorem dx_X12_form_28 : decode (go_cc mx_X12_form) 28 = .ok (.if_icmp .ge 12, 3) := by decide +kernel
theorem dx_X12_form_31 : decode (go_cc mx_X12_form) 31 = .ok (.aload_n 0, 1) := by decide +kernel
theorem dx_X12_form_32 : decode (go_cc mx_X12_form) 32 = .ok (.getfield 103, 3) := by decide +kernel
theorem dx_X12_form_35 : decode (go_cc mx_X12_form) 35 = .ok (.iload_n 2, 1) := by decide +kernel
theorem dx_X12_form_36 : decode (go_cc mx_X12_form) 36 = .ok (.iaload, 1) := by decide +kernel
theorem dx_X12_form_37 : decode (go_cc mx_X12_form) 37 = .ok (.goto 4, 3) := by decide +kernel
theorem dx_X12_form_40 : decode (go_cc mx_X12_form) 40 = .ok (.iconst (-1), 1) := by decide +kernel
theorem dx_X12_form_41 : decode (go_cc mx_X12_form) 41 = .ok (.ireturn, 1) := by decide +kernel
theorem dx_X12_length_0 : decode (go_cc mx_X12_length) 0 = .ok (.aload_n 0, 1) := by decide +kernel
theorem dx_X12_length_1 : decode (go_cc mx_X12_length) 1 = .ok (.iconst 0, 1) := by decide +kernel
theorem dx_X12_length_2 : decode (go_cc mx_X12_length) 2 = .ok (.putfield 139, 3) := by decide +kernel
theorem dx_X12_length_5 : decode (go_cc mx_X12_length) 5 = .ok (.aload_n 0, 1) := by decide +kernel
theorem dx_X12_length_6 : decode (go_cc mx_X12_length) 6 = .ok (.iload_n 1, 1) := by decide +kernel
theorem dx_X12_length_7 : decode (go_cc mx_X12_length) 7 = .ok (.invokevirtual 366, 3) := by decide +kernel
theorem dx_X12_length_10 : decode (go_cc mx_X12_length) 10 = .ok (.ifCond .eq 10, 3) := by decide +kernel
theorem dx_X12_length_13 : decode (go_cc mx_X12_length) 13 = .ok (.aload_n 0, 1) := by decide +kernel
theorem dx_X12_length_14 : decode (go_cc mx_X12_length) 14 = .ok (.getfield 363, 3) := by decide +kernel
theorem dx_X12_length_17 : decode (go_cc mx_X12_length) 17 = .ok (.goto 5, 3) := by decide +kernel
theorem dx_X12_length_20 : decode (go_cc mx_X12_length) 20 = .ok (.bipush (-2), 2) := by decide +kernel
theorem dx_X12_length_22 : decode (go_cc mx_X12_length) 22 = .ok (.ireturn, 1) := by decide +kernel
theorem dx_X12_beginnings_0 : decode (go_cc mx_X12_beginnings) 0 = .ok (.aload_n 0, 1) := by decide +kernel
theorem dx_X12_beginnings_1 : decode (go_cc mx_X12_beginnings) 1 = .ok (.iconst 0, 1) := by decide +kernel
theorem dx_X12_beginnings_2 : decode (go_cc mx_X12_beginnings) 2 = .ok (.putfield 139, 3) := by decide +kernel
theorem dx_X12_beginnings_5 : decode (go_cc mx_X12_beginnings) 5 = .ok (.aload_n 0, 1) := by decide +kernel
theorem dx_X12_beginnings_6 : decode (go_cc mx_X12_beginnings) 6 = .ok (.invokevirtual 265, 3) := by decide +kernel
theorem dx_X12_beginnings_9 : decode (go_cc mx_X12_beginnings) 9 = .ok (.iconst 0, 1) := by decide +kernel
theorem dx_X12_beginnings_10 : decode (go_cc mx_X12_beginnings) 10 = .ok (.istore_n 1, 1) := by decide +kernel
theorem dx_X12_beginnings_11 : decode (go_cc mx_X12_beginnings) 11 = .ok (.iconst 1, 1) := by decide +kernel
theorem dx_X12_beginnings_12 : decode (go_cc mx_X12_beginnings) 12 = .ok (.istore_n 2, 1) := by decide +kernel
theorem dx_X12_beginnings_13 : decode (go_cc mx_X12_beginnings) 13 = .ok (.iload_n 2, 1) := by decide +kernel
theorem dx_X12_beginnings_14 : decode (go_cc mx_X12_beginnings) 14 = .ok (.aload_n 0, 1) := by decide +kernel
theorem dx_X12_beginnings_15 : decode (go_cc mx_X12_beginnings) 15 = .ok (.invokevirtual 253, 3) := by decide +kernel
theorem dx_X12_beginnings_18 : decode (go_cc mx_X12_beginnings) 18 = .ok (.if_icmp .gt 35, 3) := by decide +kernel
theorem dx_X12_beginnings_21 : decode (go_cc mx_X12_beginnings) 21 = .ok (.iload_n 1, 1) := by decide +kernel
theorem dx_X12_beginnings_22 : decode (go_cc mx_X12_beginnings) 22 = .ok (.aload_n 0, 1) := by decide +kernel
theorem dx_X12_beginnings_23 : decode (go_cc mx_X12_beginnings) 23 = .ok (.aload_n 0, 1) := by decide +kernel
theorem dx_X12_beginnings_24 : decode (go_cc mx_X12_beginnings) 24 = .ok (.getfield 7, 3) := by decide +kernel
theorem dx_X12_beginnings_27 : decode (go_cc mx_X12_beginnings) 27 = .ok (.bipush 112, 2) := by decide +kernel
theorem dx_X12_beginnings_29 : decode (go_cc mx_X12_beginnings) 29 = .ok (.iaload, 1) := by decide +kernel
theorem dx_X12_beginnings_30 : decode (go_cc mx_X12_beginnings) 30 = .ok (.iconst 0, 1) := by decide +kernel
theorem dx_X12_beginnings_31 : decode (go_cc mx_X12_beginnings) 31 = .ok (.iload_n 2, 1) := by decide +kernel
theorem dx_X12_beginnings_32 : decode (go_cc mx_X12_beginnings) 32 = .ok (.invokevirtual 268, 3) := by decide +kernel
theorem dx_X12_beginnings_35 : decode (go_cc mx_X12_beginnings) 35 = .ok (.ifCond .eq 9, 3) := by decide +kernel
theorem dx_X12_beginnings_38 : decode (go_cc mx_X12_beginnings) 38 = .ok (.iconst 1, 1) := by decide +kernel
theorem dx_X12_beginnings_39 : decode (go_cc mx_X12_beginnings) 39 = .ok (.iload_n 2, 1) := by decide +kernel
theorem dx_X12_beginnings_40 : decode (go_cc mx_X12_beginnings) 40 = .ok (.ishl, 1) := by decide +kernel
theorem dx_X12_beginnings_41 : decode (go_cc mx_X12_beginnings) 41 = .ok (.goto 4, 3) := by decide +kernel
theorem dx_X12_beginnings_44 : decode (go_cc mx_X12_beginnings) 44 = .ok (.iconst 0, 1) := by decide +kernel
theorem dx_X12_beginnings_45 : decode (go_cc mx_X12_beginnings) 45 = .ok (.ior, 1) := by decide +kernel
theorem dx_X12_beginnings_46 : decode (go_cc mx_X12_beginnings) 46 = .ok (.istore_n 1, 1) := by decide +kernel
theorem dx_X12_beginnings_47 : decode (go_cc mx_X12_beginnings) 47 = .ok (.iinc 2 1, 3) := by decide +kernel
theorem dx_X12_beginnings_50 : decode (go_cc mx_X12_beginnings) 50 = .ok (.goto (-37), 3) := by decide +kernel
theorem dx_X12_beginnings_53 : decode (go_cc mx_X12_beginnings) 53 = .ok (.iload_n 1, 1) := by decide +kernel
theorem dx_X12_beginnings_54 : decode (go_cc mx_X12_beginnings) 54 = .ok (.ireturn, 1) := by decide +kernel
theorem dx_X12_pieces_0 : decode (go_cc mx_X12_pieces) 0 = .ok (.aload_n 0, 1) := by decide +kernel
theorem dx_X12_pieces_1 : decode (go_cc mx_X12_pieces) 1 = .ok (.iconst 0, 1) := by decide +kernel
theorem dx_X12_pieces_2 : decode (go_cc mx_X12_pieces) 2 = .ok (.putfield 139, 3) := by decide +kernel
theorem dx_X12_pieces_5 : decode (go_cc mx_X12_pieces) 5 = .ok (.iload_n 1, 1) := by decide +kernel
theorem dx_X12_pieces_6 : decode (go_cc mx_X12_pieces) 6 = .ok (.iconst (-1), 1) := by decide +kernel
theorem dx_X12_pieces_7 : decode (go_cc mx_X12_pieces) 7 = .ok (.if_icmp .ge 6, 3) := by decide +kernel
theorem dx_X12_pieces_10 : decode (go_cc mx_X12_pieces) 10 = .ok (.bipush (-3), 2) := by decide +kernel
theorem dx_X12_pieces_12 : decode (go_cc mx_X12_pieces) 12 = .ok (.ireturn, 1) := by decide +kernel
theorem dx_X12_pieces_13 : decode (go_cc mx_X12_pieces) 13 = .ok (.aload_n 0, 1) := by decide +kernel
theorem dx_X12_pieces_14 : decode (go_cc mx_X12_pieces) 14 = .ok (.invokevirtual 265, 3) := by decide +kernel
theorem dx_X12_pieces_17 : decode (go_cc mx_X12_pieces) 17 = .ok (.aload_n 0, 1) := by decide +kernel
theorem dx_X12_pieces_18 : decode (go_cc mx_X12_pieces) 18 = .ok (.invokevirtual 253, 3) := by decide +kernel
theorem dx_X12_pieces_21 : decode (go_cc mx_X12_pieces) 21 = .ok (.istore_n 2, 1) := by decide +kernel
theorem dx_X12_pieces_22 : decode (go_cc mx_X12_pieces) 22 = .ok (.aload_n 0, 1) := by decide +kernel
theorem dx_X12_pieces_23 : decode (go_cc mx_X12_pieces) 23 = .ok (.getfield 106, 3) := by decide +kernel
theorem dx_X12_pieces_26 : decode (go_cc mx_X12_pieces) 26 = .ok (.iload_n 2, 1) := by decide +kernel
theorem dx_X12_pieces_27 : decode (go_cc mx_X12_pieces) 27 = .ok (.iconst 0, 1) := by decide +kernel
theorem dx_X12_pieces_28 : decode (go_cc mx_X12_pieces) 28 = .ok (.iastore, 1) := by decide +kernel
theorem dx_X12_pieces_29 : decode (go_cc mx_X12_pieces) 29 = .ok (.iload_n 2, 1) := by decide +kernel
theorem dx_X12_pieces_30 : decode (go_cc mx_X12_pieces) 30 = .ok (.iconst 1, 1) := by decide +kernel
theorem dx_X12_pieces_31 : decode (go_cc mx_X12_pieces) 31 = .ok (.isub, 1) := by decide +kernel
theorem dx_X12_pieces_32 : decode (go_cc mx_X12_pieces) 32 = .ok (.istore_n 3, 1) := by decide +kernel
theorem dx_X12_pieces_33 : decode (go_cc mx_X12_pieces) 33 = .ok (.iload_n 3, 1) := by decide +kernel
theorem dx_X12_pieces_34 : decode (go_cc mx_X12_pieces) 34 = .ok (.ifCond .lt 84, 3) := by decide +kernel
theorem dx_X12_pieces_37 : decode (go_cc mx_X12_pieces) 37 = .ok (.aload_n 0, 1) := by decide +kernel
theorem dx_X12_pieces_38 : decode (go_cc mx_X12_pieces) 38 = .ok (.getfield 106, 3) := by decide +kernel
theorem dx_X12_pieces_41 : decode (go_cc mx_X12_pieces) 41 = .ok (.iload_n 3, 1) := by decide +kernel
theorem dx_X12_pieces_42 : decode (go_cc mx_X12_pieces) 42 = .ok (.ldc 231, 2) := by decide +kernel
theorem dx_X12_pieces_44 : decode (go_cc mx_X12_pieces) 44 = .ok (.iastore, 1) := by decide +kernel
theorem dx_X12_pieces_45 : decode (go_cc mx_X12_pieces) 45 = .ok (.iload_n 3, 1) := by decide +kernel
theorem dx_X12_pieces_46 : decode (go_cc mx_X12_pieces) 46 = .ok (.iconst 1, 1) := by decide +kernel
theorem dx_X12_pieces_47 : decode (go_cc mx_X12_pieces) 47 = .ok (.iadd, 1) := by decide +kernel
theorem dx_X12_pieces_48 : decode (go_cc mx_X12_pieces) 48 = .ok (.istore 4, 2) := by decide +kernel
theorem dx_X12_pieces_50 : decode (go_cc mx_X12_pieces) 50 = .ok (.iload 4, 2) := by decide +kernel
theorem dx_X12_pieces_52 : decode (go_cc mx_X12_pieces) 52 = .ok (.iload_n 2, 1) := by decide +kernel
theorem dx_X12_pieces_53 : decode (go_cc mx_X12_pieces) 53 = .ok (.if_icmp .gt 59, 3) := by decide +kernel
theorem dx_X12_pieces_56 : decode (go_cc mx_X12_pieces) 56 = .ok (.aload_n 0, 1) := by decide +kernel
theorem dx_X12_pieces_57 : decode (go_cc mx_X12_pieces) 57 = .ok (.aload_n 0, 1) := by decide +kernel
theorem dx_X12_pieces_58 : decode (go_cc mx_X12_pieces) 58 = .ok (.getfield 7, 3) := by decide +kernel
theorem dx_X12_pieces_61 : decode (go_cc mx_X12_pieces) 61 = .ok (.bipush 112, 2) := by decide +kernel
theorem dx_X12_pieces_63 : decode (go_cc mx_X12_pieces) 63 = .ok (.iaload, 1) := by decide +kernel
theorem dx_X12_pieces_64 : decode (go_cc mx_X12_pieces) 64 = .ok (.iload_n 3, 1) := by decide +kernel
theorem dx_X12_pieces_65 : decode (go_cc mx_X12_pieces) 65 = .ok (.iload 4, 2) := by decide +kernel
theorem dx_X12_pieces_67 : decode (go_cc mx_X12_pieces) 67 = .ok (.invokevirtual 268, 3) := by decide +kernel
theorem dx_X12_pieces_70 : decode (go_cc mx_X12_pieces) 70 = .ok (.ifCond .eq 36, 3) := by decide +kernel
theorem dx_X12_pieces_73 : decode (go_cc mx_X12_pieces) 73 = .ok (.aload_n 0, 1) := by decide +kernel
theorem dx_X12_pieces_74 : decode (go_cc mx_X12_pieces) 74 = .ok (.getfield 106, 3) := by decide +kernel
theorem dx_X12_pieces_77 : decode (go_cc mx_X12_pieces) 77 = .ok (.iload 4, 2) := by decide +kernel
theorem dx_X12_pieces_79 : decode (go_cc mx_X12_pieces) 79 = .ok (.iaload, 1) := by decide +kernel
theorem dx_X12_pieces_80 : decode (go_cc mx_X12_pieces) 80 = .ok (.iconst 1, 1) := by decide +kernel
theorem dx_X12_pieces_81 : decode (go_cc mx_X12_pieces) 81 = .ok (.iadd, 1) := by decide +kernel
theorem dx_X12_pieces_82 : decode (go_cc mx_X12_pieces) 82 = .ok (.aload_n 0, 1) := by decide +kernel
theorem dx_X12_pieces_83 : decode (go_cc mx_X12_pieces) 83 = .ok (.getfield 106, 3) := by decide +kernel
theorem dx_X12_pieces_86 : decode (go_cc mx_X12_pieces) 86 = .ok (.iload_n 3, 1) := by decide +kernel
theorem dx_X12_pieces_87 : decode (go_cc mx_X12_pieces) 87 = .ok (.iaload, 1) := by decide +kernel
theorem dx_X12_pieces_88 : decode (go_cc mx_X12_pieces) 88 = .ok (.if_icmp .ge 18, 3) := by decide +kernel
theorem dx_X12_pieces_91 : decode (go_cc mx_X12_pieces) 91 = .ok (.aload_n 0, 1) := by decide +kernel
theorem dx_X12_pieces_92 : decode (go_cc mx_X12_pieces) 92 = .ok (.getfield 106, 3) := by decide +kernel
theorem dx_X12_pieces_95 : decode (go_cc mx_X12_pieces) 95 = .ok (.iload_n 3, 1) := by decide +kernel
theorem dx_X12_pieces_96 : decode (go_cc mx_X12_pieces) 96 = .ok (.aload_n 0, 1) := by decide +kernel
theorem dx_X12_pieces_97 : decode (go_cc mx_X12_pieces) 97 = .ok (.getfield 106, 3) := by decide +kernel
theorem dx_X12_pieces_100 : decode (go_cc mx_X12_pieces) 100 = .ok (.iload 4, 2) := by decide +kernel
theorem dx_X12_pieces_102 : decode (go_cc mx_X12_pieces) 102 = .ok (.iaload, 1) := by decide +kernel
theorem dx_X12_pieces_103 : decode (go_cc mx_X12_pieces) 103 = .ok (.iconst 1, 1) := by decide +kernel
theorem dx_X12_pieces_104 : decode (go_cc mx_X12_pieces) 104 = .ok (.iadd, 1) := by decide +kernel
theorem dx_X12_pieces_105 : decode (go_cc mx_X12_pieces) 105 = .ok (.iastore, 1) := by decide +kernel
theorem dx_X12_pieces_106 : decode (go_cc mx_X12_pieces) 106 = .ok (.iinc 4 1, 3) := by decide +kernel
theorem dx_X12_pieces_109 : decode (go_cc mx_X12_pieces) 109 = .ok (.goto (-59), 3) := by decide +kernel
theorem dx_X12_pieces_112 : decode (go_cc mx_X12_pieces) 112 = .ok (.iinc 3 (-1), 3) := by decide +kernel
theorem dx_X12_pieces_115 : decode (go_cc mx_X12_pieces) 115 = .ok (.goto (-82), 3) := by decide +kernel
theorem dx_X12_pieces_118 : decode (go_cc mx_X12_pieces) 118 = .ok (.iload_n 2, 1) := by decide +kernel
theorem dx_X12_pieces_119 : decode (go_cc mx_X12_pieces) 119 = .ok (.ifCond .eq 14, 3) := by decide +kernel
theorem dx_X12_pieces_122 : decode (go_cc mx_X12_pieces) 122 = .ok (.aload_n 0, 1) := by decide +kernel
theorem dx_X12_pieces_123 : decode (go_cc mx_X12_pieces) 123 = .ok (.getfield 106, 3) := by decide +kernel
theorem dx_X12_pieces_126 : decode (go_cc mx_X12_pieces) 126 = .ok (.iconst 0, 1) := by decide +kernel
theorem dx_X12_pieces_127 : decode (go_cc mx_X12_pieces) 127 = .ok (.iaload, 1) := by decide +kernel
theorem dx_X12_pieces_128 : decode (go_cc mx_X12_pieces) 128 = .ok (.ldc 231, 2) := by decide +kernel
theorem dx_X12_pieces_130 : decode (go_cc mx_X12_pieces) 130 = .ok (.if_icmp .lt 5, 3) := by decide +kernel
theorem dx_X12_pieces_133 : decode (go_cc mx_X12_pieces) 133 = .ok (.iconst (-1), 1) := by decide +kernel
theorem dx_X12_pieces_134 : decode (go_cc mx_X12_pieces) 134 = .ok (.ireturn, 1) := by decide +kernel
theorem dx_X12_pieces_135 : decode (go_cc mx_X12_pieces) 135 = .ok (.iload_n 1, 1) := by decide +kernel
theorem dx_X12_pieces_136 : decode (go_cc mx_X12_pieces) 136 = .ok (.iconst (-1), 1) := by decide +kernel
theorem dx_X12_pieces_137 : decode (go_cc mx_X12_pieces) 137 = .ok (.if_icmp .ne 10, 3) := by decide +kernel
theorem dx_X12_pieces_140 : decode (go_cc mx_X12_pieces) 140 = .ok (.aload_n 0, 1) := by decide +kernel
theorem dx_X12_pieces_141 : decode (go_cc mx_X12_pieces) 141 = .ok (.getfield 106, 3) := by decide +kernel
theorem dx_X12_pieces_144 : decode (go_cc mx_X12_pieces) 144 = .ok (.iconst 0, 1) := by decide +kernel
theorem dx_X12_pieces_145 : decode (go_cc mx_X12_pieces) 145 = .ok (.iaload, 1) := by decide +kernel
theorem dx_X12_pieces_146 : decode (go_cc mx_X12_pieces) 146 = .ok (.ireturn, 1) := by decide +kernel
theorem dx_X12_pieces_147 : decode (go_cc mx_X12_pieces) 147 = .ok (.iload_n 1, 1) := by decide +kernel
theorem dx_X12_pieces_148 : decode (go_cc mx_X12_pieces) 148 = .ok (.aload_n 0, 1) := by decide +kernel
theorem dx_X12_pieces_149 : decode (go_cc mx_X12_pieces) 149 = .ok (.getfield 106, 3) := by decide +kernel
theorem dx_X12_pieces_152 : decode (go_cc mx_X12_pieces) 152 = .ok (.iconst 0, 1) := by decide +kernel
theorem dx_X12_pieces_153 : decode (go_cc mx_X12_pieces) 153 = .ok (.iaload, 1) := by decide +kernel
theorem dx_X12_pieces_154 : decode (go_cc mx_X12_pieces) 154 = .ok (.if_icmp .lt 5, 3) := by decide +kernel
theorem dx_X12_pieces_157 : decode (go_cc mx_X12_pieces) 157 = .ok (.iconst (-1), 1) := by decide +kernel
theorem dx_X12_pieces_158 : decode (go_cc mx_X12_pieces) 158 = .ok (.ireturn, 1) := by decide +kernel
theorem dx_X12_pieces_159 : decode (go_cc mx_X12_pieces) 159 = .ok (.iconst 0, 1) := by decide +kernel
theorem dx_X12_pieces_160 : decode (go_cc mx_X12_pieces) 160 = .ok (.istore_n 3, 1) := by decide +kernel
theorem dx_X12_pieces_161 : decode (go_cc mx_X12_pieces) 161 = .ok (.iconst 0, 1) := by decide +kernel
theorem dx_X12_pieces_162 : decode (go_cc mx_X12_pieces) 162 = .ok (.istore 4, 2) := by decide +kernel
theorem dx_X12_pieces_164 : decode (go_cc mx_X12_pieces) 164 = .ok (.iload 4, 2) := by decide +kernel
theorem dx_X12_pieces_166 : decode (go_cc mx_X12_pieces) 166 = .ok (.iload_n 1, 1) := by decide +kernel
theorem dx_X12_pieces_167 : decode (go_cc mx_X12_pieces) 167 = .ok (.if_icmp .gt 58, 3) := by decide +kernel
theorem dx_X12_pieces_170 : decode (go_cc mx_X12_pieces) 170 = .ok (.iload_n 3, 1) := by decide +kernel
theorem dx_X12_pieces_171 : decode (go_cc mx_X12_pieces) 171 = .ok (.iconst 1, 1) := by decide +kernel
theorem dx_X12_pieces_172 : decode (go_cc mx_X12_pieces) 172 = .ok (.iadd, 1) := by decide +kernel
theorem dx_X12_pieces_173 : decode (go_cc mx_X12_pieces) 173 = .ok (.istore 5, 2) := by decide +kernel
theorem dx_X12_pieces_175 : decode (go_cc mx_X12_pieces) 175 = .ok (.aload_n 0, 1) := by decide +kernel
theorem dx_X12_pieces_176 : decode (go_cc mx_X12_pieces) 176 = .ok (.aload_n 0, 1) := by decide +kernel
theorem dx_X12_pieces_177 : decode (go_cc mx_X12_pieces) 177 = .ok (.getfield 7, 3) := by decide +kernel
theorem dx_X12_pieces_180 : decode (go_cc mx_X12_pieces) 180 = .ok (.bipush 112, 2) := by decide +kernel
theorem dx_X12_pieces_182 : decode (go_cc mx_X12_pieces) 182 = .ok (.iaload, 1) := by decide +kernel
theorem dx_X12_pieces_183 : decode (go_cc mx_X12_pieces) 183 = .ok (.iload_n 3, 1) := by decide +kernel
theorem dx_X12_pieces_184 : decode (go_cc mx_X12_pieces) 184 = .ok (.iload 5, 2) := by decide +kernel
theorem dx_X12_pieces_186 : decode (go_cc mx_X12_pieces) 186 = .ok (.invokevirtual 268, 3) := by decide +kernel
theorem dx_X12_pieces_189 : decode (go_cc mx_X12_pieces) 189 = .ok (.ifCond .eq 21, 3) := by decide +kernel
theorem dx_X12_pieces_192 : decode (go_cc mx_X12_pieces) 192 = .ok (.aload_n 0, 1) := by decide +kernel
theorem dx_X12_pieces_193 : decode (go_cc mx_X12_pieces) 193 = .ok (.getfield 106, 3) := by decide +kernel
theorem dx_X12_pieces_196 : decode (go_cc mx_X12_pieces) 196 = .ok (.iload 5, 2) := by decide +kernel
theorem dx_X12_pieces_198 : decode (go_cc mx_X12_pieces) 198 = .ok (.iaload, 1) := by decide +kernel
theorem dx_X12_pieces_199 : decode (go_cc mx_X12_pieces) 199 = .ok (.iconst 1, 1) := by decide +kernel
theorem dx_X12_pieces_200 : decode (go_cc mx_X12_pieces) 200 = .ok (.iadd, 1) := by decide +kernel
theorem dx_X12_pieces_201 : decode (go_cc mx_X12_pieces) 201 = .ok (.aload_n 0, 1) := by decide +kernel
theorem dx_X12_pieces_202 : decode (go_cc mx_X12_pieces) 202 = .ok (.getfield 106, 3) := by decide +kernel
theorem dx_X12_pieces_205 : decode (go_cc mx_X12_pieces) 205 = .ok (.iload_n 3, 1) := by decide +kernel
theorem dx_X12_pieces_206 : decode (go_cc mx_X12_pieces) 206 = .ok (.iaload, 1) := by decide +kernel
theorem dx_X12_pieces_207 : decode (go_cc mx_X12_pieces) 207 = .ok (.if_icmp .eq 9, 3) := by decide +kernel
theorem dx_X12_pieces_210 : decode (go_cc mx_X12_pieces) 210 = .ok (.iinc 5 1, 3) := by decide +kernel
theorem dx_X12_pieces_213 : decode (go_cc mx_X12_pieces) 213 = .ok (.goto (-38), 3) := by decide +kernel
theorem dx_X12_pieces_216 : decode (go_cc mx_X12_pieces) 216 = .ok (.iload 5, 2) := by decide +kernel
theorem dx_X12_pieces_218 : decode (go_cc mx_X12_pieces) 218 = .ok (.istore_n 3, 1) := by decide +kernel
theorem dx_X12_pieces_219 : decode (go_cc mx_X12_pieces) 219 = .ok (.iinc 4 1, 3) := by decide +kernel
theorem dx_X12_pieces_222 : decode (go_cc mx_X12_pieces) 222 = .ok (.goto (-58), 3) := by decide +kernel
theorem dx_X12_pieces_225 : decode (go_cc mx_X12_pieces) 225 = .ok (.iload_n 3, 1) := by decide +kernel
theorem dx_X12_pieces_226 : decode (go_cc mx_X12_pieces) 226 = .ok (.ireturn, 1) := by decide +kernel
theorem dx_X12_costAt_0 : decode (go_cc mx_X12_costAt) 0 = .ok (.aload_n 0, 1) := by decide +kernel
theorem dx_X12_costAt_1 : decode (go_cc mx_X12_costAt) 1 = .ok (.getfield 109, 3) := by decide +kernel
theorem dx_X12_costAt_4 : decode (go_cc mx_X12_costAt) 4 = .ok (.sipush 256, 3) := by decide +kernel
theorem dx_X12_costAt_7 : decode (go_cc mx_X12_costAt) 7 = .ok (.iload_n 1, 1) := by decide +kernel
theorem dx_X12_costAt_8 : decode (go_cc mx_X12_costAt) 8 = .ok (.imul, 1) := by decide +kernel
theorem dx_X12_costAt_9 : decode (go_cc mx_X12_costAt) 9 = .ok (.bipush 16, 2) := by decide +kernel
theorem dx_X12_costAt_11 : decode (go_cc mx_X12_costAt) 11 = .ok (.iload_n 2, 1) := by decide +kernel
theorem dx_X12_costAt_12 : decode (go_cc mx_X12_costAt) 12 = .ok (.imul, 1) := by decide +kernel
theorem dx_X12_costAt_13 : decode (go_cc mx_X12_costAt) 13 = .ok (.iadd, 1) := by decide +kernel
theorem dx_X12_costAt_14 : decode (go_cc mx_X12_costAt) 14 = .ok (.iload_n 3, 1) := by decide +kernel
theorem dx_X12_costAt_15 : decode (go_cc mx_X12_costAt) 15 = .ok (.iadd, 1) := by decide +kernel
theorem dx_X12_costAt_16 : decode (go_cc mx_X12_costAt) 16 = .ok (.iaload, 1) := by decide +kernel
theorem dx_X12_costAt_17 : decode (go_cc mx_X12_costAt) 17 = .ok (.ireturn, 1) := by decide +kernel
theorem dx_X12_letterCost_0 : decode (go_cc mx_X12_letterCost) 0 = .ok (.aload_n 0, 1) := by decide +kernel
theorem dx_X12_letterCost_1 : decode (go_cc mx_X12_letterCost) 1 = .ok (.getfield 112, 3) := by decide +kernel
theorem dx_X12_letterCost_4 : decode (go_cc mx_X12_letterCost) 4 = .ok (.iload_n 2, 1) := by decide +kernel
theorem dx_X12_letterCost_5 : decode (go_cc mx_X12_letterCost) 5 = .ok (.iaload, 1) := by decide +kernel
theorem dx_X12_letterCost_6 : decode (go_cc mx_X12_letterCost) 6 = .ok (.iconst (-1), 1) := by decide +kernel
theorem dx_X12_letterCost_7 : decode (go_cc mx_X12_letterCost) 7 = .ok (.if_icmp .eq 16, 3) := by decide +kernel
theorem dx_X12_letterCost_10 : decode (go_cc mx_X12_letterCost) 10 = .ok (.aload_n 0, 1) := by decide +kernel
theorem dx_X12_letterCost_11 : decode (go_cc mx_X12_letterCost) 11 = .ok (.getfield 112, 3) := by decide +kernel
theorem dx_X12_letterCost_14 : decode (go_cc mx_X12_letterCost) 14 = .ok (.iload_n 2, 1) := by decide +kernel
theorem dx_X12_letterCost_15 : decode (go_cc mx_X12_letterCost) 15 = .ok (.iaload, 1) := by decide +kernel
theorem dx_X12_letterCost_16 : decode (go_cc mx_X12_letterCost) 16 = .ok (.iload_n 1, 1) := by decide +kernel
theorem dx_X12_letterCost_17 : decode (go_cc mx_X12_letterCost) 17 = .ok (.if_icmp .eq 6, 3) := by decide +kernel
theorem dx_X12_letterCost_20 : decode (go_cc mx_X12_letterCost) 20 = .ok (.ldc 231, 2) := by decide +kernel
theorem dx_X12_letterCost_22 : decode (go_cc mx_X12_letterCost) 22 = .ok (.ireturn, 1) := by decide +kernel
theorem dx_X12_letterCost_23 : decode (go_cc mx_X12_letterCost) 23 = .ok (.aload_n 0, 1) := by decide +kernel
theorem dx_X12_letterCost_24 : decode (go_cc mx_X12_letterCost) 24 = .ok (.getfield 7, 3) := by decide +kernel
theorem dx_X12_letterCost_27 : decode (go_cc mx_X12_letterCost) 27 = .ok (.bipush 114, 2) := by decide +kernel
theorem dx_X12_letterCost_29 : decode (go_cc mx_X12_letterCost) 29 = .ok (.iload_n 2, 1) := by decide +kernel
theorem dx_X12_letterCost_30 : decode (go_cc mx_X12_letterCost) 30 = .ok (.iadd, 1) := by decide +kernel
theorem dx_X12_letterCost_31 : decode (go_cc mx_X12_letterCost) 31 = .ok (.iaload, 1) := by decide +kernel
theorem dx_X12_letterCost_32 : decode (go_cc mx_X12_letterCost) 32 = .ok (.iload_n 1, 1) := by decide +kernel
theorem dx_X12_letterCost_33 : decode (go_cc mx_X12_letterCost) 33 = .ok (.if_icmp .ne 7, 3) := by decide +kernel
theorem dx_X12_letterCost_36 : decode (go_cc mx_X12_letterCost) 36 = .ok (.iconst 0, 1) := by decide +kernel
theorem dx_X12_letterCost_37 : decode (go_cc mx_X12_letterCost) 37 = .ok (.goto 4, 3) := by decide +kernel
theorem dx_X12_letterCost_40 : decode (go_cc mx_X12_letterCost) 40 = .ok (.iconst 1, 1) := by decide +kernel
theorem dx_X12_letterCost_41 : decode (go_cc mx_X12_letterCost) 41 = .ok (.ireturn, 1) := by decide +kernel
theorem dx_X12_lowers_0 : decode (go_cc mx_X12_lowers) 0 = .ok (.iload 4, 2) := by decide +kernel
theorem dx_X12_lowers_2 : decode (go_cc mx_X12_lowers) 2 = .ok (.aload_n 0, 1) := by decide +kernel
theorem dx_X12_lowers_3 : decode (go_cc mx_X12_lowers) 3 = .ok (.iload_n 1, 1) := by decide +kernel
theorem dx_X12_lowers_4 : decode (go_cc mx_X12_lowers) 4 = .ok (.iload_n 2, 1) := by decide +kernel
theorem dx_X12_lowers_5 : decode (go_cc mx_X12_lowers) 5 = .ok (.iload_n 3, 1) := by decide +kernel
theorem dx_X12_lowers_6 : decode (go_cc mx_X12_lowers) 6 = .ok (.invokevirtual 369, 3) := by decide +kernel
theorem dx_X12_lowers_9 : decode (go_cc mx_X12_lowers) 9 = .ok (.if_icmp .ge 22, 3) := by decide +kernel
theorem dx_X12_lowers_12 : decode (go_cc mx_X12_lowers) 12 = .ok (.aload_n 0, 1) := by decide +kernel
theorem dx_X12_lowers_13 : decode (go_cc mx_X12_lowers) 13 = .ok (.getfield 109, 3) := by decide +kernel
theorem dx_X12_lowers_16 : decode (go_cc mx_X12_lowers) 16 = .ok (.sipush 256, 3) := by decide +kernel
theorem dx_X12_lowers_19 : decode (go_cc mx_X12_lowers) 19 = .ok (.iload_n 1, 1) := by decide +kernel
theorem dx_X12_lowers_20 : decode (go_cc mx_X12_lowers) 20 = .ok (.imul, 1) := by decide +kernel
theorem dx_X12_lowers_21 : decode (go_cc mx_X12_lowers) 21 = .ok (.bipush 16, 2) := by decide +kernel
theorem dx_X12_lowers_23 : decode (go_cc mx_X12_lowers) 23 = .ok (.iload_n 2, 1) := by decide +kernel
theorem dx_X12_lowers_24 : decode (go_cc mx_X12_lowers) 24 = .ok (.imul, 1) := by decide +kernel
theorem dx_X12_lowers_25 : decode (go_cc mx_X12_lowers) 25 = .ok (.iadd, 1) := by decide +kernel
theorem dx_X12_lowers_26 : decode (go_cc mx_X12_lowers) 26 = .ok (.iload_n 3, 1) := by decide +kernel
theorem dx_X12_lowers_27 : decode (go_cc mx_X12_lowers) 27 = .ok (.iadd, 1) := by decide +kernel
theorem dx_X12_lowers_28 : decode (go_cc mx_X12_lowers) 28 = .ok (.iload 4, 2) := by decide +kernel
theorem dx_X12_lowers_30 : decode (go_cc mx_X12_lowers) 30 = .ok (.iastore, 1) := by decide +kernel
theorem dx_X12_lowers_31 : decode (go_cc mx_X12_lowers) 31 = .ok (.return_, 1) := by decide +kernel
theorem dx_X12_fewestOthers_0 : decode (go_cc mx_X12_fewestOthers) 0 = .ok (.aload_n 0, 1) := by decide +kernel
theorem dx_X12_fewestOthers_1 : decode (go_cc mx_X12_fewestOthers) 1 = .ok (.invokevirtual 221, 3) := by decide +kernel
theorem dx_X12_fewestOthers_4 : decode (go_cc mx_X12_fewestOthers) 4 = .ok (.aload_n 0, 1) := by decide +kernel
theorem dx_X12_fewestOthers_5 : decode (go_cc mx_X12_fewestOthers) 5 = .ok (.invokevirtual 253, 3) := by decide +kernel
theorem dx_X12_fewestOthers_8 : decode (go_cc mx_X12_fewestOthers) 8 = .ok (.istore_n 1, 1) := by decide +kernel
theorem dx_X12_fewestOthers_9 : decode (go_cc mx_X12_fewestOthers) 9 = .ok (.iconst 1, 1) := by decide +kernel
theorem dx_X12_fewestOthers_10 : decode (go_cc mx_X12_fewestOthers) 10 = .ok (.istore_n 2, 1) := by decide +kernel
theorem dx_X12_fewestOthers_11 : decode (go_cc mx_X12_fewestOthers) 11 = .ok (.iload_n 2, 1) := by decide +kernel
theorem dx_X12_fewestOthers_12 : decode (go_cc mx_X12_fewestOthers) 12 = .ok (.iload_n 1, 1) := by decide +kernel
theorem dx_X12_fewestOthers_13 : decode (go_cc mx_X12_fewestOthers) 13 = .ok (.if_icmp .gt 250, 3) := by decide +kernel
theorem dx_X12_fewestOthers_16 : decode (go_cc mx_X12_fewestOthers) 16 = .ok (.iconst 0, 1) := by decide +kernel
theorem dx_X12_fewestOthers_17 : decode (go_cc mx_X12_fewestOthers) 17 = .ok (.istore_n 3, 1) := by decide +kernel
theorem dx_X12_fewestOthers_18 : decode (go_cc mx_X12_fewestOthers) 18 = .ok (.iload_n 3, 1) := by decide +kernel
theorem dx_X12_fewestOthers_19 : decode (go_cc mx_X12_fewestOthers) 19 = .ok (.iload_n 2, 1) := by decide +kernel
theorem dx_X12_fewestOthers_20 : decode (go_cc mx_X12_fewestOthers) 20 = .ok (.iadd, 1) := by decide +kernel
theorem dx_X12_fewestOthers_21 : decode (go_cc mx_X12_fewestOthers) 21 = .ok (.iload_n 1, 1) := by decide +kernel
theorem dx_X12_fewestOthers_22 : decode (go_cc mx_X12_fewestOthers) 22 = .ok (.if_icmp .gt 235, 3) := by decide +kernel
theorem dx_X12_fewestOthers_25 : decode (go_cc mx_X12_fewestOthers) 25 = .ok (.iload_n 3, 1) := by decide +kernel
theorem dx_X12_fewestOthers_26 : decode (go_cc mx_X12_fewestOthers) 26 = .ok (.iload_n 2, 1) := by decide +kernel
theorem dx_X12_fewestOthers_27 : decode (go_cc mx_X12_fewestOthers) 27 = .ok (.iadd, 1) := by decide +kernel
theorem dx_X12_fewestOthers_28 : decode (go_cc mx_X12_fewestOthers) 28 = .ok (.istore 4, 2) := by decide +kernel
theorem dx_X12_fewestOthers_30 : decode (go_cc mx_X12_fewestOthers) 30 = .ok (.iconst 0, 1) := by decide +kernel
theorem dx_X12_fewestOthers_31 : decode (go_cc mx_X12_fewestOthers) 31 = .ok (.istore 5, 2) := by decide +kernel
theorem dx_X12_fewestOthers_33 : decode (go_cc mx_X12_fewestOthers) 33 = .ok (.iload 5, 2) := by decide +kernel
theorem dx_X12_fewestOthers_35 : decode (go_cc mx_X12_fewestOthers) 35 = .ok (.bipush 14, 2) := by decide +kernel
theorem dx_X12_fewestOthers_37 : decode (go_cc mx_X12_fewestOthers) 37 = .ok (.aload_n 0, 1) := by decide +kernel
theorem dx_X12_fewestOthers_38 : decode (go_cc mx_X12_fewestOthers) 38 = .ok (.getfield 218, 3) := by decide +kernel
theorem dx_X12_fewestOthers_41 : decode (go_cc mx_X12_fewestOthers) 41 = .ok (.iadd, 1) := by decide +kernel
theorem dx_X12_fewestOthers_42 : decode (go_cc mx_X12_fewestOthers) 42 = .ok (.if_icmp .ge 60, 3) := by decide +kernel
theorem dx_X12_fewestOthers_45 : decode (go_cc mx_X12_fewestOthers) 45 = .ok (.aload_n 0, 1) := by decide +kernel
theorem dx_X12_fewestOthers_46 : decode (go_cc mx_X12_fewestOthers) 46 = .ok (.getfield 109, 3) := by decide +kernel
theorem dx_X12_fewestOthers_49 : decode (go_cc mx_X12_fewestOthers) 49 = .ok (.sipush 256, 3) := by decide +kernel
theorem dx_X12_fewestOthers_52 : decode (go_cc mx_X12_fewestOthers) 52 = .ok (.iload 5, 2) := by decide +kernel
theorem dx_X12_fewestOthers_54 : decode (go_cc mx_X12_fewestOthers) 54 = .ok (.imul, 1) := by decide +kernel
theorem dx_X12_fewestOthers_55 : decode (go_cc mx_X12_fewestOthers) 55 = .ok (.bipush 16, 2) := by decide +kernel
theorem dx_X12_fewestOthers_57 : decode (go_cc mx_X12_fewestOthers) 57 = .ok (.iload_n 3, 1) := by decide +kernel
theorem dx_X12_fewestOthers_58 : decode (go_cc mx_X12_fewestOthers) 58 = .ok (.imul, 1) := by decide +kernel
theorem dx_X12_fewestOthers_59 : decode (go_cc mx_X12_fewestOthers) 59 = .ok (.iadd, 1) := by decide +kernel
theorem dx_X12_fewestOthers_60 : decode (go_cc mx_X12_fewestOthers) 60 = .ok (.iload 4, 2) := by decide +kernel
theorem dx_X12_fewestOthers_62 : decode (go_cc mx_X12_fewestOthers) 62 = .ok (.iadd, 1) := by decide +kernel
theorem dx_X12_fewestOthers_63 : decode (go_cc mx_X12_fewestOthers) 63 = .ok (.iload_n 2, 1) := by decide +kernel
theorem dx_X12_fewestOthers_64 : decode (go_cc mx_X12_fewestOthers) 64 = .ok (.iconst 1, 1) := by decide +kernel
theorem dx_X12_fewestOthers_65 : decode (go_cc mx_X12_fewestOthers) 65 = .ok (.if_icmp .ne 28, 3) := by decide +kernel
theorem dx_X12_fewestOthers_68 : decode (go_cc mx_X12_fewestOthers) 68 = .ok (.iload 5, 2) := by decide +kernel
theorem dx_X12_fewestOthers_70 : decode (go_cc mx_X12_fewestOthers) 70 = .ok (.i2l, 1) := by decide +kernel
theorem dx_X12_fewestOthers_71 : decode (go_cc mx_X12_fewestOthers) 71 = .ok (.ldc2_w 373, 3) := by decide +kernel
theorem dx_X12_fewestOthers_74 : decode (go_cc mx_X12_fewestOthers) 74 = .ok (.ldc2_w 375, 3) := by decide +kernel
theorem dx_X12_fewestOthers_77 : decode (go_cc mx_X12_fewestOthers) 77 = .ok (.invokestatic 144, 3) := by decide +kernel
theorem dx_X12_fewestOthers_80 : decode (go_cc mx_X12_fewestOthers) 80 = .ok (.ifCond .eq 13, 3) := by decide +kernel
theorem dx_X12_fewestOthers_83 : decode (go_cc mx_X12_fewestOthers) 83 = .ok (.aload_n 0, 1) := by decide +kernel
theorem dx_X12_fewestOthers_84 : decode (go_cc mx_X12_fewestOthers) 84 = .ok (.iload 5, 2) := by decide +kernel
theorem dx_X12_fewestOthers_86 : decode (go_cc mx_X12_fewestOthers) 86 = .ok (.iload_n 3, 1) := by decide +kernel
theorem dx_X12_fewestOthers_87 : decode (go_cc mx_X12_fewestOthers) 87 = .ok (.invokevirtual 377, 3) := by decide +kernel
theorem dx_X12_fewestOthers_90 : decode (go_cc mx_X12_fewestOthers) 90 = .ok (.goto 5, 3) := by decide +kernel
theorem dx_X12_fewestOthers_93 : decode (go_cc mx_X12_fewestOthers) 93 = .ok (.ldc 231, 2) := by decide +kernel
theorem dx_X12_fewestOthers_95 : decode (go_cc mx_X12_fewestOthers) 95 = .ok (.iastore, 1) := by decide +kernel
theorem dx_X12_fewestOthers_96 : decode (go_cc mx_X12_fewestOthers) 96 = .ok (.iinc 5 1, 3) := by decide +kernel
theorem dx_X12_fewestOthers_99 : decode (go_cc mx_X12_fewestOthers) 99 = .ok (.goto (-66), 3) := by decide +kernel
theorem dx_X12_fewestOthers_102 : decode (go_cc mx_X12_fewestOthers) 102 = .ok (.iload_n 3, 1) := by decide +kernel
theorem dx_X12_fewestOthers_103 : decode (go_cc mx_X12_fewestOthers) 103 = .ok (.iconst 1, 1) := by decide +kernel
theorem dx_X12_fewestOthers_104 : decode (go_cc mx_X12_fewestOthers) 104 = .ok (.iadd, 1) := by decide +kernel
theorem dx_X12_fewestOthers_105 : decode (go_cc mx_X12_fewestOthers) 105 = .ok (.istore 5, 2) := by decide +kernel
theorem dx_X12_fewestOthers_107 : decode (go_cc mx_X12_fewestOthers) 107 = .ok (.iload 5, 2) := by decide +kernel
theorem dx_X12_fewestOthers_109 : decode (go_cc mx_X12_fewestOthers) 109 = .ok (.iload 4, 2) := by decide +kernel
theorem dx_X12_fewestOthers_111 : decode (go_cc mx_X12_fewestOthers) 111 = .ok (.if_icmp .ge 71, 3) := by decide +kernel
theorem dx_X12_fewestOthers_114 : decode (go_cc mx_X12_fewestOthers) 114 = .ok (.iconst 0, 1) := by decide +kernel
theorem dx_X12_fewestOthers_115 : decode (go_cc mx_X12_fewestOthers) 115 = .ok (.istore 6, 2) := by decide +kernel
theorem dx_X12_fewestOthers_117 : decode (go_cc mx_X12_fewestOthers) 117 = .ok (.iload 6, 2) := by decide +kernel
theorem dx_X12_fewestOthers_119 : decode (go_cc mx_X12_fewestOthers) 119 = .ok (.aload_n 0, 1) := by decide +kernel
theorem dx_X12_fewestOthers_120 : decode (go_cc mx_X12_fewestOthers) 120 = .ok (.getfield 215, 3) := by decide +kernel
theorem dx_X12_fewestOthers_123 : decode (go_cc mx_X12_fewestOthers) 123 = .ok (.if_icmp .ge 53, 3) := by decide +kernel
theorem dx_X12_fewestOthers_126 : decode (go_cc mx_X12_fewestOthers) 126 = .ok (.aload_n 0, 1) := by decide +kernel
theorem dx_X12_fewestOthers_127 : decode (go_cc mx_X12_fewestOthers) 127 = .ok (.aload_n 0, 1) := by decide +kernel
theorem dx_X12_fewestOthers_128 : decode (go_cc mx_X12_fewestOthers) 128 = .ok (.getfield 27, 3) := by decide +kernel
theorem dx_X12_fewestOthers_131 : decode (go_cc mx_X12_fewestOthers) 131 = .ok (.iload 6, 2) := by decide +kernel
theorem dx_X12_fewestOthers_133 : decode (go_cc mx_X12_fewestOthers) 133 = .ok (.iaload, 1) := by decide +kernel
theorem dx_X12_fewestOthers_134 : decode (go_cc mx_X12_fewestOthers) 134 = .ok (.iload_n 3, 1) := by decide +kernel
theorem dx_X12_fewestOthers_135 : decode (go_cc mx_X12_fewestOthers) 135 = .ok (.iload 4, 2) := by decide +kernel
theorem dx_X12_fewestOthers_137 : decode (go_cc mx_X12_fewestOthers) 137 = .ok (.aload_n 0, 1) := by decide +kernel
theorem dx_X12_fewestOthers_138 : decode (go_cc mx_X12_fewestOthers) 138 = .ok (.aload_n 0, 1) := by decide +kernel
theorem dx_X12_fewestOthers_139 : decode (go_cc mx_X12_fewestOthers) 139 = .ok (.getfield 30, 3) := by decide +kernel
theorem dx_X12_fewestOthers_142 : decode (go_cc mx_X12_fewestOthers) 142 = .ok (.iload 6, 2) := by decide +kernel
theorem dx_X12_fewestOthers_144 : decode (go_cc mx_X12_fewestOthers) 144 = .ok (.iaload, 1) := by decide +kernel
theorem dx_X12_fewestOthers_145 : decode (go_cc mx_X12_fewestOthers) 145 = .ok (.iload_n 3, 1) := by decide +kernel
theorem dx_X12_fewestOthers_146 : decode (go_cc mx_X12_fewestOthers) 146 = .ok (.iload 5, 2) := by decide +kernel
theorem dx_X12_fewestOthers_148 : decode (go_cc mx_X12_fewestOthers) 148 = .ok (.invokevirtual 369, 3) := by decide +kernel
theorem dx_X12_fewestOthers_151 : decode (go_cc mx_X12_fewestOthers) 151 = .ok (.aload_n 0, 1) := by decide +kernel
theorem dx_X12_fewestOthers_152 : decode (go_cc mx_X12_fewestOthers) 152 = .ok (.aload_n 0, 1) := by decide +kernel
theorem dx_X12_fewestOthers_153 : decode (go_cc mx_X12_fewestOthers) 153 = .ok (.getfield 33, 3) := by decide +kernel
theorem dx_X12_fewestOthers_156 : decode (go_cc mx_X12_fewestOthers) 156 = .ok (.iload 6, 2) := by decide +kernel
theorem dx_X12_fewestOthers_158 : decode (go_cc mx_X12_fewestOthers) 158 = .ok (.iaload, 1) := by decide +kernel
theorem dx_X12_fewestOthers_159 : decode (go_cc mx_X12_fewestOthers) 159 = .ok (.iload 5, 2) := by decide +kernel
theorem dx_X12_fewestOthers_161 : decode (go_cc mx_X12_fewestOthers) 161 = .ok (.iload 4, 2) := by decide +kernel
theorem dx_X12_fewestOthers_163 : decode (go_cc mx_X12_fewestOthers) 163 = .ok (.invokevirtual 369, 3) := by decide +kernel
theorem dx_X12_fewestOthers_166 : decode (go_cc mx_X12_fewestOthers) 166 = .ok (.iadd, 1) := by decide +kernel
theorem dx_X12_fewestOthers_167 : decode (go_cc mx_X12_fewestOthers) 167 = .ok (.invokevirtual 380, 3) := by decide +kernel
theorem dx_X12_fewestOthers_170 : decode (go_cc mx_X12_fewestOthers) 170 = .ok (.iinc 6 1, 3) := by decide +kernel
theorem dx_X12_fewestOthers_173 : decode (go_cc mx_X12_fewestOthers) 173 = .ok (.goto (-56), 3) := by decide +kernel
theorem dx_X12_fewestOthers_176 : decode (go_cc mx_X12_fewestOthers) 176 = .ok (.iinc 5 1, 3) := by decide +kernel
theorem dx_X12_fewestOthers_179 : decode (go_cc mx_X12_fewestOthers) 179 = .ok (.goto (-72), 3) := by decide +kernel
theorem dx_X12_fewestOthers_182 : decode (go_cc mx_X12_fewestOthers) 182 = .ok (.iconst 0, 1) := by decide +kernel
theorem dx_X12_fewestOthers_183 : decode (go_cc mx_X12_fewestOthers) 183 = .ok (.istore 5, 2) := by decide +kernel
theorem dx_X12_fewestOthers_185 : decode (go_cc mx_X12_fewestOthers) 185 = .ok (.iload 5, 2) := by decide +kernel
theorem dx_X12_fewestOthers_187 : decode (go_cc mx_X12_fewestOthers) 187 = .ok (.bipush 8, 2) := by decide +kernel
theorem dx_X12_fewestOthers_189 : decode (go_cc mx_X12_fewestOthers) 189 = .ok (.if_icmp .ge 62, 3) := by decide +kernel
theorem dx_X12_fewestOthers_192 : decode (go_cc mx_X12_fewestOthers) 192 = .ok (.iconst 0, 1) := by decide +kernel
theorem dx_X12_fewestOthers_193 : decode (go_cc mx_X12_fewestOthers) 193 = .ok (.istore 6, 2) := by decide +kernel
theorem dx_X12_fewestOthers_195 : decode (go_cc mx_X12_fewestOthers) 195 = .ok (.iload 6, 2) := by decide +kernel
theorem dx_X12_fewestOthers_197 : decode (go_cc mx_X12_fewestOthers) 197 = .ok (.bipush 16, 2) := by decide +kernel
theorem dx_X12_fewestOthers_199 : decode (go_cc mx_X12_fewestOthers) 199 = .ok (.if_icmp .ge 46, 3) := by decide +kernel
theorem dx_X12_fewestOthers_202 : decode (go_cc mx_X12_fewestOthers) 202 = .ok (.aload_n 0, 1) := by decide +kernel
theorem dx_X12_fewestOthers_203 : decode (go_cc mx_X12_fewestOthers) 203 = .ok (.iload 6, 2) := by decide +kernel
theorem dx_X12_fewestOthers_205 : decode (go_cc mx_X12_fewestOthers) 205 = .ok (.invokevirtual 148, 3) := by decide +kernel
theorem dx_X12_fewestOthers_208 : decode (go_cc mx_X12_fewestOthers) 208 = .ok (.iconst 1, 1) := by decide +kernel
theorem dx_X12_fewestOthers_209 : decode (go_cc mx_X12_fewestOthers) 209 = .ok (.if_icmp .ne 30, 3) := by decide +kernel
theorem dx_X12_fewestOthers_212 : decode (go_cc mx_X12_fewestOthers) 212 = .ok (.aload_n 0, 1) := by decide +kernel
theorem dx_X12_fewestOthers_213 : decode (go_cc mx_X12_fewestOthers) 213 = .ok (.aload_n 0, 1) := by decide +kernel
theorem dx_X12_fewestOthers_214 : decode (go_cc mx_X12_fewestOthers) 214 = .ok (.iload 6, 2) := by decide +kernel
theorem dx_X12_fewestOthers_216 : decode (go_cc mx_X12_fewestOthers) 216 = .ok (.invokevirtual 184, 3) := by decide +kernel
theorem dx_X12_fewestOthers_219 : decode (go_cc mx_X12_fewestOthers) 219 = .ok (.iload_n 3, 1) := by decide +kernel
theorem dx_X12_fewestOthers_220 : decode (go_cc mx_X12_fewestOthers) 220 = .ok (.iload 4, 2) := by decide +kernel
theorem dx_X12_fewestOthers_222 : decode (go_cc mx_X12_fewestOthers) 222 = .ok (.aload_n 0, 1) := by decide +kernel
theorem dx_X12_fewestOthers_223 : decode (go_cc mx_X12_fewestOthers) 223 = .ok (.aload_n 0, 1) := by decide +kernel
theorem dx_X12_fewestOthers_224 : decode (go_cc mx_X12_fewestOthers) 224 = .ok (.iload 6, 2) := by decide +kernel
theorem dx_X12_fewestOthers_226 : decode (go_cc mx_X12_fewestOthers) 226 = .ok (.iconst 0, 1) := by decide +kernel
theorem dx_X12_fewestOthers_227 : decode (go_cc mx_X12_fewestOthers) 227 = .ok (.invokevirtual 190, 3) := by decide +kernel
theorem dx_X12_fewestOthers_230 : decode (go_cc mx_X12_fewestOthers) 230 = .ok (.iload_n 3, 1) := by decide +kernel
theorem dx_X12_fewestOthers_231 : decode (go_cc mx_X12_fewestOthers) 231 = .ok (.iload 4, 2) := by decide +kernel
theorem dx_X12_fewestOthers_233 : decode (go_cc mx_X12_fewestOthers) 233 = .ok (.invokevirtual 369, 3) := by decide +kernel
theorem dx_X12_fewestOthers_236 : decode (go_cc mx_X12_fewestOthers) 236 = .ok (.invokevirtual 380, 3) := by decide +kernel
theorem dx_X12_fewestOthers_239 : decode (go_cc mx_X12_fewestOthers) 239 = .ok (.iinc 6 1, 3) := by decide +kernel
theorem dx_X12_fewestOthers_242 : decode (go_cc mx_X12_fewestOthers) 242 = .ok (.goto (-47), 3) := by decide +kernel
theorem dx_X12_fewestOthers_245 : decode (go_cc mx_X12_fewestOthers) 245 = .ok (.iinc 5 1, 3) := by decide +kernel
theorem dx_X12_fewestOthers_248 : decode (go_cc mx_X12_fewestOthers) 248 = .ok (.goto (-63), 3) := by decide +kernel
theorem dx_X12_fewestOthers_251 : decode (go_cc mx_X12_fewestOthers) 251 = .ok (.iinc 3 1, 3) := by decide +kernel
theorem dx_X12_fewestOthers_254 : decode (go_cc mx_X12_fewestOthers) 254 = .ok (.goto (-236), 3) := by decide +kernel
theorem dx_X12_fewestOthers_257 : decode (go_cc mx_X12_fewestOthers) 257 = .ok (.iinc 2 1, 3) := by decide +kernel
theorem dx_X12_fewestOthers_260 : decode (go_cc mx_X12_fewestOthers) 260 = .ok (.goto (-249), 3) := by decide +kernel
theorem dx_X12_fewestOthers_263 : decode (go_cc mx_X12_fewestOthers) 263 = .ok (.iload_n 1, 1) := by decide +kernel
theorem dx_X12_fewestOthers_264 : decode (go_cc mx_X12_fewestOthers) 264 = .ok (.ifCond .ne 8, 3) := by decide +kernel
theorem dx_X12_fewestOthers_267 : decode (go_cc mx_X12_fewestOthers) 267 = .ok (.ldc 231, 2) := by decide +kernel
theorem dx_X12_fewestOthers_269 : decode (go_cc mx_X12_fewestOthers) 269 = .ok (.goto 16, 3) := by decide +kernel
theorem dx_X12_fewestOthers_272 : decode (go_cc mx_X12_fewestOthers) 272 = .ok (.aload_n 0, 1) := by decide +kernel
theorem dx_X12_fewestOthers_273 : decode (go_cc mx_X12_fewestOthers) 273 = .ok (.aload_n 0, 1) := by decide +kernel
theorem dx_X12_fewestOthers_274 : decode (go_cc mx_X12_fewestOthers) 274 = .ok (.getfield 7, 3) := by decide +kernel
theorem dx_X12_fewestOthers_277 : decode (go_cc mx_X12_fewestOthers) 277 = .ok (.bipush 112, 2) := by decide +kernel
theorem dx_X12_fewestOthers_279 : decode (go_cc mx_X12_fewestOthers) 279 = .ok (.iaload, 1) := by decide +kernel
theorem dx_X12_fewestOthers_280 : decode (go_cc mx_X12_fewestOthers) 280 = .ok (.iconst 0, 1) := by decide +kernel
theorem dx_X12_fewestOthers_281 : decode (go_cc mx_X12_fewestOthers) 281 = .ok (.iload_n 1, 1) := by decide +kernel
theorem dx_X12_fewestOthers_282 : decode (go_cc mx_X12_fewestOthers) 282 = .ok (.invokevirtual 369, 3) := by decide +kernel
theorem dx_X12_fewestOthers_285 : decode (go_cc mx_X12_fewestOthers) 285 = .ok (.ireturn, 1) := by decide +kernel
theorem dx_X12_freesAll_0 : decode (go_cc mx_X12_freesAll) 0 = .ok (.iconst 0, 1) := by decide +kernel
theorem dx_X12_freesAll_1 : decode (go_cc mx_X12_freesAll) 1 = .ok (.istore_n 1, 1) := by decide +kernel
theorem dx_X12_freesAll_2 : decode (go_cc mx_X12_freesAll) 2 = .ok (.iload_n 1, 1) := by decide +kernel
theorem dx_X12_freesAll_3 : decode (go_cc mx_X12_freesAll) 3 = .ok (.bipush 14, 2) := by decide +kernel
theorem dx_X12_freesAll_5 : decode (go_cc mx_X12_freesAll) 5 = .ok (.if_icmp .ge 16, 3) := by decide +kernel
theorem dx_X12_freesAll_8 : decode (go_cc mx_X12_freesAll) 8 = .ok (.aload_n 0, 1) := by decide +kernel
theorem dx_X12_freesAll_9 : decode (go_cc mx_X12_freesAll) 9 = .ok (.getfield 112, 3) := by decide +kernel
theorem dx_X12_freesAll_12 : decode (go_cc mx_X12_freesAll) 12 = .ok (.iload_n 1, 1) := by decide +kernel
theorem dx_X12_freesAll_13 : decode (go_cc mx_X12_freesAll) 13 = .ok (.iconst (-1), 1) := by decide +kernel
theorem dx_X12_freesAll_14 : decode (go_cc mx_X12_freesAll) 14 = .ok (.iastore, 1) := by decide +kernel
theorem dx_X12_freesAll_15 : decode (go_cc mx_X12_freesAll) 15 = .ok (.iinc 1 1, 3) := by decide +kernel
theorem dx_X12_freesAll_18 : decode (go_cc mx_X12_freesAll) 18 = .ok (.goto (-16), 3) := by decide +kernel
theorem dx_X12_freesAll_21 : decode (go_cc mx_X12_freesAll) 21 = .ok (.return_, 1) := by decide +kernel
theorem dx_X12_changes_0 : decode (go_cc mx_X12_changes) 0 = .ok (.aload_n 0, 1) := by decide +kernel
theorem dx_X12_changes_1 : decode (go_cc mx_X12_changes) 1 = .ok (.iconst 0, 1) := by decide +kernel
theorem dx_X12_changes_2 : decode (go_cc mx_X12_changes) 2 = .ok (.putfield 139, 3) := by decide +kernel
theorem dx_X12_changes_5 : decode (go_cc mx_X12_changes) 5 = .ok (.aload_n 0, 1) := by decide +kernel
theorem dx_X12_changes_6 : decode (go_cc mx_X12_changes) 6 = .ok (.invokevirtual 384, 3) := by decide +kernel
theorem dx_X12_changes_9 : decode (go_cc mx_X12_changes) 9 = .ok (.aload_n 0, 1) := by decide +kernel
theorem dx_X12_changes_10 : decode (go_cc mx_X12_changes) 10 = .ok (.invokevirtual 387, 3) := by decide +kernel
theorem dx_X12_changes_13 : decode (go_cc mx_X12_changes) 13 = .ok (.istore_n 1, 1) := by decide +kernel
theorem dx_X12_changes_14 : decode (go_cc mx_X12_changes) 14 = .ok (.iload_n 1, 1) := by decide +kernel
theorem dx_X12_changes_15 : decode (go_cc mx_X12_changes) 15 = .ok (.ldc 231, 2) := by decide +kernel
theorem dx_X12_changes_17 : decode (go_cc mx_X12_changes) 17 = .ok (.if_icmp .lt 7, 3) := by decide +kernel
theorem dx_X12_changes_20 : decode (go_cc mx_X12_changes) 20 = .ok (.iconst (-1), 1) := by decide +kernel
theorem dx_X12_changes_21 : decode (go_cc mx_X12_changes) 21 = .ok (.goto 4, 3) := by decide +kernel
theorem dx_X12_changes_24 : decode (go_cc mx_X12_changes) 24 = .ok (.iload_n 1, 1) := by decide +kernel
theorem dx_X12_changes_25 : decode (go_cc mx_X12_changes) 25 = .ok (.ireturn, 1) := by decide +kernel
theorem dx_X12_changed_0 : decode (go_cc mx_X12_changed) 0 = .ok (.aload_n 0, 1) := by decide +kernel
theorem dx_X12_changed_1 : decode (go_cc mx_X12_changed) 1 = .ok (.iconst 0, 1) := by decide +kernel
theorem dx_X12_changed_2 : decode (go_cc mx_X12_changed) 2 = .ok (.putfield 139, 3) := by decide +kernel
theorem dx_X12_changed_5 : decode (go_cc mx_X12_changed) 5 = .ok (.iload_n 1, 1) := by decide +kernel
theorem dx_X12_changed_6 : decode (go_cc mx_X12_changed) 6 = .ok (.ifCond .ge 6, 3) := by decide +kernel
theorem dx_X12_changed_9 : decode (go_cc mx_X12_changed) 9 = .ok (.bipush (-3), 2) := by decide +kernel
theorem dx_X12_changed_11 : decode (go_cc mx_X12_changed) 11 = .ok (.ireturn, 1) := by decide +kernel
theorem dx_X12_changed_12 : decode (go_cc mx_X12_changed) 12 = .ok (.aload_n 0, 1) := by decide +kernel
theorem dx_X12_changed_13 : decode (go_cc mx_X12_changed) 13 = .ok (.invokevirtual 384, 3) := by decide +kernel
theorem dx_X12_changed_16 : decode (go_cc mx_X12_changed) 16 = .ok (.aload_n 0, 1) := by decide +kernel
theorem dx_X12_changed_17 : decode (go_cc mx_X12_changed) 17 = .ok (.invokevirtual 387, 3) := by decide +kernel
theorem dx_X12_changed_20 : decode (go_cc mx_X12_changed) 20 = .ok (.istore_n 2, 1) := by decide +kernel
theorem dx_X12_changed_21 : decode (go_cc mx_X12_changed) 21 = .ok (.iload_n 2, 1) := by decide +kernel
theorem dx_X12_changed_22 : decode (go_cc mx_X12_changed) 22 = .ok (.ldc 231, 2) := by decide +kernel
theorem dx_X12_changed_24 : decode (go_cc mx_X12_changed) 24 = .ok (.if_icmp .ge 11, 3) := by decide +kernel
theorem dx_X12_changed_27 : decode (go_cc mx_X12_changed) 27 = .ok (.iload_n 1, 1) := by decide +kernel
theorem dx_X12_changed_28 : decode (go_cc mx_X12_changed) 28 = .ok (.aload_n 0, 1) := by decide +kernel
theorem dx_X12_changed_29 : decode (go_cc mx_X12_changed) 29 = .ok (.invokevirtual 253, 3) := by decide +kernel
theorem dx_X12_changed_32 : decode (go_cc mx_X12_changed) 32 = .ok (.if_icmp .lt 5, 3) := by decide +kernel
theorem dx_X12_changed_35 : decode (go_cc mx_X12_changed) 35 = .ok (.iconst (-1), 1) := by decide +kernel
theorem dx_X12_changed_36 : decode (go_cc mx_X12_changed) 36 = .ok (.ireturn, 1) := by decide +kernel
theorem dx_X12_changed_37 : decode (go_cc mx_X12_changed) 37 = .ok (.iconst 0, 1) := by decide +kernel
theorem dx_X12_changed_38 : decode (go_cc mx_X12_changed) 38 = .ok (.istore_n 3, 1) := by decide +kernel
theorem dx_X12_changed_39 : decode (go_cc mx_X12_changed) 39 = .ok (.iload_n 3, 1) := by decide +kernel
theorem dx_X12_changed_40 : decode (go_cc mx_X12_changed) 40 = .ok (.iload_n 1, 1) := by decide +kernel
theorem dx_X12_changed_41 : decode (go_cc mx_X12_changed) 41 = .ok (.if_icmp .gt 38, 3) := by decide +kernel
theorem dx_X12_changed_44 : decode (go_cc mx_X12_changed) 44 = .ok (.aload_n 0, 1) := by decide +kernel
theorem dx_X12_changed_45 : decode (go_cc mx_X12_changed) 45 = .ok (.getfield 112, 3) := by decide +kernel
theorem dx_X12_changed_48 : decode (go_cc mx_X12_changed) 48 = .ok (.iload_n 3, 1) := by decide +kernel
theorem dx_X12_changed_49 : decode (go_cc mx_X12_changed) 49 = .ok (.bipush 8, 2) := by decide +kernel
theorem dx_X12_changed_51 : decode (go_cc mx_X12_changed) 51 = .ok (.iastore, 1) := by decide +kernel
theorem dx_X12_changed_52 : decode (go_cc mx_X12_changed) 52 = .ok (.aload_n 0, 1) := by decide +kernel
theorem dx_X12_changed_53 : decode (go_cc mx_X12_changed) 53 = .ok (.invokevirtual 387, 3) := by decide +kernel
theorem dx_X12_changed_56 : decode (go_cc mx_X12_changed) 56 = .ok (.iload_n 2, 1) := by decide +kernel
theorem dx_X12_changed_57 : decode (go_cc mx_X12_changed) 57 = .ok (.if_icmp .eq 16, 3) := by decide +kernel
theorem dx_X12_changed_60 : decode (go_cc mx_X12_changed) 60 = .ok (.aload_n 0, 1) := by decide +kernel
theorem dx_X12_changed_61 : decode (go_cc mx_X12_changed) 61 = .ok (.getfield 112, 3) := by decide +kernel
theorem dx_X12_changed_64 : decode (go_cc mx_X12_changed) 64 = .ok (.iload_n 3, 1) := by decide +kernel
theorem dx_X12_changed_65 : decode (go_cc mx_X12_changed) 65 = .ok (.dup2, 1) := by decide +kernel
theorem dx_X12_changed_66 : decode (go_cc mx_X12_changed) 66 = .ok (.iaload, 1) := by decide +kernel
theorem dx_X12_changed_67 : decode (go_cc mx_X12_changed) 67 = .ok (.iconst 1, 1) := by decide +kernel
theorem dx_X12_changed_68 : decode (go_cc mx_X12_changed) 68 = .ok (.iadd, 1) := by decide +kernel
theorem dx_X12_changed_69 : decode (go_cc mx_X12_changed) 69 = .ok (.iastore, 1) := by decide +kernel
theorem dx_X12_changed_70 : decode (go_cc mx_X12_changed) 70 = .ok (.goto (-18), 3) := by decide +kernel
theorem dx_X12_changed_73 : decode (go_cc mx_X12_changed) 73 = .ok (.iinc 3 1, 3) := by decide +kernel
theorem dx_X12_changed_76 : decode (go_cc mx_X12_changed) 76 = .ok (.goto (-37), 3) := by decide +kernel
theorem dx_X12_changed_79 : decode (go_cc mx_X12_changed) 79 = .ok (.aload_n 0, 1) := by decide +kernel
theorem dx_X12_changed_80 : decode (go_cc mx_X12_changed) 80 = .ok (.getfield 112, 3) := by decide +kernel
theorem dx_X12_changed_83 : decode (go_cc mx_X12_changed) 83 = .ok (.iload_n 1, 1) := by decide +kernel
theorem dx_X12_changed_84 : decode (go_cc mx_X12_changed) 84 = .ok (.iaload, 1) := by decide +kernel
theorem dx_X12_changed_85 : decode (go_cc mx_X12_changed) 85 = .ok (.ireturn, 1) := by decide +kernel
theorem dx_X12_isWord_0 : decode (go_cc mx_X12_isWord) 0 = .ok (.iload_n 2, 1) := by decide +kernel
theorem dx_X12_isWord_1 : decode (go_cc mx_X12_isWord) 1 = .ok (.istore_n 3, 1) := by decide +kernel
theorem dx_X12_isWord_2 : decode (go_cc mx_X12_isWord) 2 = .ok (.iload_n 1, 1) := by decide +kernel
theorem dx_X12_isWord_3 : decode (go_cc mx_X12_isWord) 3 = .ok (.iconst 1, 1) := by decide +kernel
theorem dx_X12_isWord_4 : decode (go_cc mx_X12_isWord) 4 = .ok (.isub, 1) := by decide +kernel
theorem dx_X12_isWord_5 : decode (go_cc mx_X12_isWord) 5 = .ok (.istore 4, 2) := by decide +kernel
theorem dx_X12_isWord_7 : decode (go_cc mx_X12_isWord) 7 = .ok (.iload 4, 2) := by decide +kernel
theorem dx_X12_isWord_9 : decode (go_cc mx_X12_isWord) 9 = .ok (.ifCond .lt 28, 3) := by decide +kernel
theorem dx_X12_isWord_12 : decode (go_cc mx_X12_isWord) 12 = .ok (.aload_n 0, 1) := by decide +kernel
theorem dx_X12_isWord_13 : decode (go_cc mx_X12_isWord) 13 = .ok (.getfield 48, 3) := by decide +kernel
theorem dx_X12_isWord_16 : decode (go_cc mx_X12_isWord) 16 = .ok (.iload 4, 2) := by decide +kernel
theorem dx_X12_isWord_18 : decode (go_cc mx_X12_isWord) 18 = .ok (.bipush 8, 2) := by decide +kernel
theorem dx_X12_isWord_20 : decode (go_cc mx_X12_isWord) 20 = .ok (.iload_n 3, 1) := by decide +kernel
theorem dx_X12_isWord_21 : decode (go_cc mx_X12_isWord) 21 = .ok (.bipush 6, 2) := by decide +kernel
theorem dx_X12_isWord_23 : decode (go_cc mx_X12_isWord) 23 = .ok (.irem, 1) := by decide +kernel
theorem dx_X12_isWord_24 : decode (go_cc mx_X12_isWord) 24 = .ok (.iadd, 1) := by decide +kernel
theorem dx_X12_isWord_25 : decode (go_cc mx_X12_isWord) 25 = .ok (.iastore, 1) := by decide +kernel
theorem dx_X12_isWord_26 : decode (go_cc mx_X12_isWord) 26 = .ok (.iload_n 3, 1) := by decide +kernel
theorem dx_X12_isWord_27 : decode (go_cc mx_X12_isWord) 27 = .ok (.bipush 6, 2) := by decide +kernel
theorem dx_X12_isWord_29 : decode (go_cc mx_X12_isWord) 29 = .ok (.idiv, 1) := by decide +kernel
theorem dx_X12_isWord_30 : decode (go_cc mx_X12_isWord) 30 = .ok (.istore_n 3, 1) := by decide +kernel
theorem dx_X12_isWord_31 : decode (go_cc mx_X12_isWord) 31 = .ok (.iinc 4 (-1), 3) := by decide +kernel
theorem dx_X12_isWord_34 : decode (go_cc mx_X12_isWord) 34 = .ok (.goto (-27), 3) := by decide +kernel
theorem dx_X12_isWord_37 : decode (go_cc mx_X12_isWord) 37 = .ok (.aload_n 0, 1) := by decide +kernel
theorem dx_X12_isWord_38 : decode (go_cc mx_X12_isWord) 38 = .ok (.iconst 0, 1) := by decide +kernel
theorem dx_X12_isWord_39 : decode (go_cc mx_X12_isWord) 39 = .ok (.putfield 155, 3) := by decide +kernel
theorem dx_X12_isWord_42 : decode (go_cc mx_X12_isWord) 42 = .ok (.aload_n 0, 1) := by decide +kernel
theorem dx_X12_isWord_43 : decode (go_cc mx_X12_isWord) 43 = .ok (.iload_n 1, 1) := by decide +kernel
theorem dx_X12_isWord_44 : decode (go_cc mx_X12_isWord) 44 = .ok (.invokevirtual 256, 3) := by decide +kernel
theorem dx_X12_isWord_47 : decode (go_cc mx_X12_isWord) 47 = .ok (.aload_n 0, 1) := by decide +kernel
theorem dx_X12_isWord_48 : decode (go_cc mx_X12_isWord) 48 = .ok (.aload_n 0, 1) := by decide +kernel
theorem dx_X12_isWord_49 : decode (go_cc mx_X12_isWord) 49 = .ok (.getfield 7, 3) := by decide +kernel
theorem dx_X12_isWord_52 : decode (go_cc mx_X12_isWord) 52 = .ok (.bipush 112, 2) := by decide +kernel
theorem dx_X12_isWord_54 : decode (go_cc mx_X12_isWord) 54 = .ok (.iaload, 1) := by decide +kernel
theorem dx_X12_isWord_55 : decode (go_cc mx_X12_isWord) 55 = .ok (.iconst 0, 1) := by decide +kernel
theorem dx_X12_isWord_56 : decode (go_cc mx_X12_isWord) 56 = .ok (.iload_n 1, 1) := by decide +kernel
theorem dx_X12_isWord_57 : decode (go_cc mx_X12_isWord) 57 = .ok (.invokevirtual 268, 3) := by decide +kernel
theorem dx_X12_isWord_60 : decode (go_cc mx_X12_isWord) 60 = .ok (.ireturn, 1) := by decide +kernel
theorem dx_X12_wordMany_0 : decode (go_cc mx_X12_wordMany) 0 = .ok (.iconst 1, 1) := by decide +kernel
theorem dx_X12_wordMany_1 : decode (go_cc mx_X12_wordMany) 1 = .ok (.istore_n 1, 1) := by decide +kernel
theorem dx_X12_wordMany_2 : decode (go_cc mx_X12_wordMany) 2 = .ok (.iconst 0, 1) := by decide +kernel
theorem dx_X12_wordMany_3 : decode (go_cc mx_X12_wordMany) 3 = .ok (.istore_n 2, 1) := by decide +kernel
theorem dx_X12_wordMany_4 : decode (go_cc mx_X12_wordMany) 4 = .ok (.iload_n 2, 1) := by decide +kernel
theorem dx_X12_wordMany_5 : decode (go_cc mx_X12_wordMany) 5 = .ok (.iload_n 0, 1) := by decide +kernel
theorem dx_X12_wordMany_6 : decode (go_cc mx_X12_wordMany) 6 = .ok (.if_icmp .ge 14, 3) := by decide +kernel
theorem dx_X12_wordMany_9 : decode (go_cc mx_X12_wordMany) 9 = .ok (.iload_n 1, 1) := by decide +kernel
theorem dx_X12_wordMany_10 : decode (go_cc mx_X12_wordMany) 10 = .ok (.bipush 6, 2) := by decide +kernel
theorem dx_X12_wordMany_12 : decode (go_cc mx_X12_wordMany) 12 = .ok (.imul, 1) := by decide +kernel
theorem dx_X12_wordMany_13 : decode (go_cc mx_X12_wordMany) 13 = .ok (.istore_n 1, 1) := by decide +kernel
theorem dx_X12_wordMany_14 : decode (go_cc mx_X12_wordMany) 14 = .ok (.iinc 2 1, 3) := by decide +kernel
theorem dx_X12_wordMany_17 : decode (go_cc mx_X12_wordMany) 17 = .ok (.goto (-13), 3) := by decide +kernel
theorem dx_X12_wordMany_20 : decode (go_cc mx_X12_wordMany) 20 = .ok (.iload_n 1, 1) := by decide +kernel
theorem dx_X12_wordMany_21 : decode (go_cc mx_X12_wordMany) 21 = .ok (.ireturn, 1) := by decide +kernel
theorem dx_X12_words_0 : decode (go_cc mx_X12_words) 0 = .ok (.aload_n 0, 1) := by decide +kernel
theorem dx_X12_words_1 : decode (go_cc mx_X12_words) 1 = .ok (.iconst 0, 1) := by decide +kernel
theorem dx_X12_words_2 : decode (go_cc mx_X12_words) 2 = .ok (.putfield 139, 3) := by decide +kernel
theorem dx_X12_words_5 : decode (go_cc mx_X12_words) 5 = .ok (.iload_n 1, 1) := by decide +kernel
theorem dx_X12_words_6 : decode (go_cc mx_X12_words) 6 = .ok (.i2l, 1) := by decide +kernel
theorem dx_X12_words_7 : decode (go_cc mx_X12_words) 7 = .ok (.lconst 1, 1) := by decide +kernel
theorem dx_X12_words_8 : decode (go_cc mx_X12_words) 8 = .ok (.ldc2_w 356, 3) := by decide +kernel
theorem dx_X12_words_11 : decode (go_cc mx_X12_words) 11 = .ok (.invokestatic 144, 3) := by decide +kernel
theorem dx_X12_words_14 : decode (go_cc mx_X12_words) 14 = .ok (.ifCond .ne 6, 3) := by decide +kernel
theorem dx_X12_words_17 : decode (go_cc mx_X12_words) 17 = .ok (.bipush (-3), 2) := by decide +kernel
theorem dx_X12_words_19 : decode (go_cc mx_X12_words) 19 = .ok (.ireturn, 1) := by decide +kernel
theorem dx_X12_words_20 : decode (go_cc mx_X12_words) 20 = .ok (.iconst 0, 1) := by decide +kernel
theorem dx_X12_words_21 : decode (go_cc mx_X12_words) 21 = .ok (.istore_n 2, 1) := by decide +kernel
theorem dx_X12_words_22 : decode (go_cc mx_X12_words) 22 = .ok (.iconst 0, 1) := by decide +kernel
theorem dx_X12_words_23 : decode (go_cc mx_X12_words) 23 = .ok (.istore_n 3, 1) := by decide +kernel
theorem dx_X12_words_24 : decode (go_cc mx_X12_words) 24 = .ok (.iload_n 3, 1) := by decide +kernel
theorem dx_X12_words_25 : decode (go_cc mx_X12_words) 25 = .ok (.iload_n 1, 1) := by decide +kernel
theorem dx_X12_words_26 : decode (go_cc mx_X12_words) 26 = .ok (.invokestatic 390, 3) := by decide +kernel
theorem dx_X12_words_29 : decode (go_cc mx_X12_words) 29 = .ok (.if_icmp .ge 26, 3) := by decide +kernel
theorem dx_X12_words_32 : decode (go_cc mx_X12_words) 32 = .ok (.iload_n 2, 1) := by decide +kernel
theorem dx_X12_words_33 : decode (go_cc mx_X12_words) 33 = .ok (.aload_n 0, 1) := by decide +kernel
theorem dx_X12_words_34 : decode (go_cc mx_X12_words) 34 = .ok (.iload_n 1, 1) := by decide +kernel
theorem dx_X12_words_35 : decode (go_cc mx_X12_words) 35 = .ok (.iload_n 3, 1) := by decide +kernel
theorem dx_X12_words_36 : decode (go_cc mx_X12_words) 36 = .ok (.invokevirtual 393, 3) := by decide +kernel
theorem dx_X12_words_39 : decode (go_cc mx_X12_words) 39 = .ok (.ifCond .eq 7, 3) := by decide +kernel
theorem dx_X12_words_42 : decode (go_cc mx_X12_words) 42 = .ok (.iconst 1, 1) := by decide +kernel
theorem dx_X12_words_43 : decode (go_cc mx_X12_words) 43 = .ok (.goto 4, 3) := by decide +kernel
theorem dx_X12_words_46 : decode (go_cc mx_X12_words) 46 = .ok (.iconst 0, 1) := by decide +kernel
theorem dx_X12_words_47 : decode (go_cc mx_X12_words) 47 = .ok (.iadd, 1) := by decide +kernel
theorem dx_X12_words_48 : decode (go_cc mx_X12_words) 48 = .ok (.istore_n 2, 1) := by decide +kernel
theorem dx_X12_words_49 : decode (go_cc mx_X12_words) 49 = .ok (.iinc 3 1, 3) := by decide +kernel
theorem dx_X12_words_52 : decode (go_cc mx_X12_words) 52 = .ok (.goto (-28), 3) := by decide +kernel
theorem dx_X12_words_55 : decode (go_cc mx_X12_words) 55 = .ok (.iload_n 2, 1) := by decide +kernel
theorem dx_X12_words_56 : decode (go_cc mx_X12_words) 56 = .ok (.ireturn, 1) := by decide +kernel
theorem dx_X12_first_0 : decode (go_cc mx_X12_first) 0 = .ok (.aload_n 0, 1) := by decide +kernel
theorem dx_X12_first_1 : decode (go_cc mx_X12_first) 1 = .ok (.iconst 0, 1) := by decide +kernel
theorem dx_X12_first_2 : decode (go_cc mx_X12_first) 2 = .ok (.putfield 139, 3) := by decide +kernel
theorem dx_X12_first_5 : decode (go_cc mx_X12_first) 5 = .ok (.iload_n 1, 1) := by decide +kernel
theorem dx_X12_first_6 : decode (go_cc mx_X12_first) 6 = .ok (.i2l, 1) := by decide +kernel
theorem dx_X12_first_7 : decode (go_cc mx_X12_first) 7 = .ok (.lconst 1, 1) := by decide +kernel
theorem dx_X12_first_8 : decode (go_cc mx_X12_first) 8 = .ok (.ldc2_w 356, 3) := by decide +kernel
theorem dx_X12_first_11 : decode (go_cc mx_X12_first) 11 = .ok (.invokestatic 144, 3) := by decide +kernel
theorem dx_X12_first_14 : decode (go_cc mx_X12_first) 14 = .ok (.ifCond .eq 7, 3) := by decide +kernel
theorem dx_X12_first_17 : decode (go_cc mx_X12_first) 17 = .ok (.iload_n 2, 1) := by decide +kernel
theorem dx_X12_first_18 : decode (go_cc mx_X12_first) 18 = .ok (.ifCond .ge 6, 3) := by decide +kernel
theorem dx_X12_first_21 : decode (go_cc mx_X12_first) 21 = .ok (.bipush (-3), 2) := by decide +kernel
theorem dx_X12_first_23 : decode (go_cc mx_X12_first) 23 = .ok (.ireturn, 1) := by decide +kernel
theorem dx_X12_first_24 : decode (go_cc mx_X12_first) 24 = .ok (.iload_n 2, 1) := by decide +kernel
theorem dx_X12_first_25 : decode (go_cc mx_X12_first) 25 = .ok (.iload_n 1, 1) := by decide +kernel
theorem dx_X12_first_26 : decode (go_cc mx_X12_first) 26 = .ok (.if_icmp .lt 5, 3) := by decide +kernel
theorem dx_X12_first_29 : decode (go_cc mx_X12_first) 29 = .ok (.iconst (-1), 1) := by decide +kernel
theorem dx_X12_first_30 : decode (go_cc mx_X12_first) 30 = .ok (.ireturn, 1) := by decide +kernel
theorem dx_X12_first_31 : decode (go_cc mx_X12_first) 31 = .ok (.iconst 0, 1) := by decide +kernel
theorem dx_X12_first_32 : decode (go_cc mx_X12_first) 32 = .ok (.istore_n 3, 1) := by decide +kernel
theorem dx_X12_first_33 : decode (go_cc mx_X12_first) 33 = .ok (.iload_n 3, 1) := by decide +kernel
theorem dx_X12_first_34 : decode (go_cc mx_X12_first) 34 = .ok (.iload_n 1, 1) := by decide +kernel
theorem dx_X12_first_35 : decode (go_cc mx_X12_first) 35 = .ok (.invokestatic 390, 3) := by decide +kernel
theorem dx_X12_first_38 : decode (go_cc mx_X12_first) 38 = .ok (.if_icmp .ge 25, 3) := by decide +kernel
theorem dx_X12_first_41 : decode (go_cc mx_X12_first) 41 = .ok (.aload_n 0, 1) := by decide +kernel
theorem dx_X12_first_42 : decode (go_cc mx_X12_first) 42 = .ok (.iload_n 1, 1) := by decide +kernel
theorem dx_X12_first_43 : decode (go_cc mx_X12_first) 43 = .ok (.iload_n 3, 1) := by decide +kernel
theorem dx_X12_first_44 : decode (go_cc mx_X12_first) 44 = .ok (.invokevirtual 393, 3) := by decide +kernel
theorem dx_X12_first_47 : decode (go_cc mx_X12_first) 47 = .ok (.ifCond .eq 10, 3) := by decide +kernel
theorem dx_X12_first_50 : decode (go_cc mx_X12_first) 50 = .ok (.aload_n 0, 1) := by decide +kernel
theorem dx_X12_first_51 : decode (go_cc mx_X12_first) 51 = .ok (.getfield 48, 3) := by decide +kernel
theorem dx_X12_first_54 : decode (go_cc mx_X12_first) 54 = .ok (.iload_n 2, 1) := by decide +kernel
theorem dx_X12_first_55 : decode (go_cc mx_X12_first) 55 = .ok (.iaload, 1) := by decide +kernel
theorem dx_X12_first_56 : decode (go_cc mx_X12_first) 56 = .ok (.ireturn, 1) := by decide +kernel
theorem dx_X12_first_57 : decode (go_cc mx_X12_first) 57 = .ok (.iinc 3 1, 3) := by decide +kernel
theorem dx_X12_first_60 : decode (go_cc mx_X12_first) 60 = .ok (.goto (-27), 3) := by decide +kernel
theorem dx_X12_first_63 : decode (go_cc mx_X12_first) 63 = .ok (.iconst (-1), 1) := by decide +kernel
theorem dx_X12_first_64 : decode (go_cc mx_X12_first) 64 = .ok (.ireturn, 1) := by decide +kernel
theorem dx_X12_turned_0 : decode (go_cc mx_X12_turned) 0 = .ok (.aload_n 0, 1) := by decide +kernel
theorem dx_X12_turned_1 : decode (go_cc mx_X12_turned) 1 = .ok (.iconst 0, 1) := by decide +kernel
theorem dx_X12_turned_2 : decode (go_cc mx_X12_turned) 2 = .ok (.putfield 139, 3) := by decide +kernel
theorem dx_X12_turned_5 : decode (go_cc mx_X12_turned) 5 = .ok (.aload_n 0, 1) := by decide +kernel
theorem dx_X12_turned_6 : decode (go_cc mx_X12_turned) 6 = .ok (.invokevirtual 253, 3) := by decide +kernel
theorem dx_X12_turned_9 : decode (go_cc mx_X12_turned) 9 = .ok (.istore_n 1, 1) := by decide +kernel
theorem dx_X12_turned_10 : decode (go_cc mx_X12_turned) 10 = .ok (.iconst 0, 1) := by decide +kernel
theorem dx_X12_turned_11 : decode (go_cc mx_X12_turned) 11 = .ok (.istore_n 2, 1) := by decide +kernel
theorem dx_X12_turned_12 : decode (go_cc mx_X12_turned) 12 = .ok (.iload_n 2, 1) := by decide +kernel
theorem dx_X12_turned_13 : decode (go_cc mx_X12_turned) 13 = .ok (.iload_n 1, 1) := by decide +kernel
theorem dx_X12_turned_14 : decode (go_cc mx_X12_turned) 14 = .ok (.if_icmp .ge 28, 3) := by decide +kernel
theorem dx_X12_turned_17 : decode (go_cc mx_X12_turned) 17 = .ok (.aload_n 0, 1) := by decide +kernel
theorem dx_X12_turned_18 : decode (go_cc mx_X12_turned) 18 = .ok (.getfield 48, 3) := by decide +kernel
theorem dx_X12_turned_21 : decode (go_cc mx_X12_turned) 21 = .ok (.iload_n 2, 1) := by decide +kernel
theorem dx_X12_turned_22 : decode (go_cc mx_X12_turned) 22 = .ok (.aload_n 0, 1) := by decide +kernel
theorem dx_X12_turned_23 : decode (go_cc mx_X12_turned) 23 = .ok (.getfield 7, 3) := by decide +kernel
theorem dx_X12_turned_26 : decode (go_cc mx_X12_turned) 26 = .ok (.bipush 114, 2) := by decide +kernel
theorem dx_X12_turned_28 : decode (go_cc mx_X12_turned) 28 = .ok (.iload_n 1, 1) := by decide +kernel
theorem dx_X12_turned_29 : decode (go_cc mx_X12_turned) 29 = .ok (.iadd, 1) := by decide +kernel
theorem dx_X12_turned_30 : decode (go_cc mx_X12_turned) 30 = .ok (.iconst 1, 1) := by decide +kernel
theorem dx_X12_turned_31 : decode (go_cc mx_X12_turned) 31 = .ok (.isub, 1) := by decide +kernel
theorem dx_X12_turned_32 : decode (go_cc mx_X12_turned) 32 = .ok (.iload_n 2, 1) := by decide +kernel
theorem dx_X12_turned_33 : decode (go_cc mx_X12_turned) 33 = .ok (.isub, 1) := by decide +kernel
theorem dx_X12_turned_34 : decode (go_cc mx_X12_turned) 34 = .ok (.iaload, 1) := by decide +kernel
theorem dx_X12_turned_35 : decode (go_cc mx_X12_turned) 35 = .ok (.iastore, 1) := by decide +kernel
theorem dx_X12_turned_36 : decode (go_cc mx_X12_turned) 36 = .ok (.iinc 2 1, 3) := by decide +kernel
theorem dx_X12_turned_39 : decode (go_cc mx_X12_turned) 39 = .ok (.goto (-27), 3) := by decide +kernel
theorem dx_X12_turned_42 : decode (go_cc mx_X12_turned) 42 = .ok (.aload_n 0, 1) := by decide +kernel
theorem dx_X12_turned_43 : decode (go_cc mx_X12_turned) 43 = .ok (.iconst 0, 1) := by decide +kernel
theorem dx_X12_turned_44 : decode (go_cc mx_X12_turned) 44 = .ok (.putfield 155, 3) := by decide +kernel
theorem dx_X12_turned_47 : decode (go_cc mx_X12_turned) 47 = .ok (.aload_n 0, 1) := by decide +kernel
theorem dx_X12_turned_48 : decode (go_cc mx_X12_turned) 48 = .ok (.iload_n 1, 1) := by decide +kernel
theorem dx_X12_turned_49 : decode (go_cc mx_X12_turned) 49 = .ok (.invokevirtual 256, 3) := by decide +kernel
theorem dx_X12_turned_52 : decode (go_cc mx_X12_turned) 52 = .ok (.iload_n 1, 1) := by decide +kernel
theorem dx_X12_turned_53 : decode (go_cc mx_X12_turned) 53 = .ok (.ifCond .le 23, 3) := by decide +kernel
theorem dx_X12_turned_56 : decode (go_cc mx_X12_turned) 56 = .ok (.aload_n 0, 1) := by decide +kernel
theorem dx_X12_turned_57 : decode (go_cc mx_X12_turned) 57 = .ok (.aload_n 0, 1) := by decide +kernel
theorem dx_X12_turned_58 : decode (go_cc mx_X12_turned) 58 = .ok (.getfield 7, 3) := by decide +kernel
theorem dx_X12_turned_61 : decode (go_cc mx_X12_turned) 61 = .ok (.bipush 112, 2) := by decide +kernel
theorem dx_X12_turned_63 : decode (go_cc mx_X12_turned) 63 = .ok (.iaload, 1) := by decide +kernel
theorem dx_X12_turned_64 : decode (go_cc mx_X12_turned) 64 = .ok (.iconst 0, 1) := by decide +kernel
theorem dx_X12_turned_65 : decode (go_cc mx_X12_turned) 65 = .ok (.iload_n 1, 1) := by decide +kernel
theorem dx_X12_turned_66 : decode (go_cc mx_X12_turned) 66 = .ok (.invokevirtual 268, 3) := by decide +kernel
theorem dx_X12_turned_69 : decode (go_cc mx_X12_turned) 69 = .ok (.ifCond .eq 7, 3) := by decide +kernel
theorem dx_X12_turned_72 : decode (go_cc mx_X12_turned) 72 = .ok (.iconst 1, 1) := by decide +kernel
theorem dx_X12_turned_73 : decode (go_cc mx_X12_turned) 73 = .ok (.goto 4, 3) := by decide +kernel
theorem dx_X12_turned_76 : decode (go_cc mx_X12_turned) 76 = .ok (.iconst 0, 1) := by decide +kernel
theorem dx_X12_turned_77 : decode (go_cc mx_X12_turned) 77 = .ok (.ireturn, 1) := by decide +kernel
theorem dx_X12_isProductive_0 : decode (go_cc mx_X12_isProductive) 0 = .ok (.aload_n 0, 1) := by decide +kernel
theorem dx_X12_isProductive_1 : decode (go_cc mx_X12_isProductive) 1 = .ok (.getfield 45, 3) := by decide +kernel
theorem dx_X12_isProductive_4 : decode (go_cc mx_X12_isProductive) 4 = .ok (.iload_n 1, 1) := by decide +kernel
theorem dx_X12_isProductive_5 : decode (go_cc mx_X12_isProductive) 5 = .ok (.iaload, 1) := by decide +kernel
theorem dx_X12_isProductive_6 : decode (go_cc mx_X12_isProductive) 6 = .ok (.ldc 231, 2) := by decide +kernel
theorem dx_X12_isProductive_8 : decode (go_cc mx_X12_isProductive) 8 = .ok (.if_icmp .ge 7, 3) := by decide +kernel
theorem dx_X12_isProductive_11 : decode (go_cc mx_X12_isProductive) 11 = .ok (.iconst 1, 1) := by decide +kernel
theorem dx_X12_isProductive_12 : decode (go_cc mx_X12_isProductive) 12 = .ok (.goto 4, 3) := by decide +kernel
theorem dx_X12_isProductive_15 : decode (go_cc mx_X12_isProductive) 15 = .ok (.iconst 0, 1) := by decide +kernel
theorem dx_X12_isProductive_16 : decode (go_cc mx_X12_isProductive) 16 = .ok (.ireturn, 1) := by decide +kernel
theorem dx_X12_partBegins_0 : decode (go_cc mx_X12_partBegins) 0 = .ok (.iload_n 1, 1) := by decide +kernel
theorem dx_X12_partBegins_1 : decode (go_cc mx_X12_partBegins) 1 = .ok (.bipush 8, 2) := by decide +kernel
theorem dx_X12_partBegins_3 : decode (go_cc mx_X12_partBegins) 3 = .ok (.if_icmp .lt 28, 3) := by decide +kernel
theorem dx_X12_partBegins_6 : decode (go_cc mx_X12_partBegins) 6 = .ok (.iload_n 2, 1) := by decide +kernel
theorem dx_X12_partBegins_7 : decode (go_cc mx_X12_partBegins) 7 = .ok (.iload_n 3, 1) := by decide +kernel
theorem dx_X12_partBegins_8 : decode (go_cc mx_X12_partBegins) 8 = .ok (.iconst 1, 1) := by decide +kernel
theorem dx_X12_partBegins_9 : decode (go_cc mx_X12_partBegins) 9 = .ok (.isub, 1) := by decide +kernel
theorem dx_X12_partBegins_10 : decode (go_cc mx_X12_partBegins) 10 = .ok (.if_icmp .ne 17, 3) := by decide +kernel
theorem dx_X12_partBegins_13 : decode (go_cc mx_X12_partBegins) 13 = .ok (.aload_n 0, 1) := by decide +kernel
theorem dx_X12_partBegins_14 : decode (go_cc mx_X12_partBegins) 14 = .ok (.getfield 48, 3) := by decide +kernel
theorem dx_X12_partBegins_17 : decode (go_cc mx_X12_partBegins) 17 = .ok (.iload_n 2, 1) := by decide +kernel
theorem dx_X12_partBegins_18 : decode (go_cc mx_X12_partBegins) 18 = .ok (.iaload, 1) := by decide +kernel
theorem dx_X12_partBegins_19 : decode (go_cc mx_X12_partBegins) 19 = .ok (.iload_n 1, 1) := by decide +kernel
theorem dx_X12_partBegins_20 : decode (go_cc mx_X12_partBegins) 20 = .ok (.if_icmp .ne 7, 3) := by decide +kernel
theorem dx_X12_partBegins_23 : decode (go_cc mx_X12_partBegins) 23 = .ok (.iconst 1, 1) := by decide +kernel
theorem dx_X12_partBegins_24 : decode (go_cc mx_X12_partBegins) 24 = .ok (.goto 18, 3) := by decide +kernel
theorem dx_X12_partBegins_27 : decode (go_cc mx_X12_partBegins) 27 = .ok (.iconst 0, 1) := by decide +kernel
theorem dx_X12_partBegins_28 : decode (go_cc mx_X12_partBegins) 28 = .ok (.goto 14, 3) := by decide +kernel
theorem dx_X12_partBegins_31 : decode (go_cc mx_X12_partBegins) 31 = .ok (.aload_n 0, 1) := by decide +kernel
theorem dx_X12_partBegins_32 : decode (go_cc mx_X12_partBegins) 32 = .ok (.getfield 115, 3) := by decide +kernel
theorem dx_X12_partBegins_35 : decode (go_cc mx_X12_partBegins) 35 = .ok (.bipush 16, 2) := by decide +kernel
theorem dx_X12_partBegins_37 : decode (go_cc mx_X12_partBegins) 37 = .ok (.iload_n 1, 1) := by decide +kernel
theorem dx_X12_partBegins_38 : decode (go_cc mx_X12_partBegins) 38 = .ok (.imul, 1) := by decide +kernel
theorem dx_X12_partBegins_39 : decode (go_cc mx_X12_partBegins) 39 = .ok (.iload_n 2, 1) := by decide +kernel
theorem dx_X12_partBegins_40 : decode (go_cc mx_X12_partBegins) 40 = .ok (.iadd, 1) := by decide +kernel
theorem dx_X12_partBegins_41 : decode (go_cc mx_X12_partBegins) 41 = .ok (.baload, 1) := by decide +kernel
theorem dx_X12_partBegins_42 : decode (go_cc mx_X12_partBegins) 42 = .ok (.ireturn, 1) := by decide +kernel
theorem dx_X12_isRestProductive_0 : decode (go_cc mx_X12_isRestProductive) 0 = .ok (.iload_n 2, 1) := by decide +kernel
theorem dx_X12_isRestProductive_1 : decode (go_cc mx_X12_isRestProductive) 1 = .ok (.istore_n 3, 1) := by decide +kernel
theorem dx_X12_isRestProductive_2 : decode (go_cc mx_X12_isRestProductive) 2 = .ok (.iload_n 3, 1) := by decide +kernel
theorem dx_X12_isRestProductive_3 : decode (go_cc mx_X12_isRestProductive) 3 = .ok (.aload_n 0, 1) := by decide +kernel
theorem dx_X12_isRestProductive_4 : decode (go_cc mx_X12_isRestProductive) 4 = .ok (.iload_n 1, 1) := by decide +kernel
theorem dx_X12_isRestProductive_5 : decode (go_cc mx_X12_isRestProductive) 5 = .ok (.invokevirtual 148, 3) := by decide +kernel
theorem dx_X12_isRestProductive_8 : decode (go_cc mx_X12_isRestProductive) 8 = .ok (.if_icmp .ge 24, 3) := by decide +kernel
theorem dx_X12_isRestProductive_11 : decode (go_cc mx_X12_isRestProductive) 11 = .ok (.aload_n 0, 1) := by decide +kernel
theorem dx_X12_isRestProductive_12 : decode (go_cc mx_X12_isRestProductive) 12 = .ok (.aload_n 0, 1) := by decide +kernel
theorem dx_X12_isRestProductive_13 : decode (go_cc mx_X12_isRestProductive) 13 = .ok (.iload_n 1, 1) := by decide +kernel
theorem dx_X12_isRestProductive_14 : decode (go_cc mx_X12_isRestProductive) 14 = .ok (.iload_n 3, 1) := by decide +kernel
theorem dx_X12_isRestProductive_15 : decode (go_cc mx_X12_isRestProductive) 15 = .ok (.invokevirtual 190, 3) := by decide +kernel
theorem dx_X12_isRestProductive_18 : decode (go_cc mx_X12_isRestProductive) 18 = .ok (.invokevirtual 396, 3) := by decide +kernel
theorem dx_X12_isRestProductive_21 : decode (go_cc mx_X12_isRestProductive) 21 = .ok (.ifCond .ne 5, 3) := by decide +kernel
theorem dx_X12_isRestProductive_24 : decode (go_cc mx_X12_isRestProductive) 24 = .ok (.iconst 0, 1) := by decide +kernel
theorem dx_X12_isRestProductive_25 : decode (go_cc mx_X12_isRestProductive) 25 = .ok (.ireturn, 1) := by decide +kernel
theorem dx_X12_isRestProductive_26 : decode (go_cc mx_X12_isRestProductive) 26 = .ok (.iinc 3 1, 3) := by decide +kernel
theorem dx_X12_isRestProductive_29 : decode (go_cc mx_X12_isRestProductive) 29 = .ok (.goto (-27), 3) := by decide +kernel
theorem dx_X12_isRestProductive_32 : decode (go_cc mx_X12_isRestProductive) 32 = .ok (.iconst 1, 1) := by decide +kernel
theorem dx_X12_isRestProductive_33 : decode (go_cc mx_X12_isRestProductive) 33 = .ok (.ireturn, 1) := by decide +kernel
theorem dx_X12_ruleBegins_0 : decode (go_cc mx_X12_ruleBegins) 0 = .ok (.iconst 0, 1) := by decide +kernel
theorem dx_X12_ruleBegins_1 : decode (go_cc mx_X12_ruleBegins) 1 = .ok (.istore 4, 2) := by decide +kernel
theorem dx_X12_ruleBegins_3 : decode (go_cc mx_X12_ruleBegins) 3 = .ok (.iload 4, 2) := by decide +kernel
theorem dx_X12_ruleBegins_5 : decode (go_cc mx_X12_ruleBegins) 5 = .ok (.iload_n 3, 1) := by decide +kernel
theorem dx_X12_ruleBegins_6 : decode (go_cc mx_X12_ruleBegins) 6 = .ok (.if_icmp .gt 27, 3) := by decide +kernel
theorem dx_X12_ruleBegins_9 : decode (go_cc mx_X12_ruleBegins) 9 = .ok (.aload_n 0, 1) := by decide +kernel
theorem dx_X12_ruleBegins_10 : decode (go_cc mx_X12_ruleBegins) 10 = .ok (.getfield 118, 3) := by decide +kernel
theorem dx_X12_ruleBegins_13 : decode (go_cc mx_X12_ruleBegins) 13 = .ok (.iload 4, 2) := by decide +kernel
theorem dx_X12_ruleBegins_15 : decode (go_cc mx_X12_ruleBegins) 15 = .ok (.iload 4, 2) := by decide +kernel
theorem dx_X12_ruleBegins_17 : decode (go_cc mx_X12_ruleBegins) 17 = .ok (.iload_n 2, 1) := by decide +kernel
theorem dx_X12_ruleBegins_18 : decode (go_cc mx_X12_ruleBegins) 18 = .ok (.if_icmp .ne 7, 3) := by decide +kernel
theorem dx_X12_ruleBegins_21 : decode (go_cc mx_X12_ruleBegins) 21 = .ok (.iconst 1, 1) := by decide +kernel
theorem dx_X12_ruleBegins_22 : decode (go_cc mx_X12_ruleBegins) 22 = .ok (.goto 4, 3) := by decide +kernel
theorem dx_X12_ruleBegins_25 : decode (go_cc mx_X12_ruleBegins) 25 = .ok (.iconst 0, 1) := by decide +kernel
theorem dx_X12_ruleBegins_26 : decode (go_cc mx_X12_ruleBegins) 26 = .ok (.bastore, 1) := by decide +kernel
theorem dx_X12_ruleBegins_27 : decode (go_cc mx_X12_ruleBegins) 27 = .ok (.iinc 4 1, 3) := by decide +kernel
theorem dx_X12_ruleBegins_30 : decode (go_cc mx_X12_ruleBegins) 30 = .ok (.goto (-27), 3) := by decide +kernel
theorem dx_X12_ruleBegins_33 : decode (go_cc mx_X12_ruleBegins) 33 = .ok (.iconst 0, 1) := by decide +kernel
theorem dx_X12_ruleBegins_34 : decode (go_cc mx_X12_ruleBegins) 34 = .ok (.istore 4, 2) := by decide +kernel
theorem dx_X12_ruleBegins_36 : decode (go_cc mx_X12_ruleBegins) 36 = .ok (.iload 4, 2) := by decide +kernel
theorem dx_X12_ruleBegins_38 : decode (go_cc mx_X12_ruleBegins) 38 = .ok (.aload_n 0, 1) := by decide +kernel
theorem dx_X12_ruleBegins_39 : decode (go_cc mx_X12_ruleBegins) 39 = .ok (.iload_n 1, 1) := by decide +kernel
theorem dx_X12_ruleBegins_40 : decode (go_cc mx_X12_ruleBegins) 40 = .ok (.invokevirtual 148, 3) := by decide +kernel
theorem dx_X12_ruleBegins_43 : decode (go_cc mx_X12_ruleBegins) 43 = .ok (.if_icmp .ge 146, 3) := by decide +kernel
theorem dx_X12_ruleBegins_46 : decode (go_cc mx_X12_ruleBegins) 46 = .ok (.iload_n 2, 1) := by decide +kernel
theorem dx_X12_ruleBegins_47 : decode (go_cc mx_X12_ruleBegins) 47 = .ok (.istore 5, 2) := by decide +kernel
theorem dx_X12_ruleBegins_49 : decode (go_cc mx_X12_ruleBegins) 49 = .ok (.iload 5, 2) := by decide +kernel
theorem dx_X12_ruleBegins_51 : decode (go_cc mx_X12_ruleBegins) 51 = .ok (.iload_n 3, 1) := by decide +kernel
theorem dx_X12_ruleBegins_52 : decode (go_cc mx_X12_ruleBegins) 52 = .ok (.if_icmp .ge 50, 3) := by decide +kernel
theorem dx_X12_ruleBegins_55 : decode (go_cc mx_X12_ruleBegins) 55 = .ok (.aload_n 0, 1) := by decide +kernel
theorem dx_X12_ruleBegins_56 : decode (go_cc mx_X12_ruleBegins) 56 = .ok (.getfield 118, 3) := by decide +kernel
theorem dx_X12_ruleBegins_59 : decode (go_cc mx_X12_ruleBegins) 59 = .ok (.iload 5, 2) := by decide +kernel
theorem dx_X12_ruleBegins_61 : decode (go_cc mx_X12_ruleBegins) 61 = .ok (.baload, 1) := by decide +kernel
theorem dx_X12_ruleBegins_62 : decode (go_cc mx_X12_ruleBegins) 62 = .ok (.ifCond .eq 34, 3) := by decide +kernel
theorem dx_X12_ruleBegins_65 : decode (go_cc mx_X12_ruleBegins) 65 = .ok (.aload_n 0, 1) := by decide +kernel
theorem dx_X12_ruleBegins_66 : decode (go_cc mx_X12_ruleBegins) 66 = .ok (.aload_n 0, 1) := by decide +kernel
theorem dx_X12_ruleBegins_67 : decode (go_cc mx_X12_ruleBegins) 67 = .ok (.iload_n 1, 1) := by decide +kernel
theorem dx_X12_ruleBegins_68 : decode (go_cc mx_X12_ruleBegins) 68 = .ok (.iload 4, 2) := by decide +kernel
theorem dx_X12_ruleBegins_70 : decode (go_cc mx_X12_ruleBegins) 70 = .ok (.invokevirtual 190, 3) := by decide +kernel
theorem dx_X12_ruleBegins_73 : decode (go_cc mx_X12_ruleBegins) 73 = .ok (.iload 5, 2) := by decide +kernel
theorem dx_X12_ruleBegins_75 : decode (go_cc mx_X12_ruleBegins) 75 = .ok (.iload_n 3, 1) := by decide +kernel
theorem dx_X12_ruleBegins_76 : decode (go_cc mx_X12_ruleBegins) 76 = .ok (.invokevirtual 399, 3) := by decide +kernel
theorem dx_X12_ruleBegins_79 : decode (go_cc mx_X12_ruleBegins) 79 = .ok (.ifCond .eq 17, 3) := by decide +kernel
theorem dx_X12_ruleBegins_82 : decode (go_cc mx_X12_ruleBegins) 82 = .ok (.aload_n 0, 1) := by decide +kernel
theorem dx_X12_ruleBegins_83 : decode (go_cc mx_X12_ruleBegins) 83 = .ok (.iload_n 1, 1) := by decide +kernel
theorem dx_X12_ruleBegins_84 : decode (go_cc mx_X12_ruleBegins) 84 = .ok (.iload 4, 2) := by decide +kernel
theorem dx_X12_ruleBegins_86 : decode (go_cc mx_X12_ruleBegins) 86 = .ok (.iconst 1, 1) := by decide +kernel
theorem dx_X12_ruleBegins_87 : decode (go_cc mx_X12_ruleBegins) 87 = .ok (.iadd, 1) := by decide +kernel
theorem dx_X12_ruleBegins_88 : decode (go_cc mx_X12_ruleBegins) 88 = .ok (.invokevirtual 402, 3) := by decide +kernel
theorem dx_X12_ruleBegins_91 : decode (go_cc mx_X12_ruleBegins) 91 = .ok (.ifCond .eq 5, 3) := by decide +kernel
theorem dx_X12_ruleBegins_94 : decode (go_cc mx_X12_ruleBegins) 94 = .ok (.iconst 1, 1) := by decide +kernel
theorem dx_X12_ruleBegins_95 : decode (go_cc mx_X12_ruleBegins) 95 = .ok (.ireturn, 1) := by decide +kernel
theorem dx_X12_ruleBegins_96 : decode (go_cc mx_X12_ruleBegins) 96 = .ok (.iinc 5 1, 3) := by decide +kernel
theorem dx_X12_ruleBegins_99 : decode (go_cc mx_X12_ruleBegins) 99 = .ok (.goto (-50), 3) := by decide +kernel
theorem dx_X12_ruleBegins_102 : decode (go_cc mx_X12_ruleBegins) 102 = .ok (.iload_n 3, 1) := by decide +kernel
theorem dx_X12_ruleBegins_103 : decode (go_cc mx_X12_ruleBegins) 103 = .ok (.istore 5, 2) := by decide +kernel
theorem dx_X12_ruleBegins_105 : decode (go_cc mx_X12_ruleBegins) 105 = .ok (.iload 5, 2) := by decide +kernel
theorem dx_X12_ruleBegins_107 : decode (go_cc mx_X12_ruleBegins) 107 = .ok (.iload_n 2, 1) := by decide +kernel
theorem dx_X12_ruleBegins_108 : decode (go_cc mx_X12_ruleBegins) 108 = .ok (.if_icmp .lt 75, 3) := by decide +kernel
theorem dx_X12_ruleBegins_111 : decode (go_cc mx_X12_ruleBegins) 111 = .ok (.iconst 0, 1) := by decide +kernel
theorem dx_X12_ruleBegins_112 : decode (go_cc mx_X12_ruleBegins) 112 = .ok (.istore 6, 2) := by decide +kernel
theorem dx_X12_ruleBegins_114 : decode (go_cc mx_X12_ruleBegins) 114 = .ok (.iload_n 2, 1) := by decide +kernel
theorem dx_X12_ruleBegins_115 : decode (go_cc mx_X12_ruleBegins) 115 = .ok (.istore 7, 2) := by decide +kernel
theorem dx_X12_ruleBegins_117 : decode (go_cc mx_X12_ruleBegins) 117 = .ok (.iload 7, 2) := by decide +kernel
theorem dx_X12_ruleBegins_119 : decode (go_cc mx_X12_ruleBegins) 119 = .ok (.iload 5, 2) := by decide +kernel
theorem dx_X12_ruleBegins_121 : decode (go_cc mx_X12_ruleBegins) 121 = .ok (.if_icmp .ge 47, 3) := by decide +kernel
theorem dx_X12_ruleBegins_124 : decode (go_cc mx_X12_ruleBegins) 124 = .ok (.iload 6, 2) := by decide +kernel
theorem dx_X12_ruleBegins_126 : decode (go_cc mx_X12_ruleBegins) 126 = .ok (.aload_n 0, 1) := by decide +kernel
theorem dx_X12_ruleBegins_127 : decode (go_cc mx_X12_ruleBegins) 127 = .ok (.getfield 118, 3) := by decide +kernel
theorem dx_X12_ruleBegins_130 : decode (go_cc mx_X12_ruleBegins) 130 = .ok (.iload 7, 2) := by decide +kernel
theorem dx_X12_ruleBegins_132 : decode (go_cc mx_X12_ruleBegins) 132 = .ok (.baload, 1) := by decide +kernel
theorem dx_X12_ruleBegins_133 : decode (go_cc mx_X12_ruleBegins) 133 = .ok (.ifCond .eq 25, 3) := by decide +kernel
theorem dx_X12_ruleBegins_136 : decode (go_cc mx_X12_ruleBegins) 136 = .ok (.aload_n 0, 1) := by decide +kernel
theorem dx_X12_ruleBegins_137 : decode (go_cc mx_X12_ruleBegins) 137 = .ok (.aload_n 0, 1) := by decide +kernel
theorem dx_X12_ruleBegins_138 : decode (go_cc mx_X12_ruleBegins) 138 = .ok (.iload_n 1, 1) := by decide +kernel
theorem dx_X12_ruleBegins_139 : decode (go_cc mx_X12_ruleBegins) 139 = .ok (.iload 4, 2) := by decide +kernel
theorem dx_X12_ruleBegins_141 : decode (go_cc mx_X12_ruleBegins) 141 = .ok (.invokevirtual 190, 3) := by decide +kernel
theorem dx_X12_ruleBegins_144 : decode (go_cc mx_X12_ruleBegins) 144 = .ok (.iload 7, 2) := by decide +kernel
theorem dx_X12_ruleBegins_146 : decode (go_cc mx_X12_ruleBegins) 146 = .ok (.iload 5, 2) := by decide +kernel
theorem dx_X12_ruleBegins_148 : decode (go_cc mx_X12_ruleBegins) 148 = .ok (.invokevirtual 268, 3) := by decide +kernel
theorem dx_X12_ruleBegins_151 : decode (go_cc mx_X12_ruleBegins) 151 = .ok (.ifCond .eq 7, 3) := by decide +kernel
theorem dx_X12_ruleBegins_154 : decode (go_cc mx_X12_ruleBegins) 154 = .ok (.iconst 1, 1) := by decide +kernel
theorem dx_X12_ruleBegins_155 : decode (go_cc mx_X12_ruleBegins) 155 = .ok (.goto 4, 3) := by decide +kernel
theorem dx_X12_ruleBegins_158 : decode (go_cc mx_X12_ruleBegins) 158 = .ok (.iconst 0, 1) := by decide +kernel
theorem dx_X12_ruleBegins_159 : decode (go_cc mx_X12_ruleBegins) 159 = .ok (.ior, 1) := by decide +kernel
theorem dx_X12_ruleBegins_160 : decode (go_cc mx_X12_ruleBegins) 160 = .ok (.istore 6, 2) := by decide +kernel
theorem dx_X12_ruleBegins_162 : decode (go_cc mx_X12_ruleBegins) 162 = .ok (.iinc 7 1, 3) := by decide +kernel
theorem dx_X12_ruleBegins_165 : decode (go_cc mx_X12_ruleBegins) 165 = .ok (.goto (-48), 3) := by decide +kernel
theorem dx_X12_ruleBegins_168 : decode (go_cc mx_X12_ruleBegins) 168 = .ok (.aload_n 0, 1) := by decide +kernel
theorem dx_X12_ruleBegins_169 : decode (go_cc mx_X12_ruleBegins) 169 = .ok (.getfield 118, 3) := by decide +kernel
theorem dx_X12_ruleBegins_172 : decode (go_cc mx_X12_ruleBegins) 172 = .ok (.iload 5, 2) := by decide +kernel
theorem dx_X12_ruleBegins_174 : decode (go_cc mx_X12_ruleBegins) 174 = .ok (.iload 6, 2) := by decide +kernel
theorem dx_X12_ruleBegins_176 : decode (go_cc mx_X12_ruleBegins) 176 = .ok (.bastore, 1) := by decide +kernel
theorem dx_X12_ruleBegins_177 : decode (go_cc mx_X12_ruleBegins) 177 = .ok (.iinc 5 (-1), 3) := by decide +kernel
theorem dx_X12_ruleBegins_180 : decode (go_cc mx_X12_ruleBegins) 180 = .ok (.goto (-75), 3) := by decide +kernel
theorem dx_X12_ruleBegins_183 : decode (go_cc mx_X12_ruleBegins) 183 = .ok (.iinc 4 1, 3) := by decide +kernel
theorem dx_X12_ruleBegins_186 : decode (go_cc mx_X12_ruleBegins) 186 = .ok (.goto (-150), 3) := by decide +kernel
theorem dx_X12_ruleBegins_189 : decode (go_cc mx_X12_ruleBegins) 189 = .ok (.iconst 0, 1) := by decide +kernel
theorem dx_X12_ruleBegins_190 : decode (go_cc mx_X12_ruleBegins) 190 = .ok (.ireturn, 1) := by decide +kernel
theorem dx_X12_isViable_0 : decode (go_cc mx_X12_isViable) 0 = .ok (.aload_n 0, 1) := by decide +kernel
theorem dx_X12_isViable_1 : decode (go_cc mx_X12_isViable) 1 = .ok (.iconst 0, 1) := by decide +kernel
theorem dx_X12_isViable_2 : decode (go_cc mx_X12_isViable) 2 = .ok (.putfield 155, 3) := by decide +kernel
theorem dx_X12_isViable_5 : decode (go_cc mx_X12_isViable) 5 = .ok (.aload_n 0, 1) := by decide +kernel
theorem dx_X12_isViable_6 : decode (go_cc mx_X12_isViable) 6 = .ok (.invokevirtual 238, 3) := by decide +kernel
theorem dx_X12_isViable_9 : decode (go_cc mx_X12_isViable) 9 = .ok (.aload_n 0, 1) := by decide +kernel
theorem dx_X12_isViable_10 : decode (go_cc mx_X12_isViable) 10 = .ok (.iload_n 1, 1) := by decide +kernel
theorem dx_X12_isViable_11 : decode (go_cc mx_X12_isViable) 11 = .ok (.invokevirtual 256, 3) := by decide +kernel
theorem dx_X12_isViable_14 : decode (go_cc mx_X12_isViable) 14 = .ok (.iload_n 1, 1) := by decide +kernel
theorem dx_X12_isViable_15 : decode (go_cc mx_X12_isViable) 15 = .ok (.ifCond .ne 15, 3) := by decide +kernel
theorem dx_X12_isViable_18 : decode (go_cc mx_X12_isViable) 18 = .ok (.aload_n 0, 1) := by decide +kernel
theorem dx_X12_isViable_19 : decode (go_cc mx_X12_isViable) 19 = .ok (.aload_n 0, 1) := by decide +kernel
theorem dx_X12_isViable_20 : decode (go_cc mx_X12_isViable) 20 = .ok (.getfield 7, 3) := by decide +kernel
theorem dx_X12_isViable_23 : decode (go_cc mx_X12_isViable) 23 = .ok (.bipush 112, 2) := by decide +kernel
theorem dx_X12_isViable_25 : decode (go_cc mx_X12_isViable) 25 = .ok (.iaload, 1) := by decide +kernel
theorem dx_X12_isViable_26 : decode (go_cc mx_X12_isViable) 26 = .ok (.invokevirtual 396, 3) := by decide +kernel
theorem dx_X12_isViable_29 : decode (go_cc mx_X12_isViable) 29 = .ok (.ireturn, 1) := by decide +kernel
theorem dx_X12_isViable_30 : decode (go_cc mx_X12_isViable) 30 = .ok (.iconst 0, 1) := by decide +kernel
theorem dx_X12_isViable_31 : decode (go_cc mx_X12_isViable) 31 = .ok (.istore_n 2, 1) := by decide +kernel
theorem dx_X12_isViable_32 : decode (go_cc mx_X12_isViable) 32 = .ok (.iload_n 2, 1) := by decide +kernel
theorem dx_X12_isViable_33 : decode (go_cc mx_X12_isViable) 33 = .ok (.sipush 128, 3) := by decide +kernel
theorem dx_X12_isViable_36 : decode (go_cc mx_X12_isViable) 36 = .ok (.if_icmp .ge 16, 3) := by decide +kernel
theorem dx_X12_isViable_39 : decode (go_cc mx_X12_isViable) 39 = .ok (.aload_n 0, 1) := by decide +kernel
theorem dx_X12_isViable_40 : decode (go_cc mx_X12_isViable) 40 = .ok (.getfield 115, 3) := by decide +kernel
theorem dx_X12_isViable_43 : decode (go_cc mx_X12_isViable) 43 = .ok (.iload_n 2, 1) := by decide +kernel
theorem dx_X12_isViable_44 : decode (go_cc mx_X12_isViable) 44 = .ok (.iconst 0, 1) := by decide +kernel
theorem dx_X12_isViable_45 : decode (go_cc mx_X12_isViable) 45 = .ok (.bastore, 1) := by decide +kernel
theorem dx_X12_isViable_46 : decode (go_cc mx_X12_isViable) 46 = .ok (.iinc 2 1, 3) := by decide +kernel
theorem dx_X12_isViable_49 : decode (go_cc mx_X12_isViable) 49 = .ok (.goto (-17), 3) := by decide +kernel
theorem dx_X12_isViable_52 : decode (go_cc mx_X12_isViable) 52 = .ok (.iload_n 1, 1) := by decide +kernel
theorem dx_X12_isViable_53 : decode (go_cc mx_X12_isViable) 53 = .ok (.iconst 1, 1) := by decide +kernel
theorem dx_X12_isViable_54 : decode (go_cc mx_X12_isViable) 54 = .ok (.isub, 1) := by decide +kernel
theorem dx_X12_isViable_55 : decode (go_cc mx_X12_isViable) 55 = .ok (.istore_n 2, 1) := by decide +kernel
theorem dx_X12_isViable_56 : decode (go_cc mx_X12_isViable) 56 = .ok (.iload_n 2, 1) := by decide +kernel
theorem dx_X12_isViable_57 : decode (go_cc mx_X12_isViable) 57 = .ok (.ifCond .lt 97, 3) := by decide +kernel
theorem dx_X12_isViable_60 : decode (go_cc mx_X12_isViable) 60 = .ok (.iconst 1, 1) := by decide +kernel
theorem dx_X12_isViable_61 : decode (go_cc mx_X12_isViable) 61 = .ok (.istore_n 3, 1) := by decide +kernel
theorem dx_X12_isViable_62 : decode (go_cc mx_X12_isViable) 62 = .ok (.iload_n 3, 1) := by decide +kernel
theorem dx_X12_isViable_63 : decode (go_cc mx_X12_isViable) 63 = .ok (.ifCond .eq 85, 3) := by decide +kernel
theorem dx_X12_isViable_66 : decode (go_cc mx_X12_isViable) 66 = .ok (.iconst 0, 1) := by decide +kernel
theorem dx_X12_isViable_67 : decode (go_cc mx_X12_isViable) 67 = .ok (.istore_n 3, 1) := by decide +kernel
theorem dx_X12_isViable_68 : decode (go_cc mx_X12_isViable) 68 = .ok (.iconst 0, 1) := by decide +kernel
theorem dx_X12_isViable_69 : decode (go_cc mx_X12_isViable) 69 = .ok (.istore 4, 2) := by decide +kernel
theorem dx_X12_isViable_71 : decode (go_cc mx_X12_isViable) 71 = .ok (.iload 4, 2) := by decide +kernel
theorem dx_X12_isViable_73 : decode (go_cc mx_X12_isViable) 73 = .ok (.bipush 16, 2) := by decide +kernel
theorem dx_X12_isViable_75 : decode (go_cc mx_X12_isViable) 75 = .ok (.if_icmp .ge 70, 3) := by decide +kernel
theorem dx_X12_isViable_78 : decode (go_cc mx_X12_isViable) 78 = .ok (.aload_n 0, 1) := by decide +kernel
theorem dx_X12_isViable_79 : decode (go_cc mx_X12_isViable) 79 = .ok (.iload 4, 2) := by decide +kernel
theorem dx_X12_isViable_81 : decode (go_cc mx_X12_isViable) 81 = .ok (.invokevirtual 148, 3) := by decide +kernel
theorem dx_X12_isViable_84 : decode (go_cc mx_X12_isViable) 84 = .ok (.ifCond .eq 55, 3) := by decide +kernel
theorem dx_X12_isViable_87 : decode (go_cc mx_X12_isViable) 87 = .ok (.aload_n 0, 1) := by decide +kernel
theorem dx_X12_isViable_88 : decode (go_cc mx_X12_isViable) 88 = .ok (.getfield 115, 3) := by decide +kernel
theorem dx_X12_isViable_91 : decode (go_cc mx_X12_isViable) 91 = .ok (.bipush 16, 2) := by decide +kernel
theorem dx_X12_isViable_93 : decode (go_cc mx_X12_isViable) 93 = .ok (.aload_n 0, 1) := by decide +kernel
theorem dx_X12_isViable_94 : decode (go_cc mx_X12_isViable) 94 = .ok (.iload 4, 2) := by decide +kernel
theorem dx_X12_isViable_96 : decode (go_cc mx_X12_isViable) 96 = .ok (.invokevirtual 184, 3) := by decide +kernel
theorem dx_X12_isViable_99 : decode (go_cc mx_X12_isViable) 99 = .ok (.imul, 1) := by decide +kernel
theorem dx_X12_isViable_100 : decode (go_cc mx_X12_isViable) 100 = .ok (.iload_n 2, 1) := by decide +kernel
theorem dx_X12_isViable_101 : decode (go_cc mx_X12_isViable) 101 = .ok (.iadd, 1) := by decide +kernel
theorem dx_X12_isViable_102 : decode (go_cc mx_X12_isViable) 102 = .ok (.baload, 1) := by decide +kernel
theorem dx_X12_isViable_103 : decode (go_cc mx_X12_isViable) 103 = .ok (.ifCond .ne 36, 3) := by decide +kernel
theorem dx_X12_isViable_106 : decode (go_cc mx_X12_isViable) 106 = .ok (.aload_n 0, 1) := by decide +kernel
theorem dx_X12_isViable_107 : decode (go_cc mx_X12_isViable) 107 = .ok (.iload 4, 2) := by decide +kernel
theorem dx_X12_isViable_109 : decode (go_cc mx_X12_isViable) 109 = .ok (.iload_n 2, 1) := by decide +kernel
theorem dx_X12_isViable_110 : decode (go_cc mx_X12_isViable) 110 = .ok (.iload_n 1, 1) := by decide +kernel
theorem dx_X12_isViable_111 : decode (go_cc mx_X12_isViable) 111 = .ok (.invokevirtual 405, 3) := by decide +kernel
theorem dx_X12_isViable_114 : decode (go_cc mx_X12_isViable) 114 = .ok (.ifCond .ne 6, 3) := by decide +kernel
theorem dx_X12_isViable_117 : decode (go_cc mx_X12_isViable) 117 = .ok (.goto 22, 3) := by decide +kernel
theorem dx_X12_isViable_120 : decode (go_cc mx_X12_isViable) 120 = .ok (.aload_n 0, 1) := by decide +kernel
theorem dx_X12_isViable_121 : decode (go_cc mx_X12_isViable) 121 = .ok (.getfield 115, 3) := by decide +kernel
theorem dx_X12_isViable_124 : decode (go_cc mx_X12_isViable) 124 = .ok (.bipush 16, 2) := by decide +kernel
theorem dx_X12_isViable_126 : decode (go_cc mx_X12_isViable) 126 = .ok (.aload_n 0, 1) := by decide +kernel
theorem dx_X12_isViable_127 : decode (go_cc mx_X12_isViable) 127 = .ok (.iload 4, 2) := by decide +kernel
theorem dx_X12_isViable_129 : decode (go_cc mx_X12_isViable) 129 = .ok (.invokevirtual 184, 3) := by decide +kernel
theorem dx_X12_isViable_132 : decode (go_cc mx_X12_isViable) 132 = .ok (.imul, 1) := by decide +kernel
theorem dx_X12_isViable_133 : decode (go_cc mx_X12_isViable) 133 = .ok (.iload_n 2, 1) := by decide +kernel
theorem dx_X12_isViable_134 : decode (go_cc mx_X12_isViable) 134 = .ok (.iadd, 1) := by decide +kernel
theorem dx_X12_isViable_135 : decode (go_cc mx_X12_isViable) 135 = .ok (.iconst 1, 1) := by decide +kernel
theorem dx_X12_isViable_136 : decode (go_cc mx_X12_isViable) 136 = .ok (.bastore, 1) := by decide +kernel
theorem dx_X12_isViable_137 : decode (go_cc mx_X12_isViable) 137 = .ok (.iconst 1, 1) := by decide +kernel
theorem dx_X12_isViable_138 : decode (go_cc mx_X12_isViable) 138 = .ok (.istore_n 3, 1) := by decide +kernel
theorem dx_X12_isViable_139 : decode (go_cc mx_X12_isViable) 139 = .ok (.iinc 4 1, 3) := by decide +kernel
theorem dx_X12_isViable_142 : decode (go_cc mx_X12_isViable) 142 = .ok (.goto (-71), 3) := by decide +kernel
theorem dx_X12_isViable_145 : decode (go_cc mx_X12_isViable) 145 = .ok (.goto (-83), 3) := by decide +kernel
theorem dx_X12_isViable_148 : decode (go_cc mx_X12_isViable) 148 = .ok (.iinc 2 (-1), 3) := by decide +kernel
theorem dx_X12_isViable_151 : decode (go_cc mx_X12_isViable) 151 = .ok (.goto (-95), 3) := by decide +kernel
theorem dx_X12_isViable_154 : decode (go_cc mx_X12_isViable) 154 = .ok (.aload_n 0, 1) := by decide +kernel
theorem dx_X12_isViable_155 : decode (go_cc mx_X12_isViable) 155 = .ok (.getfield 115, 3) := by decide +kernel
theorem dx_X12_isViable_158 : decode (go_cc mx_X12_isViable) 158 = .ok (.bipush 16, 2) := by decide +kernel
theorem dx_X12_isViable_160 : decode (go_cc mx_X12_isViable) 160 = .ok (.aload_n 0, 1) := by decide +kernel
theorem dx_X12_isViable_161 : decode (go_cc mx_X12_isViable) 161 = .ok (.getfield 7, 3) := by decide +kernel
theorem dx_X12_isViable_164 : decode (go_cc mx_X12_isViable) 164 = .ok (.bipush 112, 2) := by decide +kernel
theorem dx_X12_isViable_166 : decode (go_cc mx_X12_isViable) 166 = .ok (.iaload, 1) := by decide +kernel
theorem dx_X12_isViable_167 : decode (go_cc mx_X12_isViable) 167 = .ok (.imul, 1) := by decide +kernel
theorem dx_X12_isViable_168 : decode (go_cc mx_X12_isViable) 168 = .ok (.baload, 1) := by decide +kernel
theorem dx_X12_isViable_169 : decode (go_cc mx_X12_isViable) 169 = .ok (.ireturn, 1) := by decide +kernel
theorem dx_X12_viable_0 : decode (go_cc mx_X12_viable) 0 = .ok (.aload_n 0, 1) := by decide +kernel
theorem dx_X12_viable_1 : decode (go_cc mx_X12_viable) 1 = .ok (.iconst 0, 1) := by decide +kernel
theorem dx_X12_viable_2 : decode (go_cc mx_X12_viable) 2 = .ok (.putfield 139, 3) := by decide +kernel
theorem dx_X12_viable_5 : decode (go_cc mx_X12_viable) 5 = .ok (.iconst 0, 1) := by decide +kernel
theorem dx_X12_viable_6 : decode (go_cc mx_X12_viable) 6 = .ok (.istore_n 1, 1) := by decide +kernel
theorem dx_X12_viable_7 : decode (go_cc mx_X12_viable) 7 = .ok (.iload_n 1, 1) := by decide +kernel
theorem dx_X12_viable_8 : decode (go_cc mx_X12_viable) 8 = .ok (.bipush 14, 2) := by decide +kernel
theorem dx_X12_viable_10 : decode (go_cc mx_X12_viable) 10 = .ok (.if_icmp .ge 24, 3) := by decide +kernel
theorem dx_X12_viable_13 : decode (go_cc mx_X12_viable) 13 = .ok (.aload_n 0, 1) := by decide +kernel
theorem dx_X12_viable_14 : decode (go_cc mx_X12_viable) 14 = .ok (.getfield 48, 3) := by decide +kernel
theorem dx_X12_viable_17 : decode (go_cc mx_X12_viable) 17 = .ok (.iload_n 1, 1) := by decide +kernel
theorem dx_X12_viable_18 : decode (go_cc mx_X12_viable) 18 = .ok (.aload_n 0, 1) := by decide +kernel
theorem dx_X12_viable_19 : decode (go_cc mx_X12_viable) 19 = .ok (.getfield 7, 3) := by decide +kernel
theorem dx_X12_viable_22 : decode (go_cc mx_X12_viable) 22 = .ok (.bipush 114, 2) := by decide +kernel
theorem dx_X12_viable_24 : decode (go_cc mx_X12_viable) 24 = .ok (.iload_n 1, 1) := by decide +kernel
theorem dx_X12_viable_25 : decode (go_cc mx_X12_viable) 25 = .ok (.iadd, 1) := by decide +kernel
theorem dx_X12_viable_26 : decode (go_cc mx_X12_viable) 26 = .ok (.iaload, 1) := by decide +kernel
theorem dx_X12_viable_27 : decode (go_cc mx_X12_viable) 27 = .ok (.iastore, 1) := by decide +kernel
theorem dx_X12_viable_28 : decode (go_cc mx_X12_viable) 28 = .ok (.iinc 1 1, 3) := by decide +kernel
theorem dx_X12_viable_31 : decode (go_cc mx_X12_viable) 31 = .ok (.goto (-24), 3) := by decide +kernel
theorem dx_X12_viable_34 : decode (go_cc mx_X12_viable) 34 = .ok (.aload_n 0, 1) := by decide +kernel
theorem dx_X12_viable_35 : decode (go_cc mx_X12_viable) 35 = .ok (.aload_n 0, 1) := by decide +kernel
theorem dx_X12_viable_36 : decode (go_cc mx_X12_viable) 36 = .ok (.invokevirtual 253, 3) := by decide +kernel
theorem dx_X12_viable_39 : decode (go_cc mx_X12_viable) 39 = .ok (.invokevirtual 408, 3) := by decide +kernel
theorem dx_X12_viable_42 : decode (go_cc mx_X12_viable) 42 = .ok (.ifCond .eq 7, 3) := by decide +kernel
theorem dx_X12_viable_45 : decode (go_cc mx_X12_viable) 45 = .ok (.iconst 1, 1) := by decide +kernel
theorem dx_X12_viable_46 : decode (go_cc mx_X12_viable) 46 = .ok (.goto 4, 3) := by decide +kernel
theorem dx_X12_viable_49 : decode (go_cc mx_X12_viable) 49 = .ok (.iconst 0, 1) := by decide +kernel
theorem dx_X12_viable_50 : decode (go_cc mx_X12_viable) 50 = .ok (.ireturn, 1) := by decide +kernel
theorem dx_X12_next_0 : decode (go_cc mx_X12_next) 0 = .ok (.aload_n 0, 1) := by decide +kernel
theorem dx_X12_next_1 : decode (go_cc mx_X12_next) 1 = .ok (.iconst 0, 1) := by decide +kernel
theorem dx_X12_next_2 : decode (go_cc mx_X12_next) 2 = .ok (.putfield 139, 3) := by decide +kernel
theorem dx_X12_next_5 : decode (go_cc mx_X12_next) 5 = .ok (.iconst 0, 1) := by decide +kernel
theorem dx_X12_next_6 : decode (go_cc mx_X12_next) 6 = .ok (.istore_n 1, 1) := by decide +kernel
theorem dx_X12_next_7 : decode (go_cc mx_X12_next) 7 = .ok (.bipush 8, 2) := by decide +kernel
theorem dx_X12_next_9 : decode (go_cc mx_X12_next) 9 = .ok (.istore_n 2, 1) := by decide +kernel
theorem dx_X12_next_10 : decode (go_cc mx_X12_next) 10 = .ok (.iload_n 2, 1) := by decide +kernel
theorem dx_X12_next_11 : decode (go_cc mx_X12_next) 11 = .ok (.bipush 14, 2) := by decide +kernel
theorem dx_X12_next_13 : decode (go_cc mx_X12_next) 13 = .ok (.if_icmp .ge 73, 3) := by decide +kernel
theorem dx_X12_next_16 : decode (go_cc mx_X12_next) 16 = .ok (.iconst 0, 1) := by decide +kernel
theorem dx_X12_next_17 : decode (go_cc mx_X12_next) 17 = .ok (.istore_n 3, 1) := by decide +kernel
theorem dx_X12_next_18 : decode (go_cc mx_X12_next) 18 = .ok (.iload_n 3, 1) := by decide +kernel
theorem dx_X12_next_19 : decode (go_cc mx_X12_next) 19 = .ok (.aload_n 0, 1) := by decide +kernel
theorem dx_X12_next_20 : decode (go_cc mx_X12_next) 20 = .ok (.invokevirtual 253, 3) := by decide +kernel
theorem dx_X12_next_23 : decode (go_cc mx_X12_next) 23 = .ok (.if_icmp .ge 24, 3) := by decide +kernel
theorem dx_X12_next_26 : decode (go_cc mx_X12_next) 26 = .ok (.aload_n 0, 1) := by decide +kernel
theorem dx_X12_next_27 : decode (go_cc mx_X12_next) 27 = .ok (.getfield 48, 3) := by decide +kernel
theorem dx_X12_next_30 : decode (go_cc mx_X12_next) 30 = .ok (.iload_n 3, 1) := by decide +kernel
theorem dx_X12_next_31 : decode (go_cc mx_X12_next) 31 = .ok (.aload_n 0, 1) := by decide +kernel
theorem dx_X12_next_32 : decode (go_cc mx_X12_next) 32 = .ok (.getfield 7, 3) := by decide +kernel
theorem dx_X12_next_35 : decode (go_cc mx_X12_next) 35 = .ok (.bipush 114, 2) := by decide +kernel
theorem dx_X12_next_37 : decode (go_cc mx_X12_next) 37 = .ok (.iload_n 3, 1) := by decide +kernel
theorem dx_X12_next_38 : decode (go_cc mx_X12_next) 38 = .ok (.iadd, 1) := by decide +kernel
theorem dx_X12_next_39 : decode (go_cc mx_X12_next) 39 = .ok (.iaload, 1) := by decide +kernel
theorem dx_X12_next_40 : decode (go_cc mx_X12_next) 40 = .ok (.iastore, 1) := by decide +kernel
theorem dx_X12_next_41 : decode (go_cc mx_X12_next) 41 = .ok (.iinc 3 1, 3) := by decide +kernel
theorem dx_X12_next_44 : decode (go_cc mx_X12_next) 44 = .ok (.goto (-26), 3) := by decide +kernel
theorem dx_X12_next_47 : decode (go_cc mx_X12_next) 47 = .ok (.aload_n 0, 1) := by decide +kernel
theorem dx_X12_next_48 : decode (go_cc mx_X12_next) 48 = .ok (.getfield 48, 3) := by decide +kernel
theorem dx_X12_next_51 : decode (go_cc mx_X12_next) 51 = .ok (.aload_n 0, 1) := by decide +kernel
theorem dx_X12_next_52 : decode (go_cc mx_X12_next) 52 = .ok (.invokevirtual 253, 3) := by decide +kernel
theorem dx_X12_next_55 : decode (go_cc mx_X12_next) 55 = .ok (.iload_n 2, 1) := by decide +kernel
theorem dx_X12_next_56 : decode (go_cc mx_X12_next) 56 = .ok (.iastore, 1) := by decide +kernel
theorem dx_X12_next_57 : decode (go_cc mx_X12_next) 57 = .ok (.iload_n 1, 1) := by decide +kernel
theorem dx_X12_next_58 : decode (go_cc mx_X12_next) 58 = .ok (.aload_n 0, 1) := by decide +kernel
theorem dx_X12_next_59 : decode (go_cc mx_X12_next) 59 = .ok (.aload_n 0, 1) := by decide +kernel
theorem dx_X12_next_60 : decode (go_cc mx_X12_next) 60 = .ok (.invokevirtual 253, 3) := by decide +kernel
theorem dx_X12_next_63 : decode (go_cc mx_X12_next) 63 = .ok (.iconst 1, 1) := by decide +kernel
theorem dx_X12_next_64 : decode (go_cc mx_X12_next) 64 = .ok (.iadd, 1) := by decide +kernel
theorem dx_X12_next_65 : decode (go_cc mx_X12_next) 65 = .ok (.invokevirtual 408, 3) := by decide +kernel
theorem dx_X12_next_68 : decode (go_cc mx_X12_next) 68 = .ok (.ifCond .eq 9, 3) := by decide +kernel
theorem dx_X12_next_71 : decode (go_cc mx_X12_next) 71 = .ok (.iconst 1, 1) := by decide +kernel
theorem dx_X12_next_72 : decode (go_cc mx_X12_next) 72 = .ok (.iload_n 2, 1) := by decide +kernel
theorem dx_X12_next_73 : decode (go_cc mx_X12_next) 73 = .ok (.ishl, 1) := by decide +kernel
theorem dx_X12_next_74 : decode (go_cc mx_X12_next) 74 = .ok (.goto 4, 3) := by decide +kernel
theorem dx_X12_next_77 : decode (go_cc mx_X12_next) 77 = .ok (.iconst 0, 1) := by decide +kernel
theorem dx_X12_next_78 : decode (go_cc mx_X12_next) 78 = .ok (.ior, 1) := by decide +kernel
theorem dx_X12_next_79 : decode (go_cc mx_X12_next) 79 = .ok (.istore_n 1, 1) := by decide +kernel
theorem dx_X12_next_80 : decode (go_cc mx_X12_next) 80 = .ok (.iinc 2 1, 3) := by decide +kernel
theorem dx_X12_next_83 : decode (go_cc mx_X12_next) 83 = .ok (.goto (-73), 3) := by decide +kernel
theorem dx_X12_next_86 : decode (go_cc mx_X12_next) 86 = .ok (.iload_n 1, 1) := by decide +kernel
theorem dx_X12_next_87 : decode (go_cc mx_X12_next) 87 = .ok (.ireturn, 1) := by decide +kernel
theorem dx_X12_lengthsFrom_0 : decode (go_cc mx_X12_lengthsFrom) 0 = .ok (.iconst 1, 1) := by decide +kernel
theorem dx_X12_lengthsFrom_1 : decode (go_cc mx_X12_lengthsFrom) 1 = .ok (.istore_n 3, 1) := by decide +kernel
theorem dx_X12_lengthsFrom_2 : decode (go_cc mx_X12_lengthsFrom) 2 = .ok (.iload_n 2, 1) := by decide +kernel
theorem dx_X12_lengthsFrom_3 : decode (go_cc mx_X12_lengthsFrom) 3 = .ok (.istore 4, 2) := by decide +kernel
theorem dx_X12_lengthsFrom_5 : decode (go_cc mx_X12_lengthsFrom) 5 = .ok (.iload 4, 2) := by decide +kernel
theorem dx_X12_lengthsFrom_7 : decode (go_cc mx_X12_lengthsFrom) 7 = .ok (.aload_n 0, 1) := by decide +kernel
theorem dx_X12_lengthsFrom_8 : decode (go_cc mx_X12_lengthsFrom) 8 = .ok (.iload_n 1, 1) := by decide +kernel
theorem dx_X12_lengthsFrom_9 : decode (go_cc mx_X12_lengthsFrom) 9 = .ok (.invokevirtual 148, 3) := by decide +kernel
theorem dx_X12_lengthsFrom_12 : decode (go_cc mx_X12_lengthsFrom) 12 = .ok (.if_icmp .ge 69, 3) := by decide +kernel
theorem dx_X12_lengthsFrom_15 : decode (go_cc mx_X12_lengthsFrom) 15 = .ok (.iconst 0, 1) := by decide +kernel
theorem dx_X12_lengthsFrom_16 : decode (go_cc mx_X12_lengthsFrom) 16 = .ok (.istore 5, 2) := by decide +kernel
theorem dx_X12_lengthsFrom_18 : decode (go_cc mx_X12_lengthsFrom) 18 = .ok (.iconst 1, 1) := by decide +kernel
theorem dx_X12_lengthsFrom_19 : decode (go_cc mx_X12_lengthsFrom) 19 = .ok (.istore 6, 2) := by decide +kernel
theorem dx_X12_lengthsFrom_21 : decode (go_cc mx_X12_lengthsFrom) 21 = .ok (.iload 6, 2) := by decide +kernel
theorem dx_X12_lengthsFrom_23 : decode (go_cc mx_X12_lengthsFrom) 23 = .ok (.bipush 14, 2) := by decide +kernel
theorem dx_X12_lengthsFrom_25 : decode (go_cc mx_X12_lengthsFrom) 25 = .ok (.if_icmp .gt 43, 3) := by decide +kernel
theorem dx_X12_lengthsFrom_28 : decode (go_cc mx_X12_lengthsFrom) 28 = .ok (.iload 5, 2) := by decide +kernel
theorem dx_X12_lengthsFrom_30 : decode (go_cc mx_X12_lengthsFrom) 30 = .ok (.aload_n 0, 1) := by decide +kernel
theorem dx_X12_lengthsFrom_31 : decode (go_cc mx_X12_lengthsFrom) 31 = .ok (.getfield 121, 3) := by decide +kernel
theorem dx_X12_lengthsFrom_34 : decode (go_cc mx_X12_lengthsFrom) 34 = .ok (.aload_n 0, 1) := by decide +kernel
theorem dx_X12_lengthsFrom_35 : decode (go_cc mx_X12_lengthsFrom) 35 = .ok (.iload_n 1, 1) := by decide +kernel
theorem dx_X12_lengthsFrom_36 : decode (go_cc mx_X12_lengthsFrom) 36 = .ok (.iload 4, 2) := by decide +kernel
theorem dx_X12_lengthsFrom_38 : decode (go_cc mx_X12_lengthsFrom) 38 = .ok (.invokevirtual 190, 3) := by decide +kernel
theorem dx_X12_lengthsFrom_41 : decode (go_cc mx_X12_lengthsFrom) 41 = .ok (.iaload, 1) := by decide +kernel
theorem dx_X12_lengthsFrom_42 : decode (go_cc mx_X12_lengthsFrom) 42 = .ok (.iload 6, 2) := by decide +kernel
theorem dx_X12_lengthsFrom_44 : decode (go_cc mx_X12_lengthsFrom) 44 = .ok (.ishr, 1) := by decide +kernel
theorem dx_X12_lengthsFrom_45 : decode (go_cc mx_X12_lengthsFrom) 45 = .ok (.iconst 1, 1) := by decide +kernel
theorem dx_X12_lengthsFrom_46 : decode (go_cc mx_X12_lengthsFrom) 46 = .ok (.iand, 1) := by decide +kernel
theorem dx_X12_lengthsFrom_47 : decode (go_cc mx_X12_lengthsFrom) 47 = .ok (.iconst 1, 1) := by decide +kernel
theorem dx_X12_lengthsFrom_48 : decode (go_cc mx_X12_lengthsFrom) 48 = .ok (.if_icmp .ne 10, 3) := by decide +kernel
theorem dx_X12_lengthsFrom_51 : decode (go_cc mx_X12_lengthsFrom) 51 = .ok (.iload_n 3, 1) := by decide +kernel
theorem dx_X12_lengthsFrom_52 : decode (go_cc mx_X12_lengthsFrom) 52 = .ok (.iload 6, 2) := by decide +kernel
theorem dx_X12_lengthsFrom_54 : decode (go_cc mx_X12_lengthsFrom) 54 = .ok (.ishl, 1) := by decide +kernel
theorem dx_X12_lengthsFrom_55 : decode (go_cc mx_X12_lengthsFrom) 55 = .ok (.goto 4, 3) := by decide +kernel
theorem dx_X12_lengthsFrom_58 : decode (go_cc mx_X12_lengthsFrom) 58 = .ok (.iconst 0, 1) := by decide +kernel
theorem dx_X12_lengthsFrom_59 : decode (go_cc mx_X12_lengthsFrom) 59 = .ok (.ior, 1) := by decide +kernel
theorem dx_X12_lengthsFrom_60 : decode (go_cc mx_X12_lengthsFrom) 60 = .ok (.istore 5, 2) := by decide +kernel
theorem dx_X12_lengthsFrom_62 : decode (go_cc mx_X12_lengthsFrom) 62 = .ok (.iinc 6 1, 3) := by decide +kernel
theorem dx_X12_lengthsFrom_65 : decode (go_cc mx_X12_lengthsFrom) 65 = .ok (.goto (-44), 3) := by decide +kernel
theorem dx_X12_lengthsFrom_68 : decode (go_cc mx_X12_lengthsFrom) 68 = .ok (.iload 5, 2) := by decide +kernel
theorem dx_X12_lengthsFrom_70 : decode (go_cc mx_X12_lengthsFrom) 70 = .ok (.sipush 32767, 3) := by decide +kernel
theorem dx_X12_lengthsFrom_73 : decode (go_cc mx_X12_lengthsFrom) 73 = .ok (.iand, 1) := by decide +kernel
theorem dx_X12_lengthsFrom_74 : decode (go_cc mx_X12_lengthsFrom) 74 = .ok (.istore_n 3, 1) := by decide +kernel
theorem dx_X12_lengthsFrom_75 : decode (go_cc mx_X12_lengthsFrom) 75 = .ok (.iinc 4 1, 3) := by decide +kernel
theorem dx_X12_lengthsFrom_78 : decode (go_cc mx_X12_lengthsFrom) 78 = .ok (.goto (-73), 3) := by decide +kernel
theorem dx_X12_lengthsFrom_81 : decode (go_cc mx_X12_lengthsFrom) 81 = .ok (.iload_n 3, 1) := by decide +kernel
theorem dx_X12_lengthsFrom_82 : decode (go_cc mx_X12_lengthsFrom) 82 = .ok (.ireturn, 1) := by decide +kernel
theorem dx_X12_lengths_0 : decode (go_cc mx_X12_lengths) 0 = .ok (.aload_n 0, 1) := by decide +kernel
theorem dx_X12_lengths_1 : decode (go_cc mx_X12_lengths) 1 = .ok (.iconst 0, 1) := by decide +kernel
theorem dx_X12_lengths_2 : decode (go_cc mx_X12_lengths) 2 = .ok (.putfield 139, 3) := by decide +kernel
theorem dx_X12_lengths_5 : decode (go_cc mx_X12_lengths) 5 = .ok (.aload_n 0, 1) := by decide +kernel
theorem dx_X12_lengths_6 : decode (go_cc mx_X12_lengths) 6 = .ok (.iload_n 1, 1) := by decide +kernel
theorem dx_X12_lengths_7 : decode (go_cc mx_X12_lengths) 7 = .ok (.invokevirtual 235, 3) := by decide +kernel
theorem dx_X12_lengths_10 : decode (go_cc mx_X12_lengths) 10 = .ok (.ifCond .ne 6, 3) := by decide +kernel
theorem dx_X12_lengths_13 : decode (go_cc mx_X12_lengths) 13 = .ok (.bipush (-2), 2) := by decide +kernel
theorem dx_X12_lengths_15 : decode (go_cc mx_X12_lengths) 15 = .ok (.ireturn, 1) := by decide +kernel
theorem dx_X12_lengths_16 : decode (go_cc mx_X12_lengths) 16 = .ok (.iconst 0, 1) := by decide +kernel
theorem dx_X12_lengths_17 : decode (go_cc mx_X12_lengths) 17 = .ok (.istore_n 2, 1) := by decide +kernel
theorem dx_X12_lengths_18 : decode (go_cc mx_X12_lengths) 18 = .ok (.iload_n 2, 1) := by decide +kernel
theorem dx_X12_lengths_19 : decode (go_cc mx_X12_lengths) 19 = .ok (.bipush 14, 2) := by decide +kernel
theorem dx_X12_lengths_21 : decode (go_cc mx_X12_lengths) 21 = .ok (.if_icmp .ge 26, 3) := by decide +kernel
theorem dx_X12_lengths_24 : decode (go_cc mx_X12_lengths) 24 = .ok (.aload_n 0, 1) := by decide +kernel
theorem dx_X12_lengths_25 : decode (go_cc mx_X12_lengths) 25 = .ok (.getfield 121, 3) := by decide +kernel
theorem dx_X12_lengths_28 : decode (go_cc mx_X12_lengths) 28 = .ok (.iload_n 2, 1) := by decide +kernel
theorem dx_X12_lengths_29 : decode (go_cc mx_X12_lengths) 29 = .ok (.iload_n 2, 1) := by decide +kernel
theorem dx_X12_lengths_30 : decode (go_cc mx_X12_lengths) 30 = .ok (.bipush 8, 2) := by decide +kernel
theorem dx_X12_lengths_32 : decode (go_cc mx_X12_lengths) 32 = .ok (.if_icmp .ge 7, 3) := by decide +kernel
theorem dx_X12_lengths_35 : decode (go_cc mx_X12_lengths) 35 = .ok (.iconst 0, 1) := by decide +kernel
theorem dx_X12_lengths_36 : decode (go_cc mx_X12_lengths) 36 = .ok (.goto 4, 3) := by decide +kernel
theorem dx_X12_lengths_39 : decode (go_cc mx_X12_lengths) 39 = .ok (.iconst 2, 1) := by decide +kernel
theorem dx_X12_lengths_40 : decode (go_cc mx_X12_lengths) 40 = .ok (.iastore, 1) := by decide +kernel
theorem dx_X12_lengths_41 : decode (go_cc mx_X12_lengths) 41 = .ok (.iinc 2 1, 3) := by decide +kernel
theorem dx_X12_lengths_44 : decode (go_cc mx_X12_lengths) 44 = .ok (.goto (-26), 3) := by decide +kernel
theorem dx_X12_lengths_47 : decode (go_cc mx_X12_lengths) 47 = .ok (.iconst 1, 1) := by decide +kernel
theorem dx_X12_lengths_48 : decode (go_cc mx_X12_lengths) 48 = .ok (.istore_n 2, 1) := by decide +kernel
theorem dx_X12_lengths_49 : decode (go_cc mx_X12_lengths) 49 = .ok (.iload_n 2, 1) := by decide +kernel
theorem dx_X12_lengths_50 : decode (go_cc mx_X12_lengths) 50 = .ok (.ifCond .eq 87, 3) := by decide +kernel
theorem dx_X12_lengths_53 : decode (go_cc mx_X12_lengths) 53 = .ok (.iconst 0, 1) := by decide +kernel
theorem dx_X12_lengths_54 : decode (go_cc mx_X12_lengths) 54 = .ok (.istore_n 2, 1) := by decide +kernel
theorem dx_X12_lengths_55 : decode (go_cc mx_X12_lengths) 55 = .ok (.iconst 0, 1) := by decide +kernel
theorem dx_X12_lengths_56 : decode (go_cc mx_X12_lengths) 56 = .ok (.istore_n 3, 1) := by decide +kernel
theorem dx_X12_lengths_57 : decode (go_cc mx_X12_lengths) 57 = .ok (.iload_n 3, 1) := by decide +kernel
theorem dx_X12_lengths_58 : decode (go_cc mx_X12_lengths) 58 = .ok (.bipush 16, 2) := by decide +kernel
theorem dx_X12_lengths_60 : decode (go_cc mx_X12_lengths) 60 = .ok (.if_icmp .ge 74, 3) := by decide +kernel
theorem dx_X12_lengths_63 : decode (go_cc mx_X12_lengths) 63 = .ok (.aload_n 0, 1) := by decide +kernel
theorem dx_X12_lengths_64 : decode (go_cc mx_X12_lengths) 64 = .ok (.iload_n 3, 1) := by decide +kernel
theorem dx_X12_lengths_65 : decode (go_cc mx_X12_lengths) 65 = .ok (.invokevirtual 148, 3) := by decide +kernel
theorem dx_X12_lengths_68 : decode (go_cc mx_X12_lengths) 68 = .ok (.ifCond .ne 6, 3) := by decide +kernel
theorem dx_X12_lengths_71 : decode (go_cc mx_X12_lengths) 71 = .ok (.goto 57, 3) := by decide +kernel
theorem dx_X12_lengths_74 : decode (go_cc mx_X12_lengths) 74 = .ok (.aload_n 0, 1) := by decide +kernel
theorem dx_X12_lengths_75 : decode (go_cc mx_X12_lengths) 75 = .ok (.getfield 121, 3) := by decide +kernel
theorem dx_X12_lengths_78 : decode (go_cc mx_X12_lengths) 78 = .ok (.aload_n 0, 1) := by decide +kernel
theorem dx_X12_lengths_79 : decode (go_cc mx_X12_lengths) 79 = .ok (.iload_n 3, 1) := by decide +kernel
theorem dx_X12_lengths_80 : decode (go_cc mx_X12_lengths) 80 = .ok (.invokevirtual 184, 3) := by decide +kernel
theorem dx_X12_lengths_83 : decode (go_cc mx_X12_lengths) 83 = .ok (.iaload, 1) := by decide +kernel
theorem dx_X12_lengths_84 : decode (go_cc mx_X12_lengths) 84 = .ok (.istore 4, 2) := by decide +kernel
theorem dx_X12_lengths_86 : decode (go_cc mx_X12_lengths) 86 = .ok (.aload_n 0, 1) := by decide +kernel
theorem dx_X12_lengths_87 : decode (go_cc mx_X12_lengths) 87 = .ok (.getfield 121, 3) := by decide +kernel
theorem dx_X12_lengths_90 : decode (go_cc mx_X12_lengths) 90 = .ok (.aload_n 0, 1) := by decide +kernel
theorem dx_X12_lengths_91 : decode (go_cc mx_X12_lengths) 91 = .ok (.iload_n 3, 1) := by decide +kernel
theorem dx_X12_lengths_92 : decode (go_cc mx_X12_lengths) 92 = .ok (.invokevirtual 184, 3) := by decide +kernel
theorem dx_X12_lengths_95 : decode (go_cc mx_X12_lengths) 95 = .ok (.dup2, 1) := by decide +kernel
theorem dx_X12_lengths_96 : decode (go_cc mx_X12_lengths) 96 = .ok (.iaload, 1) := by decide +kernel
theorem dx_X12_lengths_97 : decode (go_cc mx_X12_lengths) 97 = .ok (.aload_n 0, 1) := by decide +kernel
theorem dx_X12_lengths_98 : decode (go_cc mx_X12_lengths) 98 = .ok (.iload_n 3, 1) := by decide +kernel
theorem dx_X12_lengths_99 : decode (go_cc mx_X12_lengths) 99 = .ok (.iconst 0, 1) := by decide +kernel
theorem dx_X12_lengths_100 : decode (go_cc mx_X12_lengths) 100 = .ok (.invokevirtual 411, 3) := by decide +kernel
theorem dx_X12_lengths_103 : decode (go_cc mx_X12_lengths) 103 = .ok (.ior, 1) := by decide +kernel
theorem dx_X12_lengths_104 : decode (go_cc mx_X12_lengths) 104 = .ok (.iastore, 1) := by decide +kernel
theorem dx_X12_lengths_105 : decode (go_cc mx_X12_lengths) 105 = .ok (.iload_n 2, 1) := by decide +kernel
theorem dx_X12_lengths_106 : decode (go_cc mx_X12_lengths) 106 = .ok (.aload_n 0, 1) := by decide +kernel
theorem dx_X12_lengths_107 : decode (go_cc mx_X12_lengths) 107 = .ok (.getfield 121, 3) := by decide +kernel
theorem dx_X12_lengths_110 : decode (go_cc mx_X12_lengths) 110 = .ok (.aload_n 0, 1) := by decide +kernel
theorem dx_X12_lengths_111 : decode (go_cc mx_X12_lengths) 111 = .ok (.iload_n 3, 1) := by decide +kernel
theorem dx_X12_lengths_112 : decode (go_cc mx_X12_lengths) 112 = .ok (.invokevirtual 184, 3) := by decide +kernel
theorem dx_X12_lengths_115 : decode (go_cc mx_X12_lengths) 115 = .ok (.iaload, 1) := by decide +kernel
theorem dx_X12_lengths_116 : decode (go_cc mx_X12_lengths) 116 = .ok (.iload 4, 2) := by decide +kernel
theorem dx_X12_lengths_118 : decode (go_cc mx_X12_lengths) 118 = .ok (.if_icmp .eq 7, 3) := by decide +kernel
theorem dx_X12_lengths_121 : decode (go_cc mx_X12_lengths) 121 = .ok (.iconst 1, 1) := by decide +kernel
theorem dx_X12_lengths_122 : decode (go_cc mx_X12_lengths) 122 = .ok (.goto 4, 3) := by decide +kernel
theorem dx_X12_lengths_125 : decode (go_cc mx_X12_lengths) 125 = .ok (.iconst 0, 1) := by decide +kernel
theorem dx_X12_lengths_126 : decode (go_cc mx_X12_lengths) 126 = .ok (.ior, 1) := by decide +kernel
theorem dx_X12_lengths_127 : decode (go_cc mx_X12_lengths) 127 = .ok (.istore_n 2, 1) := by decide +kernel
theorem dx_X12_lengths_128 : decode (go_cc mx_X12_lengths) 128 = .ok (.iinc 3 1, 3) := by decide +kernel
theorem dx_X12_lengths_131 : decode (go_cc mx_X12_lengths) 131 = .ok (.goto (-74), 3) := by decide +kernel
theorem dx_X12_lengths_134 : decode (go_cc mx_X12_lengths) 134 = .ok (.goto (-85), 3) := by decide +kernel
theorem dx_X12_lengths_137 : decode (go_cc mx_X12_lengths) 137 = .ok (.iload_n 1, 1) := by decide +kernel
theorem dx_X12_lengths_138 : decode (go_cc mx_X12_lengths) 138 = .ok (.bipush 14, 2) := by decide +kernel
theorem dx_X12_lengths_140 : decode (go_cc mx_X12_lengths) 140 = .ok (.if_icmp .ge 12, 3) := by decide +kernel
theorem dx_X12_lengths_143 : decode (go_cc mx_X12_lengths) 143 = .ok (.aload_n 0, 1) := by decide +kernel
theorem dx_X12_lengths_144 : decode (go_cc mx_X12_lengths) 144 = .ok (.getfield 121, 3) := by decide +kernel
theorem dx_X12_lengths_147 : decode (go_cc mx_X12_lengths) 147 = .ok (.iload_n 1, 1) := by decide +kernel
theorem dx_X12_lengths_148 : decode (go_cc mx_X12_lengths) 148 = .ok (.iaload, 1) := by decide +kernel
theorem dx_X12_lengths_149 : decode (go_cc mx_X12_lengths) 149 = .ok (.goto 25, 3) := by decide +kernel
theorem dx_X12_lengths_152 : decode (go_cc mx_X12_lengths) 152 = .ok (.aload_n 0, 1) := by decide +kernel
theorem dx_X12_lengths_153 : decode (go_cc mx_X12_lengths) 153 = .ok (.aload_n 0, 1) := by decide +kernel
theorem dx_X12_lengths_154 : decode (go_cc mx_X12_lengths) 154 = .ok (.getfield 39, 3) := by decide +kernel
theorem dx_X12_lengths_157 : decode (go_cc mx_X12_lengths) 157 = .ok (.iload_n 1, 1) := by decide +kernel
theorem dx_X12_lengths_158 : decode (go_cc mx_X12_lengths) 158 = .ok (.bipush 14, 2) := by decide +kernel
theorem dx_X12_lengths_160 : decode (go_cc mx_X12_lengths) 160 = .ok (.isub, 1) := by decide +kernel
theorem dx_X12_lengths_161 : decode (go_cc mx_X12_lengths) 161 = .ok (.iaload, 1) := by decide +kernel
theorem dx_X12_lengths_162 : decode (go_cc mx_X12_lengths) 162 = .ok (.aload_n 0, 1) := by decide +kernel
theorem dx_X12_lengths_163 : decode (go_cc mx_X12_lengths) 163 = .ok (.getfield 42, 3) := by decide +kernel
theorem dx_X12_lengths_166 : decode (go_cc mx_X12_lengths) 166 = .ok (.iload_n 1, 1) := by decide +kernel
theorem dx_X12_lengths_167 : decode (go_cc mx_X12_lengths) 167 = .ok (.bipush 14, 2) := by decide +kernel
theorem dx_X12_lengths_169 : decode (go_cc mx_X12_lengths) 169 = .ok (.isub, 1) := by decide +kernel
theorem dx_X12_lengths_170 : decode (go_cc mx_X12_lengths) 170 = .ok (.iaload, 1) := by decide +kernel
theorem dx_X12_lengths_171 : decode (go_cc mx_X12_lengths) 171 = .ok (.invokevirtual 411, 3) := by decide +kernel
theorem dx_X12_lengths_174 : decode (go_cc mx_X12_lengths) 174 = .ok (.ireturn, 1) := by decide +kernel
theorem dx_X12_partBy_0 : decode (go_cc mx_X12_partBy) 0 = .ok (.iload_n 1, 1) := by decide +kernel
theorem dx_X12_partBy_1 : decode (go_cc mx_X12_partBy) 1 = .ok (.bipush 8, 2) := by decide +kernel
theorem dx_X12_partBy_3 : decode (go_cc mx_X12_partBy) 3 = .ok (.if_icmp .lt 14, 3) := by decide +kernel
theorem dx_X12_partBy_6 : decode (go_cc mx_X12_partBy) 6 = .ok (.iload_n 2, 1) := by decide +kernel
theorem dx_X12_partBy_7 : decode (go_cc mx_X12_partBy) 7 = .ok (.iconst 1, 1) := by decide +kernel
theorem dx_X12_partBy_8 : decode (go_cc mx_X12_partBy) 8 = .ok (.if_icmp .ne 7, 3) := by decide +kernel
theorem dx_X12_partBy_11 : decode (go_cc mx_X12_partBy) 11 = .ok (.lconst 1, 1) := by decide +kernel
theorem dx_X12_partBy_12 : decode (go_cc mx_X12_partBy) 12 = .ok (.goto 4, 3) := by decide +kernel
theorem dx_X12_partBy_15 : decode (go_cc mx_X12_partBy) 15 = .ok (.lconst 0, 1) := by decide +kernel
theorem dx_X12_partBy_16 : decode (go_cc mx_X12_partBy) 16 = .ok (.lreturn, 1) := by decide +kernel
theorem dx_X12_partBy_17 : decode (go_cc mx_X12_partBy) 17 = .ok (.aload_n 0, 1) := by decide +kernel
theorem dx_X12_partBy_18 : decode (go_cc mx_X12_partBy) 18 = .ok (.getfield 127, 3) := by decide +kernel
theorem dx_X12_partBy_21 : decode (go_cc mx_X12_partBy) 21 = .ok (.bipush 16, 2) := by decide +kernel
theorem dx_X12_partBy_23 : decode (go_cc mx_X12_partBy) 23 = .ok (.iload_n 1, 1) := by decide +kernel
theorem dx_X12_partBy_24 : decode (go_cc mx_X12_partBy) 24 = .ok (.imul, 1) := by decide +kernel
theorem dx_X12_partBy_25 : decode (go_cc mx_X12_partBy) 25 = .ok (.iload_n 2, 1) := by decide +kernel
theorem dx_X12_partBy_26 : decode (go_cc mx_X12_partBy) 26 = .ok (.iadd, 1) := by decide +kernel
theorem dx_X12_partBy_27 : decode (go_cc mx_X12_partBy) 27 = .ok (.laload, 1) := by decide +kernel
theorem dx_X12_partBy_28 : decode (go_cc mx_X12_partBy) 28 = .ok (.lreturn, 1) := by decide +kernel
theorem dx_X12_ruleBy_0 : decode (go_cc mx_X12_ruleBy) 0 = .ok (.aload_n 0, 1) := by decide +kernel
theorem dx_X12_ruleBy_1 : decode (go_cc mx_X12_ruleBy) 1 = .ok (.iload_n 1, 1) := by decide +kernel
theorem dx_X12_ruleBy_2 : decode (go_cc mx_X12_ruleBy) 2 = .ok (.invokevirtual 148, 3) := by decide +kernel
theorem dx_X12_ruleBy_5 : decode (go_cc mx_X12_ruleBy) 5 = .ok (.istore_n 3, 1) := by decide +kernel
theorem dx_X12_ruleBy_6 : decode (go_cc mx_X12_ruleBy) 6 = .ok (.iload_n 3, 1) := by decide +kernel
theorem dx_X12_ruleBy_7 : decode (go_cc mx_X12_ruleBy) 7 = .ok (.ifCond .lt 138, 3) := by decide +kernel
theorem dx_X12_ruleBy_10 : decode (go_cc mx_X12_ruleBy) 10 = .ok (.iconst 0, 1) := by decide +kernel
theorem dx_X12_ruleBy_11 : decode (go_cc mx_X12_ruleBy) 11 = .ok (.istore 4, 2) := by decide +kernel
theorem dx_X12_ruleBy_13 : decode (go_cc mx_X12_ruleBy) 13 = .ok (.iload 4, 2) := by decide +kernel
theorem dx_X12_ruleBy_15 : decode (go_cc mx_X12_ruleBy) 15 = .ok (.iload_n 2, 1) := by decide +kernel
theorem dx_X12_ruleBy_16 : decode (go_cc mx_X12_ruleBy) 16 = .ok (.if_icmp .gt 123, 3) := by decide +kernel
theorem dx_X12_ruleBy_19 : decode (go_cc mx_X12_ruleBy) 19 = .ok (.iload_n 3, 1) := by decide +kernel
theorem dx_X12_ruleBy_20 : decode (go_cc mx_X12_ruleBy) 20 = .ok (.aload_n 0, 1) := by decide +kernel
theorem dx_X12_ruleBy_21 : decode (go_cc mx_X12_ruleBy) 21 = .ok (.iload_n 1, 1) := by decide +kernel
theorem dx_X12_ruleBy_22 : decode (go_cc mx_X12_ruleBy) 22 = .ok (.invokevirtual 148, 3) := by decide +kernel
theorem dx_X12_ruleBy_25 : decode (go_cc mx_X12_ruleBy) 25 = .ok (.if_icmp .ne 12, 3) := by decide +kernel
theorem dx_X12_ruleBy_28 : decode (go_cc mx_X12_ruleBy) 28 = .ok (.iload 4, 2) := by decide +kernel
theorem dx_X12_ruleBy_30 : decode (go_cc mx_X12_ruleBy) 30 = .ok (.ifCond .ne 7, 3) := by decide +kernel
theorem dx_X12_ruleBy_33 : decode (go_cc mx_X12_ruleBy) 33 = .ok (.lconst 1, 1) := by decide +kernel
theorem dx_X12_ruleBy_34 : decode (go_cc mx_X12_ruleBy) 34 = .ok (.goto 4, 3) := by decide +kernel
theorem dx_X12_ruleBy_37 : decode (go_cc mx_X12_ruleBy) 37 = .ok (.lconst 0, 1) := by decide +kernel
theorem dx_X12_ruleBy_38 : decode (go_cc mx_X12_ruleBy) 38 = .ok (.lstore 5, 2) := by decide +kernel
theorem dx_X12_ruleBy_40 : decode (go_cc mx_X12_ruleBy) 40 = .ok (.iconst 1, 1) := by decide +kernel
theorem dx_X12_ruleBy_41 : decode (go_cc mx_X12_ruleBy) 41 = .ok (.istore 7, 2) := by decide +kernel
theorem dx_X12_ruleBy_43 : decode (go_cc mx_X12_ruleBy) 43 = .ok (.iload 7, 2) := by decide +kernel
theorem dx_X12_ruleBy_45 : decode (go_cc mx_X12_ruleBy) 45 = .ok (.iload 4, 2) := by decide +kernel
theorem dx_X12_ruleBy_47 : decode (go_cc mx_X12_ruleBy) 47 = .ok (.if_icmp .gt 72, 3) := by decide +kernel
theorem dx_X12_ruleBy_50 : decode (go_cc mx_X12_ruleBy) 50 = .ok (.iload_n 3, 1) := by decide +kernel
theorem dx_X12_ruleBy_51 : decode (go_cc mx_X12_ruleBy) 51 = .ok (.aload_n 0, 1) := by decide +kernel
theorem dx_X12_ruleBy_52 : decode (go_cc mx_X12_ruleBy) 52 = .ok (.iload_n 1, 1) := by decide +kernel
theorem dx_X12_ruleBy_53 : decode (go_cc mx_X12_ruleBy) 53 = .ok (.invokevirtual 148, 3) := by decide +kernel
theorem dx_X12_ruleBy_56 : decode (go_cc mx_X12_ruleBy) 56 = .ok (.if_icmp .ge 63, 3) := by decide +kernel
theorem dx_X12_ruleBy_59 : decode (go_cc mx_X12_ruleBy) 59 = .ok (.iload 7, 2) := by decide +kernel
theorem dx_X12_ruleBy_61 : decode (go_cc mx_X12_ruleBy) 61 = .ok (.iload_n 2, 1) := by decide +kernel
theorem dx_X12_ruleBy_62 : decode (go_cc mx_X12_ruleBy) 62 = .ok (.if_icmp .lt 12, 3) := by decide +kernel
theorem dx_X12_ruleBy_65 : decode (go_cc mx_X12_ruleBy) 65 = .ok (.aload_n 0, 1) := by decide +kernel
theorem dx_X12_ruleBy_66 : decode (go_cc mx_X12_ruleBy) 66 = .ok (.iload_n 1, 1) := by decide +kernel
theorem dx_X12_ruleBy_67 : decode (go_cc mx_X12_ruleBy) 67 = .ok (.invokevirtual 148, 3) := by decide +kernel
theorem dx_X12_ruleBy_70 : decode (go_cc mx_X12_ruleBy) 70 = .ok (.iconst 1, 1) := by decide +kernel
theorem dx_X12_ruleBy_71 : decode (go_cc mx_X12_ruleBy) 71 = .ok (.if_icmp .ne 42, 3) := by decide +kernel
theorem dx_X12_ruleBy_74 : decode (go_cc mx_X12_ruleBy) 74 = .ok (.lload 5, 2) := by decide +kernel
theorem dx_X12_ruleBy_76 : decode (go_cc mx_X12_ruleBy) 76 = .ok (.aload_n 0, 1) := by decide +kernel
theorem dx_X12_ruleBy_77 : decode (go_cc mx_X12_ruleBy) 77 = .ok (.aload_n 0, 1) := by decide +kernel
theorem dx_X12_ruleBy_78 : decode (go_cc mx_X12_ruleBy) 78 = .ok (.iload_n 1, 1) := by decide +kernel
theorem dx_X12_ruleBy_79 : decode (go_cc mx_X12_ruleBy) 79 = .ok (.iload_n 3, 1) := by decide +kernel
theorem dx_X12_ruleBy_80 : decode (go_cc mx_X12_ruleBy) 80 = .ok (.invokevirtual 190, 3) := by decide +kernel
theorem dx_X12_ruleBy_83 : decode (go_cc mx_X12_ruleBy) 83 = .ok (.iload 7, 2) := by decide +kernel
theorem dx_X12_ruleBy_85 : decode (go_cc mx_X12_ruleBy) 85 = .ok (.invokevirtual 414, 3) := by decide +kernel
theorem dx_X12_ruleBy_88 : decode (go_cc mx_X12_ruleBy) 88 = .ok (.aload_n 0, 1) := by decide +kernel
theorem dx_X12_ruleBy_89 : decode (go_cc mx_X12_ruleBy) 89 = .ok (.getfield 130, 3) := by decide +kernel
theorem dx_X12_ruleBy_92 : decode (go_cc mx_X12_ruleBy) 92 = .ok (.bipush 16, 2) := by decide +kernel
theorem dx_X12_ruleBy_94 : decode (go_cc mx_X12_ruleBy) 94 = .ok (.iload_n 3, 1) := by decide +kernel
theorem dx_X12_ruleBy_95 : decode (go_cc mx_X12_ruleBy) 95 = .ok (.iconst 1, 1) := by decide +kernel
theorem dx_X12_ruleBy_96 : decode (go_cc mx_X12_ruleBy) 96 = .ok (.iadd, 1) := by decide +kernel
theorem dx_X12_ruleBy_97 : decode (go_cc mx_X12_ruleBy) 97 = .ok (.imul, 1) := by decide +kernel
theorem dx_X12_ruleBy_98 : decode (go_cc mx_X12_ruleBy) 98 = .ok (.iload 4, 2) := by decide +kernel
theorem dx_X12_ruleBy_100 : decode (go_cc mx_X12_ruleBy) 100 = .ok (.iadd, 1) := by decide +kernel
theorem dx_X12_ruleBy_101 : decode (go_cc mx_X12_ruleBy) 101 = .ok (.iload 7, 2) := by decide +kernel
theorem dx_X12_ruleBy_103 : decode (go_cc mx_X12_ruleBy) 103 = .ok (.isub, 1) := by decide +kernel
theorem dx_X12_ruleBy_104 : decode (go_cc mx_X12_ruleBy) 104 = .ok (.laload, 1) := by decide +kernel
theorem dx_X12_ruleBy_105 : decode (go_cc mx_X12_ruleBy) 105 = .ok (.invokestatic 297, 3) := by decide +kernel
theorem dx_X12_ruleBy_108 : decode (go_cc mx_X12_ruleBy) 108 = .ok (.invokestatic 300, 3) := by decide +kernel
theorem dx_X12_ruleBy_111 : decode (go_cc mx_X12_ruleBy) 111 = .ok (.lstore 5, 2) := by decide +kernel
theorem dx_X12_ruleBy_113 : decode (go_cc mx_X12_ruleBy) 113 = .ok (.iinc 7 1, 3) := by decide +kernel
theorem dx_X12_ruleBy_116 : decode (go_cc mx_X12_ruleBy) 116 = .ok (.goto (-73), 3) := by decide +kernel
theorem dx_X12_ruleBy_119 : decode (go_cc mx_X12_ruleBy) 119 = .ok (.aload_n 0, 1) := by decide +kernel
theorem dx_X12_ruleBy_120 : decode (go_cc mx_X12_ruleBy) 120 = .ok (.getfield 130, 3) := by decide +kernel
theorem dx_X12_ruleBy_123 : decode (go_cc mx_X12_ruleBy) 123 = .ok (.bipush 16, 2) := by decide +kernel
theorem dx_X12_ruleBy_125 : decode (go_cc mx_X12_ruleBy) 125 = .ok (.iload_n 3, 1) := by decide +kernel
theorem dx_X12_ruleBy_126 : decode (go_cc mx_X12_ruleBy) 126 = .ok (.imul, 1) := by decide +kernel
theorem dx_X12_ruleBy_127 : decode (go_cc mx_X12_ruleBy) 127 = .ok (.iload 4, 2) := by decide +kernel
theorem dx_X12_ruleBy_129 : decode (go_cc mx_X12_ruleBy) 129 = .ok (.iadd, 1) := by decide +kernel
theorem dx_X12_ruleBy_130 : decode (go_cc mx_X12_ruleBy) 130 = .ok (.lload 5, 2) := by decide +kernel
theorem dx_X12_ruleBy_132 : decode (go_cc mx_X12_ruleBy) 132 = .ok (.lastore, 1) := by decide +kernel
theorem dx_X12_ruleBy_133 : decode (go_cc mx_X12_ruleBy) 133 = .ok (.iinc 4 1, 3) := by decide +kernel
theorem dx_X12_ruleBy_136 : decode (go_cc mx_X12_ruleBy) 136 = .ok (.goto (-123), 3) := by decide +kernel
theorem dx_X12_ruleBy_139 : decode (go_cc mx_X12_ruleBy) 139 = .ok (.iinc 3 (-1), 3) := by decide +kernel
theorem dx_X12_ruleBy_142 : decode (go_cc mx_X12_ruleBy) 142 = .ok (.goto (-136), 3) := by decide +kernel
theorem dx_X12_ruleBy_145 : decode (go_cc mx_X12_ruleBy) 145 = .ok (.aload_n 0, 1) := by decide +kernel
theorem dx_X12_ruleBy_146 : decode (go_cc mx_X12_ruleBy) 146 = .ok (.getfield 130, 3) := by decide +kernel
theorem dx_X12_ruleBy_149 : decode (go_cc mx_X12_ruleBy) 149 = .ok (.iload_n 2, 1) := by decide +kernel
theorem dx_X12_ruleBy_150 : decode (go_cc mx_X12_ruleBy) 150 = .ok (.laload, 1) := by decide +kernel
theorem dx_X12_ruleBy_151 : decode (go_cc mx_X12_ruleBy) 151 = .ok (.lreturn, 1) := by decide +kernel
theorem dx_X12_shapes_0 : decode (go_cc mx_X12_shapes) 0 = .ok (.aload_n 0, 1) := by decide +kernel
theorem dx_X12_shapes_1 : decode (go_cc mx_X12_shapes) 1 = .ok (.iconst 0, 1) := by decide +kernel
theorem dx_X12_shapes_2 : decode (go_cc mx_X12_shapes) 2 = .ok (.putfield 139, 3) := by decide +kernel
theorem dx_X12_shapes_5 : decode (go_cc mx_X12_shapes) 5 = .ok (.iload_n 1, 1) := by decide +kernel
theorem dx_X12_shapes_6 : decode (go_cc mx_X12_shapes) 6 = .ok (.invokestatic 212, 3) := by decide +kernel
theorem dx_X12_shapes_9 : decode (go_cc mx_X12_shapes) 9 = .ok (.ifCond .ne 7, 3) := by decide +kernel
theorem dx_X12_shapes_12 : decode (go_cc mx_X12_shapes) 12 = .ok (.ldc2_w 263, 3) := by decide +kernel
theorem dx_X12_shapes_15 : decode (go_cc mx_X12_shapes) 15 = .ok (.lreturn, 1) := by decide +kernel
theorem dx_X12_shapes_16 : decode (go_cc mx_X12_shapes) 16 = .ok (.iload_n 2, 1) := by decide +kernel
theorem dx_X12_shapes_17 : decode (go_cc mx_X12_shapes) 17 = .ok (.i2l, 1) := by decide +kernel
theorem dx_X12_shapes_18 : decode (go_cc mx_X12_shapes) 18 = .ok (.lconst 1, 1) := by decide +kernel
theorem dx_X12_shapes_19 : decode (go_cc mx_X12_shapes) 19 = .ok (.ldc2_w 226, 3) := by decide +kernel
theorem dx_X12_shapes_22 : decode (go_cc mx_X12_shapes) 22 = .ok (.invokestatic 144, 3) := by decide +kernel
theorem dx_X12_shapes_25 : decode (go_cc mx_X12_shapes) 25 = .ok (.ifCond .ne 7, 3) := by decide +kernel
theorem dx_X12_shapes_28 : decode (go_cc mx_X12_shapes) 28 = .ok (.ldc2_w 418, 3) := by decide +kernel
theorem dx_X12_shapes_31 : decode (go_cc mx_X12_shapes) 31 = .ok (.lreturn, 1) := by decide +kernel
theorem dx_X12_shapes_32 : decode (go_cc mx_X12_shapes) 32 = .ok (.iconst 1, 1) := by decide +kernel
theorem dx_X12_shapes_33 : decode (go_cc mx_X12_shapes) 33 = .ok (.istore_n 3, 1) := by decide +kernel
theorem dx_X12_shapes_34 : decode (go_cc mx_X12_shapes) 34 = .ok (.iload_n 3, 1) := by decide +kernel
theorem dx_X12_shapes_35 : decode (go_cc mx_X12_shapes) 35 = .ok (.iload_n 2, 1) := by decide +kernel
theorem dx_X12_shapes_36 : decode (go_cc mx_X12_shapes) 36 = .ok (.if_icmp .gt 172, 3) := by decide +kernel
theorem dx_X12_shapes_39 : decode (go_cc mx_X12_shapes) 39 = .ok (.iconst 0, 1) := by decide +kernel
theorem dx_X12_shapes_40 : decode (go_cc mx_X12_shapes) 40 = .ok (.istore 4, 2) := by decide +kernel
theorem dx_X12_shapes_42 : decode (go_cc mx_X12_shapes) 42 = .ok (.iload 4, 2) := by decide +kernel
theorem dx_X12_shapes_44 : decode (go_cc mx_X12_shapes) 44 = .ok (.bipush 8, 2) := by decide +kernel
theorem dx_X12_shapes_46 : decode (go_cc mx_X12_shapes) 46 = .ok (.if_icmp .ge 22, 3) := by decide +kernel
theorem dx_X12_shapes_49 : decode (go_cc mx_X12_shapes) 49 = .ok (.aload_n 0, 1) := by decide +kernel
theorem dx_X12_shapes_50 : decode (go_cc mx_X12_shapes) 50 = .ok (.getfield 124, 3) := by decide +kernel
theorem dx_X12_shapes_53 : decode (go_cc mx_X12_shapes) 53 = .ok (.bipush 16, 2) := by decide +kernel
theorem dx_X12_shapes_55 : decode (go_cc mx_X12_shapes) 55 = .ok (.iload 4, 2) := by decide +kernel
theorem dx_X12_shapes_57 : decode (go_cc mx_X12_shapes) 57 = .ok (.imul, 1) := by decide +kernel
theorem dx_X12_shapes_58 : decode (go_cc mx_X12_shapes) 58 = .ok (.iload_n 3, 1) := by decide +kernel
theorem dx_X12_shapes_59 : decode (go_cc mx_X12_shapes) 59 = .ok (.iadd, 1) := by decide +kernel
theorem dx_X12_shapes_60 : decode (go_cc mx_X12_shapes) 60 = .ok (.lconst 0, 1) := by decide +kernel
theorem dx_X12_shapes_61 : decode (go_cc mx_X12_shapes) 61 = .ok (.lastore, 1) := by decide +kernel
theorem dx_X12_shapes_62 : decode (go_cc mx_X12_shapes) 62 = .ok (.iinc 4 1, 3) := by decide +kernel
theorem dx_X12_shapes_65 : decode (go_cc mx_X12_shapes) 65 = .ok (.goto (-23), 3) := by decide +kernel
theorem dx_X12_shapes_68 : decode (go_cc mx_X12_shapes) 68 = .ok (.iconst 0, 1) := by decide +kernel
theorem dx_X12_shapes_69 : decode (go_cc mx_X12_shapes) 69 = .ok (.istore 4, 2) := by decide +kernel
theorem dx_X12_shapes_71 : decode (go_cc mx_X12_shapes) 71 = .ok (.iload 4, 2) := by decide +kernel
theorem dx_X12_shapes_73 : decode (go_cc mx_X12_shapes) 73 = .ok (.bipush 16, 2) := by decide +kernel
theorem dx_X12_shapes_75 : decode (go_cc mx_X12_shapes) 75 = .ok (.if_icmp .ge 81, 3) := by decide +kernel
theorem dx_X12_shapes_78 : decode (go_cc mx_X12_shapes) 78 = .ok (.aload_n 0, 1) := by decide +kernel
theorem dx_X12_shapes_79 : decode (go_cc mx_X12_shapes) 79 = .ok (.iload 4, 2) := by decide +kernel
theorem dx_X12_shapes_81 : decode (go_cc mx_X12_shapes) 81 = .ok (.invokevirtual 148, 3) := by decide +kernel
theorem dx_X12_shapes_84 : decode (go_cc mx_X12_shapes) 84 = .ok (.ifCond .eq 66, 3) := by decide +kernel
theorem dx_X12_shapes_87 : decode (go_cc mx_X12_shapes) 87 = .ok (.aload_n 0, 1) := by decide +kernel
theorem dx_X12_shapes_88 : decode (go_cc mx_X12_shapes) 88 = .ok (.iload 4, 2) := by decide +kernel
theorem dx_X12_shapes_90 : decode (go_cc mx_X12_shapes) 90 = .ok (.invokevirtual 148, 3) := by decide +kernel
theorem dx_X12_shapes_93 : decode (go_cc mx_X12_shapes) 93 = .ok (.iconst 1, 1) := by decide +kernel
theorem dx_X12_shapes_94 : decode (go_cc mx_X12_shapes) 94 = .ok (.if_icmp .ne 19, 3) := by decide +kernel
theorem dx_X12_shapes_97 : decode (go_cc mx_X12_shapes) 97 = .ok (.aload_n 0, 1) := by decide +kernel
theorem dx_X12_shapes_98 : decode (go_cc mx_X12_shapes) 98 = .ok (.iload 4, 2) := by decide +kernel
theorem dx_X12_shapes_100 : decode (go_cc mx_X12_shapes) 100 = .ok (.iconst 0, 1) := by decide +kernel
theorem dx_X12_shapes_101 : decode (go_cc mx_X12_shapes) 101 = .ok (.invokevirtual 190, 3) := by decide +kernel
theorem dx_X12_shapes_104 : decode (go_cc mx_X12_shapes) 104 = .ok (.invokestatic 212, 3) := by decide +kernel
theorem dx_X12_shapes_107 : decode (go_cc mx_X12_shapes) 107 = .ok (.ifCond .eq 6, 3) := by decide +kernel
theorem dx_X12_shapes_110 : decode (go_cc mx_X12_shapes) 110 = .ok (.goto 40, 3) := by decide +kernel
theorem dx_X12_shapes_113 : decode (go_cc mx_X12_shapes) 113 = .ok (.bipush 16, 2) := by decide +kernel
theorem dx_X12_shapes_115 : decode (go_cc mx_X12_shapes) 115 = .ok (.aload_n 0, 1) := by decide +kernel
theorem dx_X12_shapes_116 : decode (go_cc mx_X12_shapes) 116 = .ok (.iload 4, 2) := by decide +kernel
theorem dx_X12_shapes_118 : decode (go_cc mx_X12_shapes) 118 = .ok (.invokevirtual 184, 3) := by decide +kernel
theorem dx_X12_shapes_121 : decode (go_cc mx_X12_shapes) 121 = .ok (.imul, 1) := by decide +kernel
theorem dx_X12_shapes_122 : decode (go_cc mx_X12_shapes) 122 = .ok (.iload_n 3, 1) := by decide +kernel
theorem dx_X12_shapes_123 : decode (go_cc mx_X12_shapes) 123 = .ok (.iadd, 1) := by decide +kernel
theorem dx_X12_shapes_124 : decode (go_cc mx_X12_shapes) 124 = .ok (.istore 5, 2) := by decide +kernel
theorem dx_X12_shapes_126 : decode (go_cc mx_X12_shapes) 126 = .ok (.aload_n 0, 1) := by decide +kernel
theorem dx_X12_shapes_127 : decode (go_cc mx_X12_shapes) 127 = .ok (.getfield 124, 3) := by decide +kernel
theorem dx_X12_shapes_130 : decode (go_cc mx_X12_shapes) 130 = .ok (.iload 5, 2) := by decide +kernel
theorem dx_X12_shapes_132 : decode (go_cc mx_X12_shapes) 132 = .ok (.aload_n 0, 1) := by decide +kernel
theorem dx_X12_shapes_133 : decode (go_cc mx_X12_shapes) 133 = .ok (.getfield 124, 3) := by decide +kernel
theorem dx_X12_shapes_136 : decode (go_cc mx_X12_shapes) 136 = .ok (.iload 5, 2) := by decide +kernel
theorem dx_X12_shapes_138 : decode (go_cc mx_X12_shapes) 138 = .ok (.laload, 1) := by decide +kernel
theorem dx_X12_shapes_139 : decode (go_cc mx_X12_shapes) 139 = .ok (.aload_n 0, 1) := by decide +kernel
theorem dx_X12_shapes_140 : decode (go_cc mx_X12_shapes) 140 = .ok (.iload 4, 2) := by decide +kernel
theorem dx_X12_shapes_142 : decode (go_cc mx_X12_shapes) 142 = .ok (.iload_n 3, 1) := by decide +kernel
theorem dx_X12_shapes_143 : decode (go_cc mx_X12_shapes) 143 = .ok (.invokevirtual 420, 3) := by decide +kernel
theorem dx_X12_shapes_146 : decode (go_cc mx_X12_shapes) 146 = .ok (.invokestatic 300, 3) := by decide +kernel
theorem dx_X12_shapes_149 : decode (go_cc mx_X12_shapes) 149 = .ok (.lastore, 1) := by decide +kernel
theorem dx_X12_shapes_150 : decode (go_cc mx_X12_shapes) 150 = .ok (.iinc 4 1, 3) := by decide +kernel
theorem dx_X12_shapes_153 : decode (go_cc mx_X12_shapes) 153 = .ok (.goto (-82), 3) := by decide +kernel
theorem dx_X12_shapes_156 : decode (go_cc mx_X12_shapes) 156 = .ok (.iconst 0, 1) := by decide +kernel
theorem dx_X12_shapes_157 : decode (go_cc mx_X12_shapes) 157 = .ok (.istore 4, 2) := by decide +kernel
theorem dx_X12_shapes_159 : decode (go_cc mx_X12_shapes) 159 = .ok (.iload 4, 2) := by decide +kernel
theorem dx_X12_shapes_161 : decode (go_cc mx_X12_shapes) 161 = .ok (.bipush 8, 2) := by decide +kernel
theorem dx_X12_shapes_163 : decode (go_cc mx_X12_shapes) 163 = .ok (.if_icmp .ge 39, 3) := by decide +kernel
theorem dx_X12_shapes_166 : decode (go_cc mx_X12_shapes) 166 = .ok (.aload_n 0, 1) := by decide +kernel
theorem dx_X12_shapes_167 : decode (go_cc mx_X12_shapes) 167 = .ok (.iload 4, 2) := by decide +kernel
theorem dx_X12_shapes_169 : decode (go_cc mx_X12_shapes) 169 = .ok (.iconst 0, 1) := by decide +kernel
theorem dx_X12_shapes_170 : decode (go_cc mx_X12_shapes) 170 = .ok (.invokevirtual 311, 3) := by decide +kernel
theorem dx_X12_shapes_173 : decode (go_cc mx_X12_shapes) 173 = .ok (.aload_n 0, 1) := by decide +kernel
theorem dx_X12_shapes_174 : decode (go_cc mx_X12_shapes) 174 = .ok (.getfield 127, 3) := by decide +kernel
theorem dx_X12_shapes_177 : decode (go_cc mx_X12_shapes) 177 = .ok (.bipush 16, 2) := by decide +kernel
theorem dx_X12_shapes_179 : decode (go_cc mx_X12_shapes) 179 = .ok (.iload 4, 2) := by decide +kernel
theorem dx_X12_shapes_181 : decode (go_cc mx_X12_shapes) 181 = .ok (.imul, 1) := by decide +kernel
theorem dx_X12_shapes_182 : decode (go_cc mx_X12_shapes) 182 = .ok (.iload_n 3, 1) := by decide +kernel
theorem dx_X12_shapes_183 : decode (go_cc mx_X12_shapes) 183 = .ok (.iadd, 1) := by decide +kernel
theorem dx_X12_shapes_184 : decode (go_cc mx_X12_shapes) 184 = .ok (.aload_n 0, 1) := by decide +kernel
theorem dx_X12_shapes_185 : decode (go_cc mx_X12_shapes) 185 = .ok (.aload_n 0, 1) := by decide +kernel
theorem dx_X12_shapes_186 : decode (go_cc mx_X12_shapes) 186 = .ok (.getfield 124, 3) := by decide +kernel
theorem dx_X12_shapes_189 : decode (go_cc mx_X12_shapes) 189 = .ok (.iload_n 3, 1) := by decide +kernel
theorem dx_X12_shapes_190 : decode (go_cc mx_X12_shapes) 190 = .ok (.bipush 16, 2) := by decide +kernel
theorem dx_X12_shapes_192 : decode (go_cc mx_X12_shapes) 192 = .ok (.invokevirtual 315, 3) := by decide +kernel
theorem dx_X12_shapes_195 : decode (go_cc mx_X12_shapes) 195 = .ok (.lastore, 1) := by decide +kernel
theorem dx_X12_shapes_196 : decode (go_cc mx_X12_shapes) 196 = .ok (.iinc 4 1, 3) := by decide +kernel
theorem dx_X12_shapes_199 : decode (go_cc mx_X12_shapes) 199 = .ok (.goto (-40), 3) := by decide +kernel
theorem dx_X12_shapes_202 : decode (go_cc mx_X12_shapes) 202 = .ok (.iinc 3 1, 3) := by decide +kernel
theorem dx_X12_shapes_205 : decode (go_cc mx_X12_shapes) 205 = .ok (.goto (-171), 3) := by decide +kernel
theorem dx_X12_shapes_208 : decode (go_cc mx_X12_shapes) 208 = .ok (.aload_n 0, 1) := by decide +kernel
theorem dx_X12_shapes_209 : decode (go_cc mx_X12_shapes) 209 = .ok (.getfield 127, 3) := by decide +kernel
theorem dx_X12_shapes_212 : decode (go_cc mx_X12_shapes) 212 = .ok (.bipush 16, 2) := by decide +kernel
theorem dx_X12_shapes_214 : decode (go_cc mx_X12_shapes) 214 = .ok (.iload_n 1, 1) := by decide +kernel
theorem dx_X12_shapes_215 : decode (go_cc mx_X12_shapes) 215 = .ok (.imul, 1) := by decide +kernel
theorem dx_X12_shapes_216 : decode (go_cc mx_X12_shapes) 216 = .ok (.iload_n 2, 1) := by decide +kernel
theorem dx_X12_shapes_217 : decode (go_cc mx_X12_shapes) 217 = .ok (.iadd, 1) := by decide +kernel
theorem dx_X12_shapes_218 : decode (go_cc mx_X12_shapes) 218 = .ok (.laload, 1) := by decide +kernel
theorem dx_X12_shapes_219 : decode (go_cc mx_X12_shapes) 219 = .ok (.lreturn, 1) := by decide +kernel
theorem dx_X12_isTray_0 : decode (go_cc mx_X12_isTray) 0 = .ok (.iload_n 0, 1) := by decide +kernel
theorem dx_X12_isTray_1 : decode (go_cc mx_X12_isTray) 1 = .ok (.i2l, 1) := by decide +kernel
theorem dx_X12_isTray_2 : decode (go_cc mx_X12_isTray) 2 = .ok (.lconst 0, 1) := by decide +kernel
theorem dx_X12_isTray_3 : decode (go_cc mx_X12_isTray) 3 = .ok (.ldc2_w 286, 3) := by decide +kernel
theorem dx_X12_isTray_6 : decode (go_cc mx_X12_isTray) 6 = .ok (.invokestatic 144, 3) := by decide +kernel
theorem dx_X12_isTray_9 : decode (go_cc mx_X12_isTray) 9 = .ok (.ireturn, 1) := by decide +kernel
theorem dx_X12_tray_0 : decode (go_cc mx_X12_tray) 0 = .ok (.aload_n 0, 1) := by decide +kernel
theorem dx_X12_tray_1 : decode (go_cc mx_X12_tray) 1 = .ok (.iconst 0, 1) := by decide +kernel
theorem dx_X12_tray_2 : decode (go_cc mx_X12_tray) 2 = .ok (.putfield 139, 3) := by decide +kernel
theorem dx_X12_tray_5 : decode (go_cc mx_X12_tray) 5 = .ok (.iload_n 1, 1) := by decide +kernel
theorem dx_X12_tray_6 : decode (go_cc mx_X12_tray) 6 = .ok (.invokestatic 423, 3) := by decide +kernel
theorem dx_X12_tray_9 : decode (go_cc mx_X12_tray) 9 = .ok (.ifCond .ne 6, 3) := by decide +kernel
theorem dx_X12_tray_12 : decode (go_cc mx_X12_tray) 12 = .ok (.bipush (-2), 2) := by decide +kernel
theorem dx_X12_tray_14 : decode (go_cc mx_X12_tray) 14 = .ok (.ireturn, 1) := by decide +kernel
theorem dx_X12_tray_15 : decode (go_cc mx_X12_tray) 15 = .ok (.iload_n 2, 1) := by decide +kernel
theorem dx_X12_tray_16 : decode (go_cc mx_X12_tray) 16 = .ok (.i2l, 1) := by decide +kernel
theorem dx_X12_tray_17 : decode (go_cc mx_X12_tray) 17 = .ok (.lconst 0, 1) := by decide +kernel
theorem dx_X12_tray_18 : decode (go_cc mx_X12_tray) 18 = .ok (.ldc2_w 426, 3) := by decide +kernel
theorem dx_X12_tray_21 : decode (go_cc mx_X12_tray) 21 = .ok (.invokestatic 144, 3) := by decide +kernel
theorem dx_X12_tray_24 : decode (go_cc mx_X12_tray) 24 = .ok (.ifCond .ne 6, 3) := by decide +kernel
theorem dx_X12_tray_27 : decode (go_cc mx_X12_tray) 27 = .ok (.bipush (-3), 2) := by decide +kernel
theorem dx_X12_tray_29 : decode (go_cc mx_X12_tray) 29 = .ok (.ireturn, 1) := by decide +kernel
theorem dx_X12_tray_30 : decode (go_cc mx_X12_tray) 30 = .ok (.aload_n 0, 1) := by decide +kernel
theorem dx_X12_tray_31 : decode (go_cc mx_X12_tray) 31 = .ok (.getfield 136, 3) := by decide +kernel
theorem dx_X12_tray_34 : decode (go_cc mx_X12_tray) 34 = .ok (.iload_n 1, 1) := by decide +kernel
theorem dx_X12_tray_35 : decode (go_cc mx_X12_tray) 35 = .ok (.iload_n 2, 1) := by decide +kernel
theorem dx_X12_tray_36 : decode (go_cc mx_X12_tray) 36 = .ok (.iastore, 1) := by decide +kernel
theorem dx_X12_tray_37 : decode (go_cc mx_X12_tray) 37 = .ok (.iconst 0, 1) := by decide +kernel
theorem dx_X12_tray_38 : decode (go_cc mx_X12_tray) 38 = .ok (.istore_n 3, 1) := by decide +kernel
theorem dx_X12_tray_39 : decode (go_cc mx_X12_tray) 39 = .ok (.iload_n 3, 1) := by decide +kernel
theorem dx_X12_tray_40 : decode (go_cc mx_X12_tray) 40 = .ok (.bipush 20, 2) := by decide +kernel
theorem dx_X12_tray_42 : decode (go_cc mx_X12_tray) 42 = .ok (.if_icmp .ge 21, 3) := by decide +kernel
theorem dx_X12_tray_45 : decode (go_cc mx_X12_tray) 45 = .ok (.aload_n 0, 1) := by decide +kernel
theorem dx_X12_tray_46 : decode (go_cc mx_X12_tray) 46 = .ok (.getfield 133, 3) := by decide +kernel
theorem dx_X12_tray_49 : decode (go_cc mx_X12_tray) 49 = .ok (.bipush 20, 2) := by decide +kernel
theorem dx_X12_tray_51 : decode (go_cc mx_X12_tray) 51 = .ok (.iload_n 1, 1) := by decide +kernel
theorem dx_X12_tray_52 : decode (go_cc mx_X12_tray) 52 = .ok (.imul, 1) := by decide +kernel
theorem dx_X12_tray_53 : decode (go_cc mx_X12_tray) 53 = .ok (.iload_n 3, 1) := by decide +kernel
theorem dx_X12_tray_54 : decode (go_cc mx_X12_tray) 54 = .ok (.iadd, 1) := by decide +kernel
theorem dx_X12_tray_55 : decode (go_cc mx_X12_tray) 55 = .ok (.lconst 0, 1) := by decide +kernel
theorem dx_X12_tray_56 : decode (go_cc mx_X12_tray) 56 = .ok (.lastore, 1) := by decide +kernel
theorem dx_X12_tray_57 : decode (go_cc mx_X12_tray) 57 = .ok (.iinc 3 1, 3) := by decide +kernel
theorem dx_X12_tray_60 : decode (go_cc mx_X12_tray) 60 = .ok (.goto (-21), 3) := by decide +kernel
theorem dx_X12_tray_63 : decode (go_cc mx_X12_tray) 63 = .ok (.iconst 0, 1) := by decide +kernel
theorem dx_X12_tray_64 : decode (go_cc mx_X12_tray) 64 = .ok (.ireturn, 1) := by decide +kernel
theorem dx_X12_copy_0 : decode (go_cc mx_X12_copy) 0 = .ok (.aload_n 0, 1) := by decide +kernel
theorem dx_X12_copy_1 : decode (go_cc mx_X12_copy) 1 = .ok (.iconst 0, 1) := by decide +kernel
theorem dx_X12_copy_2 : decode (go_cc mx_X12_copy) 2 = .ok (.putfield 139, 3) := by decide +kernel
theorem dx_X12_copy_5 : decode (go_cc mx_X12_copy) 5 = .ok (.iload_n 1, 1) := by decide +kernel
theorem dx_X12_copy_6 : decode (go_cc mx_X12_copy) 6 = .ok (.invokestatic 423, 3) := by decide +kernel
theorem dx_X12_copy_9 : decode (go_cc mx_X12_copy) 9 = .ok (.ifCond .eq 11, 3) := by decide +kernel
theorem dx_X12_copy_12 : decode (go_cc mx_X12_copy) 12 = .ok (.aload_n 0, 1) := by decide +kernel
theorem dx_X12_copy_13 : decode (go_cc mx_X12_copy) 13 = .ok (.iload_n 3, 1) := by decide +kernel
theorem dx_X12_copy_14 : decode (go_cc mx_X12_copy) 14 = .ok (.invokevirtual 279, 3) := by decide +kernel
theorem dx_X12_copy_17 : decode (go_cc mx_X12_copy) 17 = .ok (.ifCond .ne 6, 3) := by decide +kernel
theorem dx_X12_copy_20 : decode (go_cc mx_X12_copy) 20 = .ok (.bipush (-2), 2) := by decide +kernel
theorem dx_X12_copy_22 : decode (go_cc mx_X12_copy) 22 = .ok (.ireturn, 1) := by decide +kernel
theorem dx_X12_copy_23 : decode (go_cc mx_X12_copy) 23 = .ok (.aload_n 0, 1) := by decide +kernel
theorem dx_X12_copy_24 : decode (go_cc mx_X12_copy) 24 = .ok (.getfield 136, 3) := by decide +kernel
theorem dx_X12_copy_27 : decode (go_cc mx_X12_copy) 27 = .ok (.iload_n 1, 1) := by decide +kernel
theorem dx_X12_copy_28 : decode (go_cc mx_X12_copy) 28 = .ok (.iaload, 1) := by decide +kernel
theorem dx_X12_copy_29 : decode (go_cc mx_X12_copy) 29 = .ok (.iconst (-1), 1) := by decide +kernel
theorem dx_X12_copy_30 : decode (go_cc mx_X12_copy) 30 = .ok (.if_icmp .ne 6, 3) := by decide +kernel
theorem dx_X12_copy_33 : decode (go_cc mx_X12_copy) 33 = .ok (.bipush (-6), 2) := by decide +kernel
theorem dx_X12_copy_35 : decode (go_cc mx_X12_copy) 35 = .ok (.ireturn, 1) := by decide +kernel
theorem dx_X12_copy_36 : decode (go_cc mx_X12_copy) 36 = .ok (.aload_n 0, 1) := by decide +kernel
theorem dx_X12_copy_37 : decode (go_cc mx_X12_copy) 37 = .ok (.invokevirtual 253, 3) := by decide +kernel
theorem dx_X12_copy_40 : decode (go_cc mx_X12_copy) 40 = .ok (.iload_n 3, 1) := by decide +kernel
theorem dx_X12_copy_41 : decode (go_cc mx_X12_copy) 41 = .ok (.isub, 1) := by decide +kernel
theorem dx_X12_copy_42 : decode (go_cc mx_X12_copy) 42 = .ok (.istore 4, 2) := by decide +kernel
theorem dx_X12_copy_44 : decode (go_cc mx_X12_copy) 44 = .ok (.iload_n 2, 1) := by decide +kernel
theorem dx_X12_copy_45 : decode (go_cc mx_X12_copy) 45 = .ok (.i2l, 1) := by decide +kernel
theorem dx_X12_copy_46 : decode (go_cc mx_X12_copy) 46 = .ok (.lconst 0, 1) := by decide +kernel
theorem dx_X12_copy_47 : decode (go_cc mx_X12_copy) 47 = .ok (.aload_n 0, 1) := by decide +kernel
theorem dx_X12_copy_48 : decode (go_cc mx_X12_copy) 48 = .ok (.getfield 136, 3) := by decide +kernel
theorem dx_X12_copy_51 : decode (go_cc mx_X12_copy) 51 = .ok (.iload_n 1, 1) := by decide +kernel
theorem dx_X12_copy_52 : decode (go_cc mx_X12_copy) 52 = .ok (.iaload, 1) := by decide +kernel
theorem dx_X12_copy_53 : decode (go_cc mx_X12_copy) 53 = .ok (.iload 4, 2) := by decide +kernel
theorem dx_X12_copy_55 : decode (go_cc mx_X12_copy) 55 = .ok (.isub, 1) := by decide +kernel
theorem dx_X12_copy_56 : decode (go_cc mx_X12_copy) 56 = .ok (.i2l, 1) := by decide +kernel
theorem dx_X12_copy_57 : decode (go_cc mx_X12_copy) 57 = .ok (.invokestatic 144, 3) := by decide +kernel
theorem dx_X12_copy_60 : decode (go_cc mx_X12_copy) 60 = .ok (.ifCond .ne 6, 3) := by decide +kernel
theorem dx_X12_copy_63 : decode (go_cc mx_X12_copy) 63 = .ok (.bipush (-7), 2) := by decide +kernel
theorem dx_X12_copy_65 : decode (go_cc mx_X12_copy) 65 = .ok (.ireturn, 1) := by decide +kernel
theorem dx_X12_copy_66 : decode (go_cc mx_X12_copy) 66 = .ok (.aload_n 0, 1) := by decide +kernel
theorem dx_X12_copy_67 : decode (go_cc mx_X12_copy) 67 = .ok (.invokevirtual 265, 3) := by decide +kernel
theorem dx_X12_copy_70 : decode (go_cc mx_X12_copy) 70 = .ok (.iconst 0, 1) := by decide +kernel
theorem dx_X12_copy_71 : decode (go_cc mx_X12_copy) 71 = .ok (.istore 5, 2) := by decide +kernel
theorem dx_X12_copy_73 : decode (go_cc mx_X12_copy) 73 = .ok (.iload 5, 2) := by decide +kernel
theorem dx_X12_copy_75 : decode (go_cc mx_X12_copy) 75 = .ok (.iload 4, 2) := by decide +kernel
theorem dx_X12_copy_77 : decode (go_cc mx_X12_copy) 77 = .ok (.if_icmp .ge 39, 3) := by decide +kernel
theorem dx_X12_copy_80 : decode (go_cc mx_X12_copy) 80 = .ok (.aload_n 0, 1) := by decide +kernel
theorem dx_X12_copy_81 : decode (go_cc mx_X12_copy) 81 = .ok (.getfield 133, 3) := by decide +kernel
theorem dx_X12_copy_84 : decode (go_cc mx_X12_copy) 84 = .ok (.bipush 20, 2) := by decide +kernel
theorem dx_X12_copy_86 : decode (go_cc mx_X12_copy) 86 = .ok (.iload_n 1, 1) := by decide +kernel
theorem dx_X12_copy_87 : decode (go_cc mx_X12_copy) 87 = .ok (.imul, 1) := by decide +kernel
theorem dx_X12_copy_88 : decode (go_cc mx_X12_copy) 88 = .ok (.iload_n 2, 1) := by decide +kernel
theorem dx_X12_copy_89 : decode (go_cc mx_X12_copy) 89 = .ok (.iadd, 1) := by decide +kernel
theorem dx_X12_copy_90 : decode (go_cc mx_X12_copy) 90 = .ok (.iload 5, 2) := by decide +kernel
theorem dx_X12_copy_92 : decode (go_cc mx_X12_copy) 92 = .ok (.iadd, 1) := by decide +kernel
theorem dx_X12_copy_93 : decode (go_cc mx_X12_copy) 93 = .ok (.aload_n 0, 1) := by decide +kernel
theorem dx_X12_copy_94 : decode (go_cc mx_X12_copy) 94 = .ok (.getfield 51, 3) := by decide +kernel
theorem dx_X12_copy_97 : decode (go_cc mx_X12_copy) 97 = .ok (.bipush 16, 2) := by decide +kernel
theorem dx_X12_copy_99 : decode (go_cc mx_X12_copy) 99 = .ok (.iload_n 3, 1) := by decide +kernel
theorem dx_X12_copy_100 : decode (go_cc mx_X12_copy) 100 = .ok (.imul, 1) := by decide +kernel
theorem dx_X12_copy_101 : decode (go_cc mx_X12_copy) 101 = .ok (.iload_n 3, 1) := by decide +kernel
theorem dx_X12_copy_102 : decode (go_cc mx_X12_copy) 102 = .ok (.iadd, 1) := by decide +kernel
theorem dx_X12_copy_103 : decode (go_cc mx_X12_copy) 103 = .ok (.iconst 1, 1) := by decide +kernel
theorem dx_X12_copy_104 : decode (go_cc mx_X12_copy) 104 = .ok (.iadd, 1) := by decide +kernel
theorem dx_X12_copy_105 : decode (go_cc mx_X12_copy) 105 = .ok (.iload 5, 2) := by decide +kernel
theorem dx_X12_copy_107 : decode (go_cc mx_X12_copy) 107 = .ok (.iadd, 1) := by decide +kernel
theorem dx_X12_copy_108 : decode (go_cc mx_X12_copy) 108 = .ok (.laload, 1) := by decide +kernel
theorem dx_X12_copy_109 : decode (go_cc mx_X12_copy) 109 = .ok (.lastore, 1) := by decide +kernel
theorem dx_X12_copy_110 : decode (go_cc mx_X12_copy) 110 = .ok (.iinc 5 1, 3) := by decide +kernel
theorem dx_X12_copy_113 : decode (go_cc mx_X12_copy) 113 = .ok (.goto (-40), 3) := by decide +kernel
theorem dx_X12_copy_116 : decode (go_cc mx_X12_copy) 116 = .ok (.iload 4, 2) := by decide +kernel
theorem dx_X12_copy_118 : decode (go_cc mx_X12_copy) 118 = .ok (.ireturn, 1) := by decide +kernel
theorem dx_X12_number_0 : decode (go_cc mx_X12_number) 0 = .ok (.aload_n 0, 1) := by decide +kernel
theorem dx_X12_number_1 : decode (go_cc mx_X12_number) 1 = .ok (.iconst 0, 1) := by decide +kernel
theorem dx_X12_number_2 : decode (go_cc mx_X12_number) 2 = .ok (.putfield 139, 3) := by decide +kernel
theorem dx_X12_number_5 : decode (go_cc mx_X12_number) 5 = .ok (.iload_n 1, 1) := by decide +kernel
theorem dx_X12_number_6 : decode (go_cc mx_X12_number) 6 = .ok (.invokestatic 423, 3) := by decide +kernel
theorem dx_X12_number_9 : decode (go_cc mx_X12_number) 9 = .ok (.ifCond .ne 7, 3) := by decide +kernel
theorem dx_X12_number_12 : decode (go_cc mx_X12_number) 12 = .ok (.ldc2_w 263, 3) := by decide +kernel
theorem dx_X12_number_15 : decode (go_cc mx_X12_number) 15 = .ok (.lreturn, 1) := by decide +kernel
theorem dx_X12_number_16 : decode (go_cc mx_X12_number) 16 = .ok (.aload_n 0, 1) := by decide +kernel
theorem dx_X12_number_17 : decode (go_cc mx_X12_number) 17 = .ok (.getfield 136, 3) := by decide +kernel
theorem dx_X12_number_20 : decode (go_cc mx_X12_number) 20 = .ok (.iload_n 1, 1) := by decide +kernel
theorem dx_X12_number_21 : decode (go_cc mx_X12_number) 21 = .ok (.iaload, 1) := by decide +kernel
theorem dx_X12_number_22 : decode (go_cc mx_X12_number) 22 = .ok (.iconst (-1), 1) := by decide +kernel
theorem dx_X12_number_23 : decode (go_cc mx_X12_number) 23 = .ok (.if_icmp .ne 7, 3) := by decide +kernel
theorem dx_X12_number_26 : decode (go_cc mx_X12_number) 26 = .ok (.ldc2_w 428, 3) := by decide +kernel
theorem dx_X12_number_29 : decode (go_cc mx_X12_number) 29 = .ok (.lreturn, 1) := by decide +kernel
theorem dx_X12_number_30 : decode (go_cc mx_X12_number) 30 = .ok (.iload_n 2, 1) := by decide +kernel
theorem dx_X12_number_31 : decode (go_cc mx_X12_number) 31 = .ok (.i2l, 1) := by decide +kernel
theorem dx_X12_number_32 : decode (go_cc mx_X12_number) 32 = .ok (.lconst 0, 1) := by decide +kernel
theorem dx_X12_number_33 : decode (go_cc mx_X12_number) 33 = .ok (.aload_n 0, 1) := by decide +kernel
theorem dx_X12_number_34 : decode (go_cc mx_X12_number) 34 = .ok (.getfield 136, 3) := by decide +kernel
theorem dx_X12_number_37 : decode (go_cc mx_X12_number) 37 = .ok (.iload_n 1, 1) := by decide +kernel
theorem dx_X12_number_38 : decode (go_cc mx_X12_number) 38 = .ok (.iaload, 1) := by decide +kernel
theorem dx_X12_number_39 : decode (go_cc mx_X12_number) 39 = .ok (.iconst 1, 1) := by decide +kernel
theorem dx_X12_number_40 : decode (go_cc mx_X12_number) 40 = .ok (.isub, 1) := by decide +kernel
theorem dx_X12_number_41 : decode (go_cc mx_X12_number) 41 = .ok (.i2l, 1) := by decide +kernel
theorem dx_X12_number_42 : decode (go_cc mx_X12_number) 42 = .ok (.invokestatic 144, 3) := by decide +kernel
theorem dx_X12_number_45 : decode (go_cc mx_X12_number) 45 = .ok (.ifCond .eq 17, 3) := by decide +kernel
theorem dx_X12_number_48 : decode (go_cc mx_X12_number) 48 = .ok (.aload_n 0, 1) := by decide +kernel
theorem dx_X12_number_49 : decode (go_cc mx_X12_number) 49 = .ok (.getfield 133, 3) := by decide +kernel
theorem dx_X12_number_52 : decode (go_cc mx_X12_number) 52 = .ok (.bipush 20, 2) := by decide +kernel
theorem dx_X12_number_54 : decode (go_cc mx_X12_number) 54 = .ok (.iload_n 1, 1) := by decide +kernel
theorem dx_X12_number_55 : decode (go_cc mx_X12_number) 55 = .ok (.imul, 1) := by decide +kernel
theorem dx_X12_number_56 : decode (go_cc mx_X12_number) 56 = .ok (.iload_n 2, 1) := by decide +kernel
theorem dx_X12_number_57 : decode (go_cc mx_X12_number) 57 = .ok (.iadd, 1) := by decide +kernel
theorem dx_X12_number_58 : decode (go_cc mx_X12_number) 58 = .ok (.laload, 1) := by decide +kernel
theorem dx_X12_number_59 : decode (go_cc mx_X12_number) 59 = .ok (.goto 6, 3) := by decide +kernel
theorem dx_X12_number_62 : decode (go_cc mx_X12_number) 62 = .ok (.ldc2_w 288, 3) := by decide +kernel
theorem dx_X12_number_65 : decode (go_cc mx_X12_number) 65 = .ok (.lreturn, 1) := by decide +kernel
theorem dx_X12_undo_0 : decode (go_cc mx_X12_undo) 0 = .ok (.aload_n 0, 1) := by decide +kernel
theorem dx_X12_undo_1 : decode (go_cc mx_X12_undo) 1 = .ok (.iconst 0, 1) := by decide +kernel
theorem dx_X12_undo_2 : decode (go_cc mx_X12_undo) 2 = .ok (.putfield 139, 3) := by decide +kernel
theorem dx_X12_undo_5 : decode (go_cc mx_X12_undo) 5 = .ok (.iload_n 1, 1) := by decide +kernel
theorem dx_X12_undo_6 : decode (go_cc mx_X12_undo) 6 = .ok (.i2l, 1) := by decide +kernel
theorem dx_X12_undo_7 : decode (go_cc mx_X12_undo) 7 = .ok (.lconst 1, 1) := by decide +kernel
theorem dx_X12_undo_8 : decode (go_cc mx_X12_undo) 8 = .ok (.ldc2_w 430, 3) := by decide +kernel
theorem dx_X12_undo_11 : decode (go_cc mx_X12_undo) 11 = .ok (.invokestatic 144, 3) := by decide +kernel
theorem dx_X12_undo_14 : decode (go_cc mx_X12_undo) 14 = .ok (.ifCond .eq 11, 3) := by decide +kernel
theorem dx_X12_undo_17 : decode (go_cc mx_X12_undo) 17 = .ok (.iload_n 1, 1) := by decide +kernel
theorem dx_X12_undo_18 : decode (go_cc mx_X12_undo) 18 = .ok (.aload_n 0, 1) := by decide +kernel
theorem dx_X12_undo_19 : decode (go_cc mx_X12_undo) 19 = .ok (.getfield 152, 3) := by decide +kernel
theorem dx_X12_undo_22 : decode (go_cc mx_X12_undo) 22 = .ok (.if_icmp .le 6, 3) := by decide +kernel
theorem dx_X12_undo_25 : decode (go_cc mx_X12_undo) 25 = .ok (.bipush (-3), 2) := by decide +kernel
theorem dx_X12_undo_27 : decode (go_cc mx_X12_undo) 27 = .ok (.ireturn, 1) := by decide +kernel
theorem dx_X12_undo_28 : decode (go_cc mx_X12_undo) 28 = .ok (.aload_n 0, 1) := by decide +kernel
theorem dx_X12_undo_29 : decode (go_cc mx_X12_undo) 29 = .ok (.dup, 1) := by decide +kernel
theorem dx_X12_undo_30 : decode (go_cc mx_X12_undo) 30 = .ok (.getfield 152, 3) := by decide +kernel
theorem dx_X12_undo_33 : decode (go_cc mx_X12_undo) 33 = .ok (.iload_n 1, 1) := by decide +kernel
theorem dx_X12_undo_34 : decode (go_cc mx_X12_undo) 34 = .ok (.isub, 1) := by decide +kernel
theorem dx_X12_undo_35 : decode (go_cc mx_X12_undo) 35 = .ok (.putfield 152, 3) := by decide +kernel
theorem dx_X12_undo_38 : decode (go_cc mx_X12_undo) 38 = .ok (.iconst 0, 1) := by decide +kernel
theorem dx_X12_undo_39 : decode (go_cc mx_X12_undo) 39 = .ok (.istore_n 2, 1) := by decide +kernel
theorem dx_X12_undo_40 : decode (go_cc mx_X12_undo) 40 = .ok (.iload_n 2, 1) := by decide +kernel
theorem dx_X12_undo_41 : decode (go_cc mx_X12_undo) 41 = .ok (.sipush 128, 3) := by decide +kernel
theorem dx_X12_undo_44 : decode (go_cc mx_X12_undo) 44 = .ok (.if_icmp .ge 30, 3) := by decide +kernel
theorem dx_X12_undo_47 : decode (go_cc mx_X12_undo) 47 = .ok (.aload_n 0, 1) := by decide +kernel
theorem dx_X12_undo_48 : decode (go_cc mx_X12_undo) 48 = .ok (.getfield 7, 3) := by decide +kernel
theorem dx_X12_undo_51 : decode (go_cc mx_X12_undo) 51 = .ok (.iload_n 2, 1) := by decide +kernel
theorem dx_X12_undo_52 : decode (go_cc mx_X12_undo) 52 = .ok (.aload_n 0, 1) := by decide +kernel
theorem dx_X12_undo_53 : decode (go_cc mx_X12_undo) 53 = .ok (.getfield 13, 3) := by decide +kernel
theorem dx_X12_undo_56 : decode (go_cc mx_X12_undo) 56 = .ok (.sipush 128, 3) := by decide +kernel
theorem dx_X12_undo_59 : decode (go_cc mx_X12_undo) 59 = .ok (.aload_n 0, 1) := by decide +kernel
theorem dx_X12_undo_60 : decode (go_cc mx_X12_undo) 60 = .ok (.getfield 152, 3) := by decide +kernel
theorem dx_X12_undo_63 : decode (go_cc mx_X12_undo) 63 = .ok (.imul, 1) := by decide +kernel
theorem dx_X12_undo_64 : decode (go_cc mx_X12_undo) 64 = .ok (.iload_n 2, 1) := by decide +kernel
theorem dx_X12_undo_65 : decode (go_cc mx_X12_undo) 65 = .ok (.iadd, 1) := by decide +kernel
theorem dx_X12_undo_66 : decode (go_cc mx_X12_undo) 66 = .ok (.iaload, 1) := by decide +kernel
theorem dx_X12_undo_67 : decode (go_cc mx_X12_undo) 67 = .ok (.iastore, 1) := by decide +kernel
theorem dx_X12_undo_68 : decode (go_cc mx_X12_undo) 68 = .ok (.iinc 2 1, 3) := by decide +kernel
theorem dx_X12_undo_71 : decode (go_cc mx_X12_undo) 71 = .ok (.goto (-31), 3) := by decide +kernel
theorem dx_X12_undo_74 : decode (go_cc mx_X12_undo) 74 = .ok (.aload_n 0, 1) := by decide +kernel
theorem dx_X12_undo_75 : decode (go_cc mx_X12_undo) 75 = .ok (.iconst 0, 1) := by decide +kernel
theorem dx_X12_undo_76 : decode (go_cc mx_X12_undo) 76 = .ok (.putfield 155, 3) := by decide +kernel
theorem dx_X12_undo_79 : decode (go_cc mx_X12_undo) 79 = .ok (.aload_n 0, 1) := by decide +kernel
theorem dx_X12_undo_80 : decode (go_cc mx_X12_undo) 80 = .ok (.getfield 152, 3) := by decide +kernel
theorem dx_X12_undo_83 : decode (go_cc mx_X12_undo) 83 = .ok (.ireturn, 1) := by decide +kernel
theorem dx_X12_image_0 : decode (go_cc mx_X12_image) 0 = .ok (.aload_n 0, 1) := by decide +kernel
theorem dx_X12_image_1 : decode (go_cc mx_X12_image) 1 = .ok (.iconst 0, 1) := by decide +kernel
theorem dx_X12_image_2 : decode (go_cc mx_X12_image) 2 = .ok (.putfield 139, 3) := by decide +kernel
theorem dx_X12_image_5 : decode (go_cc mx_X12_image) 5 = .ok (.iload_n 1, 1) := by decide +kernel
theorem dx_X12_image_6 : decode (go_cc mx_X12_image) 6 = .ok (.i2l, 1) := by decide +kernel
theorem dx_X12_image_7 : decode (go_cc mx_X12_image) 7 = .ok (.lconst 0, 1) := by decide +kernel
theorem dx_X12_image_8 : decode (go_cc mx_X12_image) 8 = .ok (.lconst 1, 1) := by decide +kernel
theorem dx_X12_image_9 : decode (go_cc mx_X12_image) 9 = .ok (.invokestatic 144, 3) := by decide +kernel
theorem dx_X12_image_12 : decode (go_cc mx_X12_image) 12 = .ok (.ifCond .ne 6, 3) := by decide +kernel
theorem dx_X12_image_15 : decode (go_cc mx_X12_image) 15 = .ok (.bipush (-2), 2) := by decide +kernel
theorem dx_X12_image_17 : decode (go_cc mx_X12_image) 17 = .ok (.ireturn, 1) := by decide +kernel
theorem dx_X12_image_18 : decode (go_cc mx_X12_image) 18 = .ok (.iconst 0, 1) := by decide +kernel
theorem dx_X12_image_19 : decode (go_cc mx_X12_image) 19 = .ok (.istore_n 2, 1) := by decide +kernel
theorem dx_X12_image_20 : decode (go_cc mx_X12_image) 20 = .ok (.iload_n 2, 1) := by decide +kernel
theorem dx_X12_image_21 : decode (go_cc mx_X12_image) 21 = .ok (.sipush 128, 3) := by decide +kernel
theorem dx_X12_image_24 : decode (go_cc mx_X12_image) 24 = .ok (.if_icmp .ge 29, 3) := by decide +kernel
theorem dx_X12_image_27 : decode (go_cc mx_X12_image) 27 = .ok (.aload_n 0, 1) := by decide +kernel
theorem dx_X12_image_28 : decode (go_cc mx_X12_image) 28 = .ok (.getfield 7, 3) := by decide +kernel
theorem dx_X12_image_31 : decode (go_cc mx_X12_image) 31 = .ok (.sipush 128, 3) := by decide +kernel
theorem dx_X12_image_34 : decode (go_cc mx_X12_image) 34 = .ok (.iload_n 1, 1) := by decide +kernel
theorem dx_X12_image_35 : decode (go_cc mx_X12_image) 35 = .ok (.iconst 1, 1) := by decide +kernel
theorem dx_X12_image_36 : decode (go_cc mx_X12_image) 36 = .ok (.iadd, 1) := by decide +kernel
theorem dx_X12_image_37 : decode (go_cc mx_X12_image) 37 = .ok (.imul, 1) := by decide +kernel
theorem dx_X12_image_38 : decode (go_cc mx_X12_image) 38 = .ok (.iload_n 2, 1) := by decide +kernel
theorem dx_X12_image_39 : decode (go_cc mx_X12_image) 39 = .ok (.iadd, 1) := by decide +kernel
theorem dx_X12_image_40 : decode (go_cc mx_X12_image) 40 = .ok (.aload_n 0, 1) := by decide +kernel
theorem dx_X12_image_41 : decode (go_cc mx_X12_image) 41 = .ok (.getfield 7, 3) := by decide +kernel
theorem dx_X12_image_44 : decode (go_cc mx_X12_image) 44 = .ok (.iload_n 2, 1) := by decide +kernel
theorem dx_X12_image_45 : decode (go_cc mx_X12_image) 45 = .ok (.iaload, 1) := by decide +kernel
theorem dx_X12_image_46 : decode (go_cc mx_X12_image) 46 = .ok (.iastore, 1) := by decide +kernel
theorem dx_X12_image_47 : decode (go_cc mx_X12_image) 47 = .ok (.iinc 2 1, 3) := by decide +kernel
theorem dx_X12_image_50 : decode (go_cc mx_X12_image) 50 = .ok (.goto (-30), 3) := by decide +kernel
theorem dx_X12_image_53 : decode (go_cc mx_X12_image) 53 = .ok (.aload_n 0, 1) := by decide +kernel
theorem dx_X12_image_54 : decode (go_cc mx_X12_image) 54 = .ok (.getfield 16, 3) := by decide +kernel
theorem dx_X12_image_57 : decode (go_cc mx_X12_image) 57 = .ok (.iload_n 1, 1) := by decide +kernel
theorem dx_X12_image_58 : decode (go_cc mx_X12_image) 58 = .ok (.iconst 1, 1) := by decide +kernel
theorem dx_X12_image_59 : decode (go_cc mx_X12_image) 59 = .ok (.bastore, 1) := by decide +kernel
theorem dx_X12_image_60 : decode (go_cc mx_X12_image) 60 = .ok (.iconst 0, 1) := by decide +kernel
theorem dx_X12_image_61 : decode (go_cc mx_X12_image) 61 = .ok (.ireturn, 1) := by decide +kernel
theorem dx_X12_restore_0 : decode (go_cc mx_X12_restore) 0 = .ok (.aload_n 0, 1) := by decide +kernel
theorem dx_X12_restore_1 : decode (go_cc mx_X12_restore) 1 = .ok (.iconst 0, 1) := by decide +kernel
theorem dx_X12_restore_2 : decode (go_cc mx_X12_restore) 2 = .ok (.putfield 139, 3) := by decide +kernel
theorem dx_X12_restore_5 : decode (go_cc mx_X12_restore) 5 = .ok (.iload_n 1, 1) := by decide +kernel
theorem dx_X12_restore_6 : decode (go_cc mx_X12_restore) 6 = .ok (.i2l, 1) := by decide +kernel
theorem dx_X12_restore_7 : decode (go_cc mx_X12_restore) 7 = .ok (.lconst 0, 1) := by decide +kernel
theorem dx_X12_restore_8 : decode (go_cc mx_X12_restore) 8 = .ok (.lconst 1, 1) := by decide +kernel
theorem dx_X12_restore_9 : decode (go_cc mx_X12_restore) 9 = .ok (.invokestatic 144, 3) := by decide +kernel
theorem dx_X12_restore_12 : decode (go_cc mx_X12_restore) 12 = .ok (.ifCond .ne 6, 3) := by decide +kernel
theorem dx_X12_restore_15 : decode (go_cc mx_X12_restore) 15 = .ok (.bipush (-2), 2) := by decide +kernel
theorem dx_X12_restore_17 : decode (go_cc mx_X12_restore) 17 = .ok (.ireturn, 1) := by decide +kernel
theorem dx_X12_restore_18 : decode (go_cc mx_X12_restore) 18 = .ok (.aload_n 0, 1) := by decide +kernel
theorem dx_X12_restore_19 : decode (go_cc mx_X12_restore) 19 = .ok (.getfield 16, 3) := by decide +kernel
theorem dx_X12_restore_22 : decode (go_cc mx_X12_restore) 22 = .ok (.iload_n 1, 1) := by decide +kernel
theorem dx_X12_restore_23 : decode (go_cc mx_X12_restore) 23 = .ok (.baload, 1) := by decide +kernel
theorem dx_X12_restore_24 : decode (go_cc mx_X12_restore) 24 = .ok (.ifCond .ne 6, 3) := by decide +kernel
theorem dx_X12_restore_27 : decode (go_cc mx_X12_restore) 27 = .ok (.bipush (-6), 2) := by decide +kernel
theorem dx_X12_restore_29 : decode (go_cc mx_X12_restore) 29 = .ok (.ireturn, 1) := by decide +kernel
theorem dx_X12_restore_30 : decode (go_cc mx_X12_restore) 30 = .ok (.iconst 0, 1) := by decide +kernel
theorem dx_X12_restore_31 : decode (go_cc mx_X12_restore) 31 = .ok (.istore_n 2, 1) := by decide +kernel
theorem dx_X12_restore_32 : decode (go_cc mx_X12_restore) 32 = .ok (.iload_n 2, 1) := by decide +kernel
theorem dx_X12_restore_33 : decode (go_cc mx_X12_restore) 33 = .ok (.sipush 128, 3) := by decide +kernel
theorem dx_X12_restore_36 : decode (go_cc mx_X12_restore) 36 = .ok (.if_icmp .ge 29, 3) := by decide +kernel
theorem dx_X12_restore_39 : decode (go_cc mx_X12_restore) 39 = .ok (.aload_n 0, 1) := by decide +kernel
theorem dx_X12_restore_40 : decode (go_cc mx_X12_restore) 40 = .ok (.getfield 7, 3) := by decide +kernel
theorem dx_X12_restore_43 : decode (go_cc mx_X12_restore) 43 = .ok (.iload_n 2, 1) := by decide +kernel
theorem dx_X12_restore_44 : decode (go_cc mx_X12_restore) 44 = .ok (.aload_n 0, 1) := by decide +kernel
theorem dx_X12_restore_45 : decode (go_cc mx_X12_restore) 45 = .ok (.getfield 7, 3) := by decide +kernel
theorem dx_X12_restore_48 : decode (go_cc mx_X12_restore) 48 = .ok (.sipush 128, 3) := by decide +kernel
theorem dx_X12_restore_51 : decode (go_cc mx_X12_restore) 51 = .ok (.iload_n 1, 1) := by decide +kernel
theorem dx_X12_restore_52 : decode (go_cc mx_X12_restore) 52 = .ok (.iconst 1, 1) := by decide +kernel
theorem dx_X12_restore_53 : decode (go_cc mx_X12_restore) 53 = .ok (.iadd, 1) := by decide +kernel
theorem dx_X12_restore_54 : decode (go_cc mx_X12_restore) 54 = .ok (.imul, 1) := by decide +kernel
theorem dx_X12_restore_55 : decode (go_cc mx_X12_restore) 55 = .ok (.iload_n 2, 1) := by decide +kernel
theorem dx_X12_restore_56 : decode (go_cc mx_X12_restore) 56 = .ok (.iadd, 1) := by decide +kernel
theorem dx_X12_restore_57 : decode (go_cc mx_X12_restore) 57 = .ok (.iaload, 1) := by decide +kernel
theorem dx_X12_restore_58 : decode (go_cc mx_X12_restore) 58 = .ok (.iastore, 1) := by decide +kernel
theorem dx_X12_restore_59 : decode (go_cc mx_X12_restore) 59 = .ok (.iinc 2 1, 3) := by decide +kernel
theorem dx_X12_restore_62 : decode (go_cc mx_X12_restore) 62 = .ok (.goto (-30), 3) := by decide +kernel
theorem dx_X12_restore_65 : decode (go_cc mx_X12_restore) 65 = .ok (.aload_n 0, 1) := by decide +kernel
theorem dx_X12_restore_66 : decode (go_cc mx_X12_restore) 66 = .ok (.iconst 0, 1) := by decide +kernel
theorem dx_X12_restore_67 : decode (go_cc mx_X12_restore) 67 = .ok (.putfield 152, 3) := by decide +kernel
theorem dx_X12_restore_70 : decode (go_cc mx_X12_restore) 70 = .ok (.aload_n 0, 1) := by decide +kernel
theorem dx_X12_restore_71 : decode (go_cc mx_X12_restore) 71 = .ok (.iconst 0, 1) := by decide +kernel
theorem dx_X12_restore_72 : decode (go_cc mx_X12_restore) 72 = .ok (.putfield 155, 3) := by decide +kernel
theorem dx_X12_restore_75 : decode (go_cc mx_X12_restore) 75 = .ok (.iconst 0, 1) := by decide +kernel
theorem dx_X12_restore_76 : decode (go_cc mx_X12_restore) 76 = .ok (.ireturn, 1) := by decide +kernel
theorem dx_X12_count_0 : decode (go_cc mx_X12_count) 0 = .ok (.aload_n 0, 1) := by decide +kernel
theorem dx_X12_count_1 : decode (go_cc mx_X12_count) 1 = .ok (.iconst 0, 1) := by decide +kernel
theorem dx_X12_count_2 : decode (go_cc mx_X12_count) 2 = .ok (.putfield 139, 3) := by decide +kernel
theorem dx_X12_count_5 : decode (go_cc mx_X12_count) 5 = .ok (.iconst 0, 1) := by decide +kernel
theorem dx_X12_count_6 : decode (go_cc mx_X12_count) 6 = .ok (.istore_n 2, 1) := by decide +kernel
theorem dx_X12_count_7 : decode (go_cc mx_X12_count) 7 = .ok (.iconst 0, 1) := by decide +kernel
theorem dx_X12_count_8 : decode (go_cc mx_X12_count) 8 = .ok (.istore_n 3, 1) := by decide +kernel
theorem dx_X12_count_9 : decode (go_cc mx_X12_count) 9 = .ok (.iconst 0, 1) := by decide +kernel
theorem dx_X12_count_10 : decode (go_cc mx_X12_count) 10 = .ok (.istore 4, 2) := by decide +kernel
theorem dx_X12_count_12 : decode (go_cc mx_X12_count) 12 = .ok (.iload 4, 2) := by decide +kernel
theorem dx_X12_count_14 : decode (go_cc mx_X12_count) 14 = .ok (.bipush 16, 2) := by decide +kernel
theorem dx_X12_count_16 : decode (go_cc mx_X12_count) 16 = .ok (.if_icmp .ge 47, 3) := by decide +kernel
theorem dx_X12_count_19 : decode (go_cc mx_X12_count) 19 = .ok (.iload_n 2, 1) := by decide +kernel
theorem dx_X12_count_20 : decode (go_cc mx_X12_count) 20 = .ok (.aload_n 0, 1) := by decide +kernel
theorem dx_X12_count_21 : decode (go_cc mx_X12_count) 21 = .ok (.iload 4, 2) := by decide +kernel
theorem dx_X12_count_23 : decode (go_cc mx_X12_count) 23 = .ok (.invokevirtual 148, 3) := by decide +kernel
theorem dx_X12_count_26 : decode (go_cc mx_X12_count) 26 = .ok (.ifCond .le 10, 3) := by decide +kernel
theorem dx_X12_count_29 : decode (go_cc mx_X12_count) 29 = .ok (.iconst 1, 1) := by decide +kernel
theorem dx_X12_count_30 : decode (go_cc mx_X12_count) 30 = .ok (.iload 4, 2) := by decide +kernel
theorem dx_X12_count_32 : decode (go_cc mx_X12_count) 32 = .ok (.ishl, 1) := by decide +kernel
theorem dx_X12_count_33 : decode (go_cc mx_X12_count) 33 = .ok (.goto 4, 3) := by decide +kernel
theorem dx_X12_count_36 : decode (go_cc mx_X12_count) 36 = .ok (.iconst 0, 1) := by decide +kernel
theorem dx_X12_count_37 : decode (go_cc mx_X12_count) 37 = .ok (.ior, 1) := by decide +kernel
theorem dx_X12_count_38 : decode (go_cc mx_X12_count) 38 = .ok (.istore_n 2, 1) := by decide +kernel
theorem dx_X12_count_39 : decode (go_cc mx_X12_count) 39 = .ok (.iload_n 3, 1) := by decide +kernel
theorem dx_X12_count_40 : decode (go_cc mx_X12_count) 40 = .ok (.aload_n 0, 1) := by decide +kernel
theorem dx_X12_count_41 : decode (go_cc mx_X12_count) 41 = .ok (.iload 4, 2) := by decide +kernel
theorem dx_X12_count_43 : decode (go_cc mx_X12_count) 43 = .ok (.invokevirtual 148, 3) := by decide +kernel
theorem dx_X12_count_46 : decode (go_cc mx_X12_count) 46 = .ok (.iconst 1, 1) := by decide +kernel
theorem dx_X12_count_47 : decode (go_cc mx_X12_count) 47 = .ok (.if_icmp .ne 7, 3) := by decide +kernel
theorem dx_X12_count_50 : decode (go_cc mx_X12_count) 50 = .ok (.iconst 1, 1) := by decide +kernel
theorem dx_X12_count_51 : decode (go_cc mx_X12_count) 51 = .ok (.goto 4, 3) := by decide +kernel
theorem dx_X12_count_54 : decode (go_cc mx_X12_count) 54 = .ok (.iconst 0, 1) := by decide +kernel
theorem dx_X12_count_55 : decode (go_cc mx_X12_count) 55 = .ok (.iadd, 1) := by decide +kernel
theorem dx_X12_count_56 : decode (go_cc mx_X12_count) 56 = .ok (.istore_n 3, 1) := by decide +kernel
theorem dx_X12_count_57 : decode (go_cc mx_X12_count) 57 = .ok (.iinc 4 1, 3) := by decide +kernel
theorem dx_X12_count_60 : decode (go_cc mx_X12_count) 60 = .ok (.goto (-48), 3) := by decide +kernel
theorem dx_X12_count_63 : decode (go_cc mx_X12_count) 63 = .ok (.iload_n 1, 1) := by decide +kernel
theorem dx_X12_count_64 : decode (go_cc mx_X12_count) 64 = .ok (.tableswitch 89 0 7 #[48, 53, 55, 57, 66, 74, 79, 84], 48) := by decide +kernel
theorem dx_X12_count_112 : decode (go_cc mx_X12_count) 112 = .ok (.aload_n 0, 1) := by decide +kernel
theorem dx_X12_count_113 : decode (go_cc mx_X12_count) 113 = .ok (.invokevirtual 206, 3) := by decide +kernel
theorem dx_X12_count_116 : decode (go_cc mx_X12_count) 116 = .ok (.ireturn, 1) := by decide +kernel
theorem dx_X12_count_117 : decode (go_cc mx_X12_count) 117 = .ok (.iload_n 2, 1) := by decide +kernel
theorem dx_X12_count_118 : decode (go_cc mx_X12_count) 118 = .ok (.ireturn, 1) := by decide +kernel
theorem dx_X12_count_119 : decode (go_cc mx_X12_count) 119 = .ok (.iload_n 3, 1) := by decide +kernel
theorem dx_X12_count_120 : decode (go_cc mx_X12_count) 120 = .ok (.ireturn, 1) := by decide +kernel
theorem dx_X12_count_121 : decode (go_cc mx_X12_count) 121 = .ok (.aload_n 0, 1) := by decide +kernel
theorem dx_X12_count_122 : decode (go_cc mx_X12_count) 122 = .ok (.invokevirtual 221, 3) := by decide +kernel
theorem dx_X12_count_125 : decode (go_cc mx_X12_count) 125 = .ok (.aload_n 0, 1) := by decide +kernel
theorem dx_X12_count_126 : decode (go_cc mx_X12_count) 126 = .ok (.getfield 218, 3) := by decide +kernel
theorem dx_X12_count_129 : decode (go_cc mx_X12_count) 129 = .ok (.ireturn, 1) := by decide +kernel
theorem dx_X12_count_130 : decode (go_cc mx_X12_count) 130 = .ok (.aload_n 0, 1) := by decide +kernel
theorem dx_X12_count_131 : decode (go_cc mx_X12_count) 131 = .ok (.getfield 7, 3) := by decide +kernel
theorem dx_X12_count_134 : decode (go_cc mx_X12_count) 134 = .ok (.bipush 112, 2) := by decide +kernel
theorem dx_X12_count_136 : decode (go_cc mx_X12_count) 136 = .ok (.iaload, 1) := by decide +kernel
theorem dx_X12_count_137 : decode (go_cc mx_X12_count) 137 = .ok (.ireturn, 1) := by decide +kernel
theorem dx_X12_count_138 : decode (go_cc mx_X12_count) 138 = .ok (.aload_n 0, 1) := by decide +kernel
theorem dx_X12_count_139 : decode (go_cc mx_X12_count) 139 = .ok (.invokevirtual 253, 3) := by decide +kernel
theorem dx_X12_count_142 : decode (go_cc mx_X12_count) 142 = .ok (.ireturn, 1) := by decide +kernel
theorem dx_X12_count_143 : decode (go_cc mx_X12_count) 143 = .ok (.aload_n 0, 1) := by decide +kernel
theorem dx_X12_count_144 : decode (go_cc mx_X12_count) 144 = .ok (.getfield 152, 3) := by decide +kernel
theorem dx_X12_count_147 : decode (go_cc mx_X12_count) 147 = .ok (.ireturn, 1) := by decide +kernel
theorem dx_X12_count_148 : decode (go_cc mx_X12_count) 148 = .ok (.aload_n 0, 1) := by decide +kernel
theorem dx_X12_count_149 : decode (go_cc mx_X12_count) 149 = .ok (.getfield 159, 3) := by decide +kernel
theorem dx_X12_count_152 : decode (go_cc mx_X12_count) 152 = .ok (.ireturn, 1) := by decide +kernel
theorem dx_X12_count_153 : decode (go_cc mx_X12_count) 153 = .ok (.iconst (-1), 1) := by decide +kernel
theorem dx_X12_count_154 : decode (go_cc mx_X12_count) 154 = .ok (.ireturn, 1) := by decide +kernel
