theorem dX7_init_0 : decode cX7_init 0 = .ok (.aload_n 0, 1) := by decide +kernel
theorem dX7_init_1 : decode cX7_init 1 = .ok (.invokespecial 1, 3) := by decide +kernel
theorem dX7_init_4 : decode cX7_init 4 = .ok (.aload_n 0, 1) := by decide +kernel
theorem dX7_init_5 : decode cX7_init 5 = .ok (.bipush 10, 2) := by decide +kernel
theorem dX7_init_7 : decode cX7_init 7 = .ok (.newarray .int, 2) := by decide +kernel
theorem dX7_init_9 : decode cX7_init 9 = .ok (.putfield 7, 3) := by decide +kernel
theorem dX7_init_12 : decode cX7_init 12 = .ok (.aload_n 0, 1) := by decide +kernel
theorem dX7_init_13 : decode cX7_init 13 = .ok (.bipush 12, 2) := by decide +kernel
theorem dX7_init_15 : decode cX7_init 15 = .ok (.newarray .int, 2) := by decide +kernel
theorem dX7_init_17 : decode cX7_init 17 = .ok (.putfield 13, 3) := by decide +kernel
theorem dX7_init_20 : decode cX7_init 20 = .ok (.aload_n 0, 1) := by decide +kernel
theorem dX7_init_21 : decode cX7_init 21 = .ok (.bipush 12, 2) := by decide +kernel
theorem dX7_init_23 : decode cX7_init 23 = .ok (.newarray .int, 2) := by decide +kernel
theorem dX7_init_25 : decode cX7_init 25 = .ok (.putfield 16, 3) := by decide +kernel
theorem dX7_init_28 : decode cX7_init 28 = .ok (.aload_n 0, 1) := by decide +kernel
theorem dX7_init_29 : decode cX7_init 29 = .ok (.bipush 30, 2) := by decide +kernel
theorem dX7_init_31 : decode cX7_init 31 = .ok (.newarray .int, 2) := by decide +kernel
theorem dX7_init_33 : decode cX7_init 33 = .ok (.putfield 19, 3) := by decide +kernel
theorem dX7_init_36 : decode cX7_init 36 = .ok (.aload_n 0, 1) := by decide +kernel
theorem dX7_init_37 : decode cX7_init 37 = .ok (.bipush 8, 2) := by decide +kernel
theorem dX7_init_39 : decode cX7_init 39 = .ok (.newarray .int, 2) := by decide +kernel
theorem dX7_init_41 : decode cX7_init 41 = .ok (.putfield 22, 3) := by decide +kernel
theorem dX7_init_44 : decode cX7_init 44 = .ok (.aload_n 0, 1) := by decide +kernel
theorem dX7_init_45 : decode cX7_init 45 = .ok (.bipush 8, 2) := by decide +kernel
theorem dX7_init_47 : decode cX7_init 47 = .ok (.newarray .int, 2) := by decide +kernel
theorem dX7_init_49 : decode cX7_init 49 = .ok (.putfield 25, 3) := by decide +kernel
theorem dX7_init_52 : decode cX7_init 52 = .ok (.aload_n 0, 1) := by decide +kernel
theorem dX7_init_53 : decode cX7_init 53 = .ok (.bipush 8, 2) := by decide +kernel
theorem dX7_init_55 : decode cX7_init 55 = .ok (.newarray .int, 2) := by decide +kernel
theorem dX7_init_57 : decode cX7_init 57 = .ok (.putfield 28, 3) := by decide +kernel
theorem dX7_init_60 : decode cX7_init 60 = .ok (.aload_n 0, 1) := by decide +kernel
theorem dX7_init_61 : decode cX7_init 61 = .ok (.bipush 8, 2) := by decide +kernel
theorem dX7_init_63 : decode cX7_init 63 = .ok (.newarray .int, 2) := by decide +kernel
theorem dX7_init_65 : decode cX7_init 65 = .ok (.putfield 31, 3) := by decide +kernel
theorem dX7_init_68 : decode cX7_init 68 = .ok (.aload_n 0, 1) := by decide +kernel
theorem dX7_init_69 : decode cX7_init 69 = .ok (.bipush 8, 2) := by decide +kernel
theorem dX7_init_71 : decode cX7_init 71 = .ok (.newarray .int, 2) := by decide +kernel
theorem dX7_init_73 : decode cX7_init 73 = .ok (.putfield 34, 3) := by decide +kernel
theorem dX7_init_76 : decode cX7_init 76 = .ok (.aload_n 0, 1) := by decide +kernel
theorem dX7_init_77 : decode cX7_init 77 = .ok (.bipush 8, 2) := by decide +kernel
theorem dX7_init_79 : decode cX7_init 79 = .ok (.newarray .int, 2) := by decide +kernel
theorem dX7_init_81 : decode cX7_init 81 = .ok (.dup, 1) := by decide +kernel
theorem dX7_init_82 : decode cX7_init 82 = .ok (.iconst 0, 1) := by decide +kernel
theorem dX7_init_83 : decode cX7_init 83 = .ok (.iconst (-1), 1) := by decide +kernel
theorem dX7_init_84 : decode cX7_init 84 = .ok (.iastore, 1) := by decide +kernel
theorem dX7_init_85 : decode cX7_init 85 = .ok (.dup, 1) := by decide +kernel
theorem dX7_init_86 : decode cX7_init 86 = .ok (.iconst 1, 1) := by decide +kernel
theorem dX7_init_87 : decode cX7_init 87 = .ok (.iconst (-1), 1) := by decide +kernel
theorem dX7_init_88 : decode cX7_init 88 = .ok (.iastore, 1) := by decide +kernel
theorem dX7_init_89 : decode cX7_init 89 = .ok (.dup, 1) := by decide +kernel
theorem dX7_init_90 : decode cX7_init 90 = .ok (.iconst 2, 1) := by decide +kernel
theorem dX7_init_91 : decode cX7_init 91 = .ok (.iconst (-1), 1) := by decide +kernel
theorem dX7_init_92 : decode cX7_init 92 = .ok (.iastore, 1) := by decide +kernel
theorem dX7_init_93 : decode cX7_init 93 = .ok (.dup, 1) := by decide +kernel
theorem dX7_init_94 : decode cX7_init 94 = .ok (.iconst 3, 1) := by decide +kernel
theorem dX7_init_95 : decode cX7_init 95 = .ok (.iconst (-1), 1) := by decide +kernel
theorem dX7_init_96 : decode cX7_init 96 = .ok (.iastore, 1) := by decide +kernel
theorem dX7_init_97 : decode cX7_init 97 = .ok (.dup, 1) := by decide +kernel
theorem dX7_init_98 : decode cX7_init 98 = .ok (.iconst 4, 1) := by decide +kernel
theorem dX7_init_99 : decode cX7_init 99 = .ok (.iconst (-1), 1) := by decide +kernel
theorem dX7_init_100 : decode cX7_init 100 = .ok (.iastore, 1) := by decide +kernel
theorem dX7_init_101 : decode cX7_init 101 = .ok (.dup, 1) := by decide +kernel
theorem dX7_init_102 : decode cX7_init 102 = .ok (.iconst 5, 1) := by decide +kernel
theorem dX7_init_103 : decode cX7_init 103 = .ok (.iconst (-1), 1) := by decide +kernel
theorem dX7_init_104 : decode cX7_init 104 = .ok (.iastore, 1) := by decide +kernel
theorem dX7_init_105 : decode cX7_init 105 = .ok (.dup, 1) := by decide +kernel
theorem dX7_init_106 : decode cX7_init 106 = .ok (.bipush 6, 2) := by decide +kernel
theorem dX7_init_108 : decode cX7_init 108 = .ok (.iconst (-1), 1) := by decide +kernel
theorem dX7_init_109 : decode cX7_init 109 = .ok (.iastore, 1) := by decide +kernel
theorem dX7_init_110 : decode cX7_init 110 = .ok (.dup, 1) := by decide +kernel
theorem dX7_init_111 : decode cX7_init 111 = .ok (.bipush 7, 2) := by decide +kernel
theorem dX7_init_113 : decode cX7_init 113 = .ok (.iconst (-1), 1) := by decide +kernel
theorem dX7_init_114 : decode cX7_init 114 = .ok (.iastore, 1) := by decide +kernel
theorem dX7_init_115 : decode cX7_init 115 = .ok (.putfield 37, 3) := by decide +kernel
theorem dX7_init_118 : decode cX7_init 118 = .ok (.aload_n 0, 1) := by decide +kernel
theorem dX7_init_119 : decode cX7_init 119 = .ok (.bipush 8, 2) := by decide +kernel
theorem dX7_init_121 : decode cX7_init 121 = .ok (.newarray .int, 2) := by decide +kernel
theorem dX7_init_123 : decode cX7_init 123 = .ok (.dup, 1) := by decide +kernel
theorem dX7_init_124 : decode cX7_init 124 = .ok (.iconst 0, 1) := by decide +kernel
theorem dX7_init_125 : decode cX7_init 125 = .ok (.iconst (-1), 1) := by decide +kernel
theorem dX7_init_126 : decode cX7_init 126 = .ok (.iastore, 1) := by decide +kernel
theorem dX7_init_127 : decode cX7_init 127 = .ok (.dup, 1) := by decide +kernel
theorem dX7_init_128 : decode cX7_init 128 = .ok (.iconst 1, 1) := by decide +kernel
theorem dX7_init_129 : decode cX7_init 129 = .ok (.iconst (-1), 1) := by decide +kernel
theorem dX7_init_130 : decode cX7_init 130 = .ok (.iastore, 1) := by decide +kernel
theorem dX7_init_131 : decode cX7_init 131 = .ok (.dup, 1) := by decide +kernel
theorem dX7_init_132 : decode cX7_init 132 = .ok (.iconst 2, 1) := by decide +kernel
theorem dX7_init_133 : decode cX7_init 133 = .ok (.iconst (-1), 1) := by decide +kernel
theorem dX7_init_134 : decode cX7_init 134 = .ok (.iastore, 1) := by decide +kernel
theorem dX7_init_135 : decode cX7_init 135 = .ok (.dup, 1) := by decide +kernel
theorem dX7_init_136 : decode cX7_init 136 = .ok (.iconst 3, 1) := by decide +kernel
theorem dX7_init_137 : decode cX7_init 137 = .ok (.iconst (-1), 1) := by decide +kernel
theorem dX7_init_138 : decode cX7_init 138 = .ok (.iastore, 1) := by decide +kernel
theorem dX7_init_139 : decode cX7_init 139 = .ok (.dup, 1) := by decide +kernel
theorem dX7_init_140 : decode cX7_init 140 = .ok (.iconst 4, 1) := by decide +kernel
theorem dX7_init_141 : decode cX7_init 141 = .ok (.iconst (-1), 1) := by decide +kernel
theorem dX7_init_142 : decode cX7_init 142 = .ok (.iastore, 1) := by decide +kernel
theorem dX7_init_143 : decode cX7_init 143 = .ok (.dup, 1) := by decide +kernel
theorem dX7_init_144 : decode cX7_init 144 = .ok (.iconst 5, 1) := by decide +kernel
theorem dX7_init_145 : decode cX7_init 145 = .ok (.iconst (-1), 1) := by decide +kernel
theorem dX7_init_146 : decode cX7_init 146 = .ok (.iastore, 1) := by decide +kernel
theorem dX7_init_147 : decode cX7_init 147 = .ok (.dup, 1) := by decide +kernel
theorem dX7_init_148 : decode cX7_init 148 = .ok (.bipush 6, 2) := by decide +kernel
theorem dX7_init_150 : decode cX7_init 150 = .ok (.iconst (-1), 1) := by decide +kernel
theorem dX7_init_151 : decode cX7_init 151 = .ok (.iastore, 1) := by decide +kernel
theorem dX7_init_152 : decode cX7_init 152 = .ok (.dup, 1) := by decide +kernel
theorem dX7_init_153 : decode cX7_init 153 = .ok (.bipush 7, 2) := by decide +kernel
theorem dX7_init_155 : decode cX7_init 155 = .ok (.iconst (-1), 1) := by decide +kernel
theorem dX7_init_156 : decode cX7_init 156 = .ok (.iastore, 1) := by decide +kernel
theorem dX7_init_157 : decode cX7_init 157 = .ok (.putfield 40, 3) := by decide +kernel
theorem dX7_init_160 : decode cX7_init 160 = .ok (.aload_n 0, 1) := by decide +kernel
theorem dX7_init_161 : decode cX7_init 161 = .ok (.bipush 8, 2) := by decide +kernel
theorem dX7_init_163 : decode cX7_init 163 = .ok (.newarray .int, 2) := by decide +kernel
theorem dX7_init_165 : decode cX7_init 165 = .ok (.putfield 43, 3) := by decide +kernel
theorem dX7_init_168 : decode cX7_init 168 = .ok (.aload_n 0, 1) := by decide +kernel
theorem dX7_init_169 : decode cX7_init 169 = .ok (.bipush 8, 2) := by decide +kernel
theorem dX7_init_171 : decode cX7_init 171 = .ok (.newarray .int, 2) := by decide +kernel
theorem dX7_init_173 : decode cX7_init 173 = .ok (.putfield 46, 3) := by decide +kernel
theorem dX7_init_176 : decode cX7_init 176 = .ok (.aload_n 0, 1) := by decide +kernel
theorem dX7_init_177 : decode cX7_init 177 = .ok (.bipush 8, 2) := by decide +kernel
theorem dX7_init_179 : decode cX7_init 179 = .ok (.newarray .int, 2) := by decide +kernel
theorem dX7_init_181 : decode cX7_init 181 = .ok (.putfield 49, 3) := by decide +kernel
theorem dX7_init_184 : decode cX7_init 184 = .ok (.aload_n 0, 1) := by decide +kernel
theorem dX7_init_185 : decode cX7_init 185 = .ok (.bipush 8, 2) := by decide +kernel
theorem dX7_init_187 : decode cX7_init 187 = .ok (.newarray .int, 2) := by decide +kernel
theorem dX7_init_189 : decode cX7_init 189 = .ok (.putfield 52, 3) := by decide +kernel
theorem dX7_init_192 : decode cX7_init 192 = .ok (.aload_n 0, 1) := by decide +kernel
theorem dX7_init_193 : decode cX7_init 193 = .ok (.bipush 8, 2) := by decide +kernel
theorem dX7_init_195 : decode cX7_init 195 = .ok (.newarray .boolean, 2) := by decide +kernel
theorem dX7_init_197 : decode cX7_init 197 = .ok (.putfield 55, 3) := by decide +kernel
theorem dX7_init_200 : decode cX7_init 200 = .ok (.aload_n 0, 1) := by decide +kernel
theorem dX7_init_201 : decode cX7_init 201 = .ok (.bipush 80, 2) := by decide +kernel
theorem dX7_init_203 : decode cX7_init 203 = .ok (.newarray .int, 2) := by decide +kernel
theorem dX7_init_205 : decode cX7_init 205 = .ok (.putfield 59, 3) := by decide +kernel
theorem dX7_init_208 : decode cX7_init 208 = .ok (.aload_n 0, 1) := by decide +kernel
theorem dX7_init_209 : decode cX7_init 209 = .ok (.sipush 300, 3) := by decide +kernel
theorem dX7_init_212 : decode cX7_init 212 = .ok (.newarray .int, 2) := by decide +kernel
theorem dX7_init_214 : decode cX7_init 214 = .ok (.putfield 62, 3) := by decide +kernel
theorem dX7_init_217 : decode cX7_init 217 = .ok (.aload_n 0, 1) := by decide +kernel
theorem dX7_init_218 : decode cX7_init 218 = .ok (.sipush 300, 3) := by decide +kernel
theorem dX7_init_221 : decode cX7_init 221 = .ok (.newarray .int, 2) := by decide +kernel
theorem dX7_init_223 : decode cX7_init 223 = .ok (.putfield 65, 3) := by decide +kernel
theorem dX7_init_226 : decode cX7_init 226 = .ok (.aload_n 0, 1) := by decide +kernel
theorem dX7_init_227 : decode cX7_init 227 = .ok (.sipush 300, 3) := by decide +kernel
theorem dX7_init_230 : decode cX7_init 230 = .ok (.newarray .int, 2) := by decide +kernel
theorem dX7_init_232 : decode cX7_init 232 = .ok (.putfield 68, 3) := by decide +kernel
theorem dX7_init_235 : decode cX7_init 235 = .ok (.aload_n 0, 1) := by decide +kernel
theorem dX7_init_236 : decode cX7_init 236 = .ok (.sipush 300, 3) := by decide +kernel
theorem dX7_init_239 : decode cX7_init 239 = .ok (.newarray .int, 2) := by decide +kernel
theorem dX7_init_241 : decode cX7_init 241 = .ok (.putfield 71, 3) := by decide +kernel
theorem dX7_init_244 : decode cX7_init 244 = .ok (.aload_n 0, 1) := by decide +kernel
theorem dX7_init_245 : decode cX7_init 245 = .ok (.sipush 300, 3) := by decide +kernel
theorem dX7_init_248 : decode cX7_init 248 = .ok (.newarray .int, 2) := by decide +kernel
theorem dX7_init_250 : decode cX7_init 250 = .ok (.putfield 74, 3) := by decide +kernel
theorem dX7_init_253 : decode cX7_init 253 = .ok (.aload_n 0, 1) := by decide +kernel
theorem dX7_init_254 : decode cX7_init 254 = .ok (.sipush 300, 3) := by decide +kernel
theorem dX7_init_257 : decode cX7_init 257 = .ok (.newarray .int, 2) := by decide +kernel
theorem dX7_init_259 : decode cX7_init 259 = .ok (.putfield 77, 3) := by decide +kernel
theorem dX7_init_262 : decode cX7_init 262 = .ok (.aload_n 0, 1) := by decide +kernel
theorem dX7_init_263 : decode cX7_init 263 = .ok (.sipush 300, 3) := by decide +kernel
theorem dX7_init_266 : decode cX7_init 266 = .ok (.newarray .int, 2) := by decide +kernel
theorem dX7_init_268 : decode cX7_init 268 = .ok (.putfield 80, 3) := by decide +kernel
theorem dX7_init_271 : decode cX7_init 271 = .ok (.aload_n 0, 1) := by decide +kernel
theorem dX7_init_272 : decode cX7_init 272 = .ok (.sipush 300, 3) := by decide +kernel
theorem dX7_init_275 : decode cX7_init 275 = .ok (.newarray .int, 2) := by decide +kernel
theorem dX7_init_277 : decode cX7_init 277 = .ok (.putfield 83, 3) := by decide +kernel
theorem dX7_init_280 : decode cX7_init 280 = .ok (.aload_n 0, 1) := by decide +kernel
theorem dX7_init_281 : decode cX7_init 281 = .ok (.sipush 300, 3) := by decide +kernel
theorem dX7_init_284 : decode cX7_init 284 = .ok (.newarray .int, 2) := by decide +kernel
theorem dX7_init_286 : decode cX7_init 286 = .ok (.putfield 86, 3) := by decide +kernel
theorem dX7_init_289 : decode cX7_init 289 = .ok (.aload_n 0, 1) := by decide +kernel
theorem dX7_init_290 : decode cX7_init 290 = .ok (.sipush 300, 3) := by decide +kernel
theorem dX7_init_293 : decode cX7_init 293 = .ok (.newarray .int, 2) := by decide +kernel
theorem dX7_init_295 : decode cX7_init 295 = .ok (.putfield 89, 3) := by decide +kernel
theorem dX7_init_298 : decode cX7_init 298 = .ok (.aload_n 0, 1) := by decide +kernel
theorem dX7_init_299 : decode cX7_init 299 = .ok (.sipush 300, 3) := by decide +kernel
theorem dX7_init_302 : decode cX7_init 302 = .ok (.newarray .int, 2) := by decide +kernel
theorem dX7_init_304 : decode cX7_init 304 = .ok (.putfield 92, 3) := by decide +kernel
theorem dX7_init_307 : decode cX7_init 307 = .ok (.aload_n 0, 1) := by decide +kernel
theorem dX7_init_308 : decode cX7_init 308 = .ok (.sipush 300, 3) := by decide +kernel
theorem dX7_init_311 : decode cX7_init 311 = .ok (.newarray .int, 2) := by decide +kernel
theorem dX7_init_313 : decode cX7_init 313 = .ok (.putfield 95, 3) := by decide +kernel
theorem dX7_init_316 : decode cX7_init 316 = .ok (.aload_n 0, 1) := by decide +kernel
theorem dX7_init_317 : decode cX7_init 317 = .ok (.sipush 200, 3) := by decide +kernel
theorem dX7_init_320 : decode cX7_init 320 = .ok (.newarray .byte, 2) := by decide +kernel
theorem dX7_init_322 : decode cX7_init 322 = .ok (.putfield 98, 3) := by decide +kernel
theorem dX7_init_325 : decode cX7_init 325 = .ok (.aload_n 0, 1) := by decide +kernel
theorem dX7_init_326 : decode cX7_init 326 = .ok (.bipush 30, 2) := by decide +kernel
theorem dX7_init_328 : decode cX7_init 328 = .ok (.newarray .int, 2) := by decide +kernel
theorem dX7_init_330 : decode cX7_init 330 = .ok (.putfield 102, 3) := by decide +kernel
theorem dX7_init_333 : decode cX7_init 333 = .ok (.aload_n 0, 1) := by decide +kernel
theorem dX7_init_334 : decode cX7_init 334 = .ok (.bipush 30, 2) := by decide +kernel
theorem dX7_init_336 : decode cX7_init 336 = .ok (.newarray .int, 2) := by decide +kernel
theorem dX7_init_338 : decode cX7_init 338 = .ok (.putfield 105, 3) := by decide +kernel
theorem dX7_init_341 : decode cX7_init 341 = .ok (.aload_n 0, 1) := by decide +kernel
theorem dX7_init_342 : decode cX7_init 342 = .ok (.bipush 31, 2) := by decide +kernel
theorem dX7_init_344 : decode cX7_init 344 = .ok (.newarray .int, 2) := by decide +kernel
theorem dX7_init_346 : decode cX7_init 346 = .ok (.putfield 108, 3) := by decide +kernel
theorem dX7_init_349 : decode cX7_init 349 = .ok (.aload_n 0, 1) := by decide +kernel
theorem dX7_init_350 : decode cX7_init 350 = .ok (.sipush 6200, 3) := by decide +kernel
theorem dX7_init_353 : decode cX7_init 353 = .ok (.newarray .int, 2) := by decide +kernel
theorem dX7_init_355 : decode cX7_init 355 = .ok (.putfield 111, 3) := by decide +kernel
theorem dX7_init_358 : decode cX7_init 358 = .ok (.aload_n 0, 1) := by decide +kernel
theorem dX7_init_359 : decode cX7_init 359 = .ok (.sipush 6200, 3) := by decide +kernel
theorem dX7_init_362 : decode cX7_init 362 = .ok (.newarray .int, 2) := by decide +kernel
theorem dX7_init_364 : decode cX7_init 364 = .ok (.putfield 114, 3) := by decide +kernel
theorem dX7_init_367 : decode cX7_init 367 = .ok (.aload_n 0, 1) := by decide +kernel
theorem dX7_init_368 : decode cX7_init 368 = .ok (.sipush 300, 3) := by decide +kernel
theorem dX7_init_371 : decode cX7_init 371 = .ok (.newarray .int, 2) := by decide +kernel
theorem dX7_init_373 : decode cX7_init 373 = .ok (.putfield 117, 3) := by decide +kernel
theorem dX7_init_376 : decode cX7_init 376 = .ok (.aload_n 0, 1) := by decide +kernel
theorem dX7_init_377 : decode cX7_init 377 = .ok (.sipush 200, 3) := by decide +kernel
theorem dX7_init_380 : decode cX7_init 380 = .ok (.newarray .int, 2) := by decide +kernel
theorem dX7_init_382 : decode cX7_init 382 = .ok (.putfield 120, 3) := by decide +kernel
theorem dX7_init_385 : decode cX7_init 385 = .ok (.aload_n 0, 1) := by decide +kernel
theorem dX7_init_386 : decode cX7_init 386 = .ok (.sipush 300, 3) := by decide +kernel
theorem dX7_init_389 : decode cX7_init 389 = .ok (.newarray .int, 2) := by decide +kernel
theorem dX7_init_391 : decode cX7_init 391 = .ok (.putfield 123, 3) := by decide +kernel
theorem dX7_init_394 : decode cX7_init 394 = .ok (.aload_n 0, 1) := by decide +kernel
theorem dX7_init_395 : decode cX7_init 395 = .ok (.sipush 300, 3) := by decide +kernel
theorem dX7_init_398 : decode cX7_init 398 = .ok (.newarray .boolean, 2) := by decide +kernel
theorem dX7_init_400 : decode cX7_init 400 = .ok (.putfield 126, 3) := by decide +kernel
theorem dX7_init_403 : decode cX7_init 403 = .ok (.return_, 1) := by decide +kernel
theorem dX7_in_0 : decode cX7_in 0 = .ok (.iload_n 0, 1) := by decide +kernel
theorem dX7_in_1 : decode cX7_in 1 = .ok (.iload_n 1, 1) := by decide +kernel
theorem dX7_in_2 : decode cX7_in 2 = .ok (.if_icmp .lt 12, 3) := by decide +kernel
theorem dX7_in_5 : decode cX7_in 5 = .ok (.iload_n 0, 1) := by decide +kernel
theorem dX7_in_6 : decode cX7_in 6 = .ok (.iload_n 2, 1) := by decide +kernel
theorem dX7_in_7 : decode cX7_in 7 = .ok (.if_icmp .gt 7, 3) := by decide +kernel
theorem dX7_in_10 : decode cX7_in 10 = .ok (.iconst 1, 1) := by decide +kernel
theorem dX7_in_11 : decode cX7_in 11 = .ok (.goto 4, 3) := by decide +kernel
theorem dX7_in_14 : decode cX7_in 14 = .ok (.iconst 0, 1) := by decide +kernel
theorem dX7_in_15 : decode cX7_in 15 = .ok (.ireturn, 1) := by decide +kernel
theorem dX7_isPerson_0 : decode cX7_isPerson 0 = .ok (.iload_n 0, 1) := by decide +kernel
theorem dX7_isPerson_1 : decode cX7_isPerson 1 = .ok (.iconst 0, 1) := by decide +kernel
theorem dX7_isPerson_2 : decode cX7_isPerson 2 = .ok (.bipush 9, 2) := by decide +kernel
theorem dX7_isPerson_4 : decode cX7_isPerson 4 = .ok (.invokestatic 133, 3) := by decide +kernel
theorem dX7_isPerson_7 : decode cX7_isPerson 7 = .ok (.ireturn, 1) := by decide +kernel
theorem dX7_isPort_0 : decode cX7_isPort 0 = .ok (.iload_n 1, 1) := by decide +kernel
theorem dX7_isPort_1 : decode cX7_isPort 1 = .ok (.iconst 0, 1) := by decide +kernel
theorem dX7_isPort_2 : decode cX7_isPort 2 = .ok (.aload_n 0, 1) := by decide +kernel
theorem dX7_isPort_3 : decode cX7_isPort 3 = .ok (.getfield 137, 3) := by decide +kernel
theorem dX7_isPort_6 : decode cX7_isPort 6 = .ok (.iconst 1, 1) := by decide +kernel
theorem dX7_isPort_7 : decode cX7_isPort 7 = .ok (.isub, 1) := by decide +kernel
theorem dX7_isPort_8 : decode cX7_isPort 8 = .ok (.invokestatic 133, 3) := by decide +kernel
theorem dX7_isPort_11 : decode cX7_isPort 11 = .ok (.ireturn, 1) := by decide +kernel
theorem dX7_isGalley_0 : decode cX7_isGalley 0 = .ok (.iload_n 1, 1) := by decide +kernel
theorem dX7_isGalley_1 : decode cX7_isGalley 1 = .ok (.iconst 0, 1) := by decide +kernel
theorem dX7_isGalley_2 : decode cX7_isGalley 2 = .ok (.aload_n 0, 1) := by decide +kernel
theorem dX7_isGalley_3 : decode cX7_isGalley 3 = .ok (.getfield 140, 3) := by decide +kernel
theorem dX7_isGalley_6 : decode cX7_isGalley 6 = .ok (.iconst 1, 1) := by decide +kernel
theorem dX7_isGalley_7 : decode cX7_isGalley 7 = .ok (.isub, 1) := by decide +kernel
theorem dX7_isGalley_8 : decode cX7_isGalley 8 = .ok (.invokestatic 133, 3) := by decide +kernel
theorem dX7_isGalley_11 : decode cX7_isGalley 11 = .ok (.ireturn, 1) := by decide +kernel
theorem dX7_isBale_0 : decode cX7_isBale 0 = .ok (.iload_n 1, 1) := by decide +kernel
theorem dX7_isBale_1 : decode cX7_isBale 1 = .ok (.iconst 0, 1) := by decide +kernel
theorem dX7_isBale_2 : decode cX7_isBale 2 = .ok (.aload_n 0, 1) := by decide +kernel
theorem dX7_isBale_3 : decode cX7_isBale 3 = .ok (.getfield 143, 3) := by decide +kernel
theorem dX7_isBale_6 : decode cX7_isBale 6 = .ok (.iconst 1, 1) := by decide +kernel
theorem dX7_isBale_7 : decode cX7_isBale 7 = .ok (.isub, 1) := by decide +kernel
theorem dX7_isBale_8 : decode cX7_isBale 8 = .ok (.invokestatic 133, 3) := by decide +kernel
theorem dX7_isBale_11 : decode cX7_isBale 11 = .ok (.ireturn, 1) := by decide +kernel
theorem dX7_purse_0 : decode cX7_purse 0 = .ok (.iload_n 1, 1) := by decide +kernel
theorem dX7_purse_1 : decode cX7_purse 1 = .ok (.invokestatic 146, 3) := by decide +kernel
theorem dX7_purse_4 : decode cX7_purse 4 = .ok (.ifCond .eq 13, 3) := by decide +kernel
theorem dX7_purse_7 : decode cX7_purse 7 = .ok (.iload_n 2, 1) := by decide +kernel
theorem dX7_purse_8 : decode cX7_purse 8 = .ok (.iconst 1, 1) := by decide +kernel
theorem dX7_purse_9 : decode cX7_purse 9 = .ok (.ldc 150, 2) := by decide +kernel
theorem dX7_purse_11 : decode cX7_purse 11 = .ok (.invokestatic 133, 3) := by decide +kernel
theorem dX7_purse_14 : decode cX7_purse 14 = .ok (.ifCond .ne 6, 3) := by decide +kernel
theorem dX7_purse_17 : decode cX7_purse 17 = .ok (.ldc 151, 2) := by decide +kernel
theorem dX7_purse_19 : decode cX7_purse 19 = .ok (.ireturn, 1) := by decide +kernel
theorem dX7_purse_20 : decode cX7_purse 20 = .ok (.aload_n 0, 1) := by decide +kernel
theorem dX7_purse_21 : decode cX7_purse 21 = .ok (.getfield 7, 3) := by decide +kernel
theorem dX7_purse_24 : decode cX7_purse 24 = .ok (.iload_n 1, 1) := by decide +kernel
theorem dX7_purse_25 : decode cX7_purse 25 = .ok (.dup2, 1) := by decide +kernel
theorem dX7_purse_26 : decode cX7_purse 26 = .ok (.iaload, 1) := by decide +kernel
theorem dX7_purse_27 : decode cX7_purse 27 = .ok (.iload_n 2, 1) := by decide +kernel
theorem dX7_purse_28 : decode cX7_purse 28 = .ok (.iadd, 1) := by decide +kernel
theorem dX7_purse_29 : decode cX7_purse 29 = .ok (.iastore, 1) := by decide +kernel
theorem dX7_purse_30 : decode cX7_purse 30 = .ok (.aload_n 0, 1) := by decide +kernel
theorem dX7_purse_31 : decode cX7_purse 31 = .ok (.dup, 1) := by decide +kernel
theorem dX7_purse_32 : decode cX7_purse 32 = .ok (.getfield 152, 3) := by decide +kernel
theorem dX7_purse_35 : decode cX7_purse 35 = .ok (.iload_n 2, 1) := by decide +kernel
theorem dX7_purse_36 : decode cX7_purse 36 = .ok (.iadd, 1) := by decide +kernel
theorem dX7_purse_37 : decode cX7_purse 37 = .ok (.putfield 152, 3) := by decide +kernel
theorem dX7_purse_40 : decode cX7_purse 40 = .ok (.aload_n 0, 1) := by decide +kernel
theorem dX7_purse_41 : decode cX7_purse 41 = .ok (.getfield 7, 3) := by decide +kernel
theorem dX7_purse_44 : decode cX7_purse 44 = .ok (.iload_n 1, 1) := by decide +kernel
theorem dX7_purse_45 : decode cX7_purse 45 = .ok (.iaload, 1) := by decide +kernel
theorem dX7_purse_46 : decode cX7_purse 46 = .ok (.ireturn, 1) := by decide +kernel
theorem dX7_port_0 : decode cX7_port 0 = .ok (.aload_n 0, 1) := by decide +kernel
theorem dX7_port_1 : decode cX7_port 1 = .ok (.getfield 137, 3) := by decide +kernel
theorem dX7_port_4 : decode cX7_port 4 = .ok (.ifCond .ne 10, 3) := by decide +kernel
theorem dX7_port_7 : decode cX7_port 7 = .ok (.iload_n 1, 1) := by decide +kernel
theorem dX7_port_8 : decode cX7_port 8 = .ok (.ifCond .eq 18, 3) := by decide +kernel
theorem dX7_port_11 : decode cX7_port 11 = .ok (.goto 13, 3) := by decide +kernel
theorem dX7_port_14 : decode cX7_port 14 = .ok (.iload_n 1, 1) := by decide +kernel
theorem dX7_port_15 : decode cX7_port 15 = .ok (.iconst 1, 1) := by decide +kernel
theorem dX7_port_16 : decode cX7_port 16 = .ok (.bipush 9, 2) := by decide +kernel
theorem dX7_port_18 : decode cX7_port 18 = .ok (.invokestatic 133, 3) := by decide +kernel
theorem dX7_port_21 : decode cX7_port 21 = .ok (.ifCond .ne 5, 3) := by decide +kernel
theorem dX7_port_24 : decode cX7_port 24 = .ok (.iconst (-1), 1) := by decide +kernel
theorem dX7_port_25 : decode cX7_port 25 = .ok (.ireturn, 1) := by decide +kernel
theorem dX7_port_26 : decode cX7_port 26 = .ok (.iconst 0, 1) := by decide +kernel
theorem dX7_port_27 : decode cX7_port 27 = .ok (.istore_n 2, 1) := by decide +kernel
theorem dX7_port_28 : decode cX7_port 28 = .ok (.iload_n 2, 1) := by decide +kernel
theorem dX7_port_29 : decode cX7_port 29 = .ok (.aload_n 0, 1) := by decide +kernel
theorem dX7_port_30 : decode cX7_port 30 = .ok (.getfield 140, 3) := by decide +kernel
theorem dX7_port_33 : decode cX7_port 33 = .ok (.if_icmp .ge 21, 3) := by decide +kernel
theorem dX7_port_36 : decode cX7_port 36 = .ok (.aload_n 0, 1) := by decide +kernel
theorem dX7_port_37 : decode cX7_port 37 = .ok (.getfield 34, 3) := by decide +kernel
theorem dX7_port_40 : decode cX7_port 40 = .ok (.iload_n 2, 1) := by decide +kernel
theorem dX7_port_41 : decode cX7_port 41 = .ok (.iaload, 1) := by decide +kernel
theorem dX7_port_42 : decode cX7_port 42 = .ok (.ifCond .eq 6, 3) := by decide +kernel
theorem dX7_port_45 : decode cX7_port 45 = .ok (.bipush (-2), 2) := by decide +kernel
theorem dX7_port_47 : decode cX7_port 47 = .ok (.ireturn, 1) := by decide +kernel
theorem dX7_port_48 : decode cX7_port 48 = .ok (.iinc 2 1, 3) := by decide +kernel
theorem dX7_port_51 : decode cX7_port 51 = .ok (.goto (-23), 3) := by decide +kernel
theorem dX7_port_54 : decode cX7_port 54 = .ok (.aload_n 0, 1) := by decide +kernel
theorem dX7_port_55 : decode cX7_port 55 = .ok (.getfield 137, 3) := by decide +kernel
theorem dX7_port_58 : decode cX7_port 58 = .ok (.bipush 12, 2) := by decide +kernel
theorem dX7_port_60 : decode cX7_port 60 = .ok (.if_icmp .ne 6, 3) := by decide +kernel
theorem dX7_port_63 : decode cX7_port 63 = .ok (.bipush (-3), 2) := by decide +kernel
theorem dX7_port_65 : decode cX7_port 65 = .ok (.ireturn, 1) := by decide +kernel
theorem dX7_port_66 : decode cX7_port 66 = .ok (.aload_n 0, 1) := by decide +kernel
theorem dX7_port_67 : decode cX7_port 67 = .ok (.getfield 13, 3) := by decide +kernel
theorem dX7_port_70 : decode cX7_port 70 = .ok (.aload_n 0, 1) := by decide +kernel
theorem dX7_port_71 : decode cX7_port 71 = .ok (.getfield 137, 3) := by decide +kernel
theorem dX7_port_74 : decode cX7_port 74 = .ok (.iload_n 1, 1) := by decide +kernel
theorem dX7_port_75 : decode cX7_port 75 = .ok (.iastore, 1) := by decide +kernel
theorem dX7_port_76 : decode cX7_port 76 = .ok (.aload_n 0, 1) := by decide +kernel
theorem dX7_port_77 : decode cX7_port 77 = .ok (.getfield 16, 3) := by decide +kernel
theorem dX7_port_80 : decode cX7_port 80 = .ok (.aload_n 0, 1) := by decide +kernel
theorem dX7_port_81 : decode cX7_port 81 = .ok (.getfield 137, 3) := by decide +kernel
theorem dX7_port_84 : decode cX7_port 84 = .ok (.aload_n 0, 1) := by decide +kernel
theorem dX7_port_85 : decode cX7_port 85 = .ok (.getfield 137, 3) := by decide +kernel
theorem dX7_port_88 : decode cX7_port 88 = .ok (.ifCond .ne 7, 3) := by decide +kernel
theorem dX7_port_91 : decode cX7_port 91 = .ok (.iconst 0, 1) := by decide +kernel
theorem dX7_port_92 : decode cX7_port 92 = .ok (.goto 16, 3) := by decide +kernel
theorem dX7_port_95 : decode cX7_port 95 = .ok (.aload_n 0, 1) := by decide +kernel
theorem dX7_port_96 : decode cX7_port 96 = .ok (.getfield 16, 3) := by decide +kernel
theorem dX7_port_99 : decode cX7_port 99 = .ok (.aload_n 0, 1) := by decide +kernel
theorem dX7_port_100 : decode cX7_port 100 = .ok (.getfield 137, 3) := by decide +kernel
theorem dX7_port_103 : decode cX7_port 103 = .ok (.iconst 1, 1) := by decide +kernel
theorem dX7_port_104 : decode cX7_port 104 = .ok (.isub, 1) := by decide +kernel
theorem dX7_port_105 : decode cX7_port 105 = .ok (.iaload, 1) := by decide +kernel
theorem dX7_port_106 : decode cX7_port 106 = .ok (.iload_n 1, 1) := by decide +kernel
theorem dX7_port_107 : decode cX7_port 107 = .ok (.iadd, 1) := by decide +kernel
theorem dX7_port_108 : decode cX7_port 108 = .ok (.iastore, 1) := by decide +kernel
theorem dX7_port_109 : decode cX7_port 109 = .ok (.aload_n 0, 1) := by decide +kernel
theorem dX7_port_110 : decode cX7_port 110 = .ok (.dup, 1) := by decide +kernel
theorem dX7_port_111 : decode cX7_port 111 = .ok (.getfield 137, 3) := by decide +kernel
theorem dX7_port_114 : decode cX7_port 114 = .ok (.iconst 1, 1) := by decide +kernel
theorem dX7_port_115 : decode cX7_port 115 = .ok (.iadd, 1) := by decide +kernel
theorem dX7_port_116 : decode cX7_port 116 = .ok (.putfield 137, 3) := by decide +kernel
theorem dX7_port_119 : decode cX7_port 119 = .ok (.aload_n 0, 1) := by decide +kernel
theorem dX7_port_120 : decode cX7_port 120 = .ok (.getfield 137, 3) := by decide +kernel
theorem dX7_port_123 : decode cX7_port 123 = .ok (.iconst 1, 1) := by decide +kernel
theorem dX7_port_124 : decode cX7_port 124 = .ok (.isub, 1) := by decide +kernel
theorem dX7_port_125 : decode cX7_port 125 = .ok (.ireturn, 1) := by decide +kernel
theorem dX7_wind_0 : decode cX7_wind 0 = .ok (.iload_n 1, 1) := by decide +kernel
theorem dX7_wind_1 : decode cX7_wind 1 = .ok (.iconst 0, 1) := by decide +kernel
theorem dX7_wind_2 : decode cX7_wind 2 = .ok (.bipush 29, 2) := by decide +kernel
theorem dX7_wind_4 : decode cX7_wind 4 = .ok (.invokestatic 133, 3) := by decide +kernel
theorem dX7_wind_7 : decode cX7_wind 7 = .ok (.ifCond .eq 14, 3) := by decide +kernel
theorem dX7_wind_10 : decode cX7_wind 10 = .ok (.iload_n 2, 1) := by decide +kernel
theorem dX7_wind_11 : decode cX7_wind 11 = .ok (.bipush (-9), 2) := by decide +kernel
theorem dX7_wind_13 : decode cX7_wind 13 = .ok (.bipush 9, 2) := by decide +kernel
theorem dX7_wind_15 : decode cX7_wind 15 = .ok (.invokestatic 133, 3) := by decide +kernel
theorem dX7_wind_18 : decode cX7_wind 18 = .ok (.ifCond .ne 6, 3) := by decide +kernel
theorem dX7_wind_21 : decode cX7_wind 21 = .ok (.bipush (-100), 2) := by decide +kernel
theorem dX7_wind_23 : decode cX7_wind 23 = .ok (.ireturn, 1) := by decide +kernel
theorem dX7_wind_24 : decode cX7_wind 24 = .ok (.aload_n 0, 1) := by decide +kernel
theorem dX7_wind_25 : decode cX7_wind 25 = .ok (.getfield 19, 3) := by decide +kernel
theorem dX7_wind_28 : decode cX7_wind 28 = .ok (.iload_n 1, 1) := by decide +kernel
theorem dX7_wind_29 : decode cX7_wind 29 = .ok (.iaload, 1) := by decide +kernel
theorem dX7_wind_30 : decode cX7_wind 30 = .ok (.istore_n 3, 1) := by decide +kernel
theorem dX7_wind_31 : decode cX7_wind 31 = .ok (.aload_n 0, 1) := by decide +kernel
theorem dX7_wind_32 : decode cX7_wind 32 = .ok (.getfield 19, 3) := by decide +kernel
theorem dX7_wind_35 : decode cX7_wind 35 = .ok (.iload_n 1, 1) := by decide +kernel
theorem dX7_wind_36 : decode cX7_wind 36 = .ok (.iload_n 2, 1) := by decide +kernel
theorem dX7_wind_37 : decode cX7_wind 37 = .ok (.iastore, 1) := by decide +kernel
theorem dX7_wind_38 : decode cX7_wind 38 = .ok (.iload_n 3, 1) := by decide +kernel
theorem dX7_wind_39 : decode cX7_wind 39 = .ok (.ireturn, 1) := by decide +kernel
theorem dX7_galley_0 : decode cX7_galley 0 = .ok (.iload_n 1, 1) := by decide +kernel
theorem dX7_galley_1 : decode cX7_galley 1 = .ok (.iconst 1, 1) := by decide +kernel
theorem dX7_galley_2 : decode cX7_galley 2 = .ok (.sipush 999, 3) := by decide +kernel
theorem dX7_galley_5 : decode cX7_galley 5 = .ok (.invokestatic 133, 3) := by decide +kernel
theorem dX7_galley_8 : decode cX7_galley 8 = .ok (.ifCond .eq 36, 3) := by decide +kernel
theorem dX7_galley_11 : decode cX7_galley 11 = .ok (.iload_n 2, 1) := by decide +kernel
theorem dX7_galley_12 : decode cX7_galley 12 = .ok (.iconst 1, 1) := by decide +kernel
theorem dX7_galley_13 : decode cX7_galley 13 = .ok (.sipush 9999, 3) := by decide +kernel
theorem dX7_galley_16 : decode cX7_galley 16 = .ok (.invokestatic 133, 3) := by decide +kernel
theorem dX7_galley_19 : decode cX7_galley 19 = .ok (.ifCond .eq 25, 3) := by decide +kernel
theorem dX7_galley_22 : decode cX7_galley 22 = .ok (.iload_n 3, 1) := by decide +kernel
theorem dX7_galley_23 : decode cX7_galley 23 = .ok (.iconst 1, 1) := by decide +kernel
theorem dX7_galley_24 : decode cX7_galley 24 = .ok (.bipush 9, 2) := by decide +kernel
theorem dX7_galley_26 : decode cX7_galley 26 = .ok (.invokestatic 133, 3) := by decide +kernel
theorem dX7_galley_29 : decode cX7_galley 29 = .ok (.ifCond .eq 15, 3) := by decide +kernel
theorem dX7_galley_32 : decode cX7_galley 32 = .ok (.iload 4, 2) := by decide +kernel
theorem dX7_galley_34 : decode cX7_galley 34 = .ok (.iconst 1, 1) := by decide +kernel
theorem dX7_galley_35 : decode cX7_galley 35 = .ok (.sipush 9999, 3) := by decide +kernel
theorem dX7_galley_38 : decode cX7_galley 38 = .ok (.invokestatic 133, 3) := by decide +kernel
theorem dX7_galley_41 : decode cX7_galley 41 = .ok (.ifCond .ne 5, 3) := by decide +kernel
theorem dX7_galley_44 : decode cX7_galley 44 = .ok (.iconst (-1), 1) := by decide +kernel
theorem dX7_galley_45 : decode cX7_galley 45 = .ok (.ireturn, 1) := by decide +kernel
theorem dX7_galley_46 : decode cX7_galley 46 = .ok (.aload_n 0, 1) := by decide +kernel
theorem dX7_galley_47 : decode cX7_galley 47 = .ok (.getfield 140, 3) := by decide +kernel
theorem dX7_galley_50 : decode cX7_galley 50 = .ok (.bipush 8, 2) := by decide +kernel
theorem dX7_galley_52 : decode cX7_galley 52 = .ok (.if_icmp .ne 6, 3) := by decide +kernel
theorem dX7_galley_55 : decode cX7_galley 55 = .ok (.bipush (-3), 2) := by decide +kernel
theorem dX7_galley_57 : decode cX7_galley 57 = .ok (.ireturn, 1) := by decide +kernel
theorem dX7_galley_58 : decode cX7_galley 58 = .ok (.aload_n 0, 1) := by decide +kernel
theorem dX7_galley_59 : decode cX7_galley 59 = .ok (.getfield 140, 3) := by decide +kernel
theorem dX7_galley_62 : decode cX7_galley 62 = .ok (.istore 5, 2) := by decide +kernel
theorem dX7_galley_64 : decode cX7_galley 64 = .ok (.aload_n 0, 1) := by decide +kernel
theorem dX7_galley_65 : decode cX7_galley 65 = .ok (.getfield 22, 3) := by decide +kernel
theorem dX7_galley_68 : decode cX7_galley 68 = .ok (.iload 5, 2) := by decide +kernel
theorem dX7_galley_70 : decode cX7_galley 70 = .ok (.iload_n 1, 1) := by decide +kernel
theorem dX7_galley_71 : decode cX7_galley 71 = .ok (.iastore, 1) := by decide +kernel
theorem dX7_galley_72 : decode cX7_galley 72 = .ok (.aload_n 0, 1) := by decide +kernel
theorem dX7_galley_73 : decode cX7_galley 73 = .ok (.getfield 25, 3) := by decide +kernel
theorem dX7_galley_76 : decode cX7_galley 76 = .ok (.iload 5, 2) := by decide +kernel
theorem dX7_galley_78 : decode cX7_galley 78 = .ok (.iload_n 2, 1) := by decide +kernel
theorem dX7_galley_79 : decode cX7_galley 79 = .ok (.iastore, 1) := by decide +kernel
theorem dX7_galley_80 : decode cX7_galley 80 = .ok (.aload_n 0, 1) := by decide +kernel
theorem dX7_galley_81 : decode cX7_galley 81 = .ok (.getfield 28, 3) := by decide +kernel
theorem dX7_galley_84 : decode cX7_galley 84 = .ok (.iload 5, 2) := by decide +kernel
theorem dX7_galley_86 : decode cX7_galley 86 = .ok (.iload_n 3, 1) := by decide +kernel
theorem dX7_galley_87 : decode cX7_galley 87 = .ok (.iastore, 1) := by decide +kernel
theorem dX7_galley_88 : decode cX7_galley 88 = .ok (.aload_n 0, 1) := by decide +kernel
theorem dX7_galley_89 : decode cX7_galley 89 = .ok (.getfield 31, 3) := by decide +kernel
theorem dX7_galley_92 : decode cX7_galley 92 = .ok (.iload 5, 2) := by decide +kernel
theorem dX7_galley_94 : decode cX7_galley 94 = .ok (.iload 4, 2) := by decide +kernel
theorem dX7_galley_96 : decode cX7_galley 96 = .ok (.iastore, 1) := by decide +kernel
theorem dX7_galley_97 : decode cX7_galley 97 = .ok (.aload_n 0, 1) := by decide +kernel
theorem dX7_galley_98 : decode cX7_galley 98 = .ok (.dup, 1) := by decide +kernel
theorem dX7_galley_99 : decode cX7_galley 99 = .ok (.getfield 140, 3) := by decide +kernel
theorem dX7_galley_102 : decode cX7_galley 102 = .ok (.iconst 1, 1) := by decide +kernel
theorem dX7_galley_103 : decode cX7_galley 103 = .ok (.iadd, 1) := by decide +kernel
theorem dX7_galley_104 : decode cX7_galley 104 = .ok (.putfield 140, 3) := by decide +kernel
theorem dX7_galley_107 : decode cX7_galley 107 = .ok (.iload 5, 2) := by decide +kernel
theorem dX7_galley_109 : decode cX7_galley 109 = .ok (.ireturn, 1) := by decide +kernel
theorem dX7_bid_0 : decode cX7_bid 0 = .ok (.aload_n 0, 1) := by decide +kernel
theorem dX7_bid_1 : decode cX7_bid 1 = .ok (.iload_n 1, 1) := by decide +kernel
theorem dX7_bid_2 : decode cX7_bid 2 = .ok (.invokevirtual 155, 3) := by decide +kernel
theorem dX7_bid_5 : decode cX7_bid 5 = .ok (.ifCond .eq 20, 3) := by decide +kernel
theorem dX7_bid_8 : decode cX7_bid 8 = .ok (.iload_n 2, 1) := by decide +kernel
theorem dX7_bid_9 : decode cX7_bid 9 = .ok (.invokestatic 146, 3) := by decide +kernel
theorem dX7_bid_12 : decode cX7_bid 12 = .ok (.ifCond .eq 13, 3) := by decide +kernel
theorem dX7_bid_15 : decode cX7_bid 15 = .ok (.iload_n 3, 1) := by decide +kernel
theorem dX7_bid_16 : decode cX7_bid 16 = .ok (.iconst 1, 1) := by decide +kernel
theorem dX7_bid_17 : decode cX7_bid 17 = .ok (.ldc 158, 2) := by decide +kernel
theorem dX7_bid_19 : decode cX7_bid 19 = .ok (.invokestatic 133, 3) := by decide +kernel
theorem dX7_bid_22 : decode cX7_bid 22 = .ok (.ifCond .ne 5, 3) := by decide +kernel
theorem dX7_bid_25 : decode cX7_bid 25 = .ok (.iconst (-1), 1) := by decide +kernel
theorem dX7_bid_26 : decode cX7_bid 26 = .ok (.ireturn, 1) := by decide +kernel
theorem dX7_bid_27 : decode cX7_bid 27 = .ok (.aload_n 0, 1) := by decide +kernel
theorem dX7_bid_28 : decode cX7_bid 28 = .ok (.getfield 55, 3) := by decide +kernel
theorem dX7_bid_31 : decode cX7_bid 31 = .ok (.iload_n 1, 1) := by decide +kernel
theorem dX7_bid_32 : decode cX7_bid 32 = .ok (.baload, 1) := by decide +kernel
theorem dX7_bid_33 : decode cX7_bid 33 = .ok (.ifCond .ne 23, 3) := by decide +kernel
theorem dX7_bid_36 : decode cX7_bid 36 = .ok (.iload_n 3, 1) := by decide +kernel
theorem dX7_bid_37 : decode cX7_bid 37 = .ok (.aload_n 0, 1) := by decide +kernel
theorem dX7_bid_38 : decode cX7_bid 38 = .ok (.getfield 49, 3) := by decide +kernel
theorem dX7_bid_41 : decode cX7_bid 41 = .ok (.iload_n 1, 1) := by decide +kernel
theorem dX7_bid_42 : decode cX7_bid 42 = .ok (.iaload, 1) := by decide +kernel
theorem dX7_bid_43 : decode cX7_bid 43 = .ok (.if_icmp .le 13, 3) := by decide +kernel
theorem dX7_bid_46 : decode cX7_bid 46 = .ok (.aload_n 0, 1) := by decide +kernel
theorem dX7_bid_47 : decode cX7_bid 47 = .ok (.getfield 7, 3) := by decide +kernel
theorem dX7_bid_50 : decode cX7_bid 50 = .ok (.iload_n 2, 1) := by decide +kernel
theorem dX7_bid_51 : decode cX7_bid 51 = .ok (.iaload, 1) := by decide +kernel
theorem dX7_bid_52 : decode cX7_bid 52 = .ok (.iload_n 3, 1) := by decide +kernel
theorem dX7_bid_53 : decode cX7_bid 53 = .ok (.if_icmp .ge 6, 3) := by decide +kernel
theorem dX7_bid_56 : decode cX7_bid 56 = .ok (.bipush (-2), 2) := by decide +kernel
theorem dX7_bid_58 : decode cX7_bid 58 = .ok (.ireturn, 1) := by decide +kernel
theorem dX7_bid_59 : decode cX7_bid 59 = .ok (.aload_n 0, 1) := by decide +kernel
theorem dX7_bid_60 : decode cX7_bid 60 = .ok (.getfield 49, 3) := by decide +kernel
theorem dX7_bid_63 : decode cX7_bid 63 = .ok (.iload_n 1, 1) := by decide +kernel
theorem dX7_bid_64 : decode cX7_bid 64 = .ok (.iload_n 3, 1) := by decide +kernel
theorem dX7_bid_65 : decode cX7_bid 65 = .ok (.iastore, 1) := by decide +kernel
theorem dX7_bid_66 : decode cX7_bid 66 = .ok (.aload_n 0, 1) := by decide +kernel
theorem dX7_bid_67 : decode cX7_bid 67 = .ok (.getfield 52, 3) := by decide +kernel
theorem dX7_bid_70 : decode cX7_bid 70 = .ok (.iload_n 1, 1) := by decide +kernel
theorem dX7_bid_71 : decode cX7_bid 71 = .ok (.iload_n 2, 1) := by decide +kernel
theorem dX7_bid_72 : decode cX7_bid 72 = .ok (.iastore, 1) := by decide +kernel
theorem dX7_bid_73 : decode cX7_bid 73 = .ok (.iconst 1, 1) := by decide +kernel
theorem dX7_bid_74 : decode cX7_bid 74 = .ok (.ireturn, 1) := by decide +kernel
theorem dX7_let_0 : decode cX7_let 0 = .ok (.aload_n 0, 1) := by decide +kernel
theorem dX7_let_1 : decode cX7_let 1 = .ok (.iload_n 1, 1) := by decide +kernel
theorem dX7_let_2 : decode cX7_let 2 = .ok (.invokevirtual 155, 3) := by decide +kernel
theorem dX7_let_5 : decode cX7_let 5 = .ok (.ifCond .ne 5, 3) := by decide +kernel
theorem dX7_let_8 : decode cX7_let 8 = .ok (.iconst (-1), 1) := by decide +kernel
theorem dX7_let_9 : decode cX7_let 9 = .ok (.ireturn, 1) := by decide +kernel
theorem dX7_let_10 : decode cX7_let 10 = .ok (.aload_n 0, 1) := by decide +kernel
theorem dX7_let_11 : decode cX7_let 11 = .ok (.getfield 55, 3) := by decide +kernel
theorem dX7_let_14 : decode cX7_let 14 = .ok (.iload_n 1, 1) := by decide +kernel
theorem dX7_let_15 : decode cX7_let 15 = .ok (.baload, 1) := by decide +kernel
theorem dX7_let_16 : decode cX7_let 16 = .ok (.ifCond .ne 12, 3) := by decide +kernel
theorem dX7_let_19 : decode cX7_let 19 = .ok (.aload_n 0, 1) := by decide +kernel
theorem dX7_let_20 : decode cX7_let 20 = .ok (.getfield 49, 3) := by decide +kernel
theorem dX7_let_23 : decode cX7_let 23 = .ok (.iload_n 1, 1) := by decide +kernel
theorem dX7_let_24 : decode cX7_let 24 = .ok (.iaload, 1) := by decide +kernel
theorem dX7_let_25 : decode cX7_let 25 = .ok (.ifCond .ne 6, 3) := by decide +kernel
theorem dX7_let_28 : decode cX7_let 28 = .ok (.bipush (-2), 2) := by decide +kernel
theorem dX7_let_30 : decode cX7_let 30 = .ok (.ireturn, 1) := by decide +kernel
theorem dX7_let_31 : decode cX7_let 31 = .ok (.aload_n 0, 1) := by decide +kernel
theorem dX7_let_32 : decode cX7_let 32 = .ok (.getfield 52, 3) := by decide +kernel
theorem dX7_let_35 : decode cX7_let 35 = .ok (.iload_n 1, 1) := by decide +kernel
theorem dX7_let_36 : decode cX7_let 36 = .ok (.iaload, 1) := by decide +kernel
theorem dX7_let_37 : decode cX7_let 37 = .ok (.istore_n 2, 1) := by decide +kernel
theorem dX7_let_38 : decode cX7_let 38 = .ok (.aload_n 0, 1) := by decide +kernel
theorem dX7_let_39 : decode cX7_let 39 = .ok (.getfield 7, 3) := by decide +kernel
theorem dX7_let_42 : decode cX7_let 42 = .ok (.iload_n 2, 1) := by decide +kernel
theorem dX7_let_43 : decode cX7_let 43 = .ok (.iaload, 1) := by decide +kernel
theorem dX7_let_44 : decode cX7_let 44 = .ok (.aload_n 0, 1) := by decide +kernel
theorem dX7_let_45 : decode cX7_let 45 = .ok (.getfield 49, 3) := by decide +kernel
theorem dX7_let_48 : decode cX7_let 48 = .ok (.iload_n 1, 1) := by decide +kernel
theorem dX7_let_49 : decode cX7_let 49 = .ok (.iaload, 1) := by decide +kernel
theorem dX7_let_50 : decode cX7_let 50 = .ok (.if_icmp .ge 13, 3) := by decide +kernel
theorem dX7_let_53 : decode cX7_let 53 = .ok (.aload_n 0, 1) := by decide +kernel
theorem dX7_let_54 : decode cX7_let 54 = .ok (.getfield 49, 3) := by decide +kernel
theorem dX7_let_57 : decode cX7_let 57 = .ok (.iload_n 1, 1) := by decide +kernel
theorem dX7_let_58 : decode cX7_let 58 = .ok (.iconst 0, 1) := by decide +kernel
theorem dX7_let_59 : decode cX7_let 59 = .ok (.iastore, 1) := by decide +kernel
theorem dX7_let_60 : decode cX7_let 60 = .ok (.bipush (-2), 2) := by decide +kernel
theorem dX7_let_62 : decode cX7_let 62 = .ok (.ireturn, 1) := by decide +kernel
theorem dX7_let_63 : decode cX7_let 63 = .ok (.aload_n 0, 1) := by decide +kernel
theorem dX7_let_64 : decode cX7_let 64 = .ok (.getfield 7, 3) := by decide +kernel
theorem dX7_let_67 : decode cX7_let 67 = .ok (.iload_n 2, 1) := by decide +kernel
theorem dX7_let_68 : decode cX7_let 68 = .ok (.dup2, 1) := by decide +kernel
theorem dX7_let_69 : decode cX7_let 69 = .ok (.iaload, 1) := by decide +kernel
theorem dX7_let_70 : decode cX7_let 70 = .ok (.aload_n 0, 1) := by decide +kernel
theorem dX7_let_71 : decode cX7_let 71 = .ok (.getfield 49, 3) := by decide +kernel
theorem dX7_let_74 : decode cX7_let 74 = .ok (.iload_n 1, 1) := by decide +kernel
theorem dX7_let_75 : decode cX7_let 75 = .ok (.iaload, 1) := by decide +kernel
theorem dX7_let_76 : decode cX7_let 76 = .ok (.isub, 1) := by decide +kernel
theorem dX7_let_77 : decode cX7_let 77 = .ok (.iastore, 1) := by decide +kernel
theorem dX7_let_78 : decode cX7_let 78 = .ok (.aload_n 0, 1) := by decide +kernel
theorem dX7_let_79 : decode cX7_let 79 = .ok (.dup, 1) := by decide +kernel
theorem dX7_let_80 : decode cX7_let 80 = .ok (.getfield 159, 3) := by decide +kernel
theorem dX7_let_83 : decode cX7_let 83 = .ok (.aload_n 0, 1) := by decide +kernel
theorem dX7_let_84 : decode cX7_let 84 = .ok (.getfield 49, 3) := by decide +kernel
theorem dX7_let_87 : decode cX7_let 87 = .ok (.iload_n 1, 1) := by decide +kernel
theorem dX7_let_88 : decode cX7_let 88 = .ok (.iaload, 1) := by decide +kernel
theorem dX7_let_89 : decode cX7_let 89 = .ok (.iadd, 1) := by decide +kernel
theorem dX7_let_90 : decode cX7_let 90 = .ok (.putfield 159, 3) := by decide +kernel
theorem dX7_let_93 : decode cX7_let 93 = .ok (.aload_n 0, 1) := by decide +kernel
theorem dX7_let_94 : decode cX7_let 94 = .ok (.getfield 55, 3) := by decide +kernel
theorem dX7_let_97 : decode cX7_let 97 = .ok (.iload_n 1, 1) := by decide +kernel
theorem dX7_let_98 : decode cX7_let 98 = .ok (.iconst 1, 1) := by decide +kernel
theorem dX7_let_99 : decode cX7_let 99 = .ok (.bastore, 1) := by decide +kernel
theorem dX7_let_100 : decode cX7_let 100 = .ok (.aload_n 0, 1) := by decide +kernel
theorem dX7_let_101 : decode cX7_let 101 = .ok (.getfield 59, 3) := by decide +kernel
theorem dX7_let_104 : decode cX7_let 104 = .ok (.bipush 10, 2) := by decide +kernel
theorem dX7_let_106 : decode cX7_let 106 = .ok (.iload_n 1, 1) := by decide +kernel
theorem dX7_let_107 : decode cX7_let 107 = .ok (.imul, 1) := by decide +kernel
theorem dX7_let_108 : decode cX7_let 108 = .ok (.iload_n 2, 1) := by decide +kernel
theorem dX7_let_109 : decode cX7_let 109 = .ok (.iadd, 1) := by decide +kernel
theorem dX7_let_110 : decode cX7_let 110 = .ok (.bipush 24, 2) := by decide +kernel
theorem dX7_let_112 : decode cX7_let 112 = .ok (.iastore, 1) := by decide +kernel
theorem dX7_let_113 : decode cX7_let 113 = .ok (.iload_n 2, 1) := by decide +kernel
theorem dX7_let_114 : decode cX7_let 114 = .ok (.ireturn, 1) := by decide +kernel
theorem dX7_part_0 : decode cX7_part 0 = .ok (.aload_n 0, 1) := by decide +kernel
theorem dX7_part_1 : decode cX7_part 1 = .ok (.iload_n 1, 1) := by decide +kernel
theorem dX7_part_2 : decode cX7_part 2 = .ok (.invokevirtual 155, 3) := by decide +kernel
theorem dX7_part_5 : decode cX7_part 5 = .ok (.ifCond .eq 33, 3) := by decide +kernel
theorem dX7_part_8 : decode cX7_part 8 = .ok (.iload_n 2, 1) := by decide +kernel
theorem dX7_part_9 : decode cX7_part 9 = .ok (.invokestatic 146, 3) := by decide +kernel
theorem dX7_part_12 : decode cX7_part 12 = .ok (.ifCond .eq 26, 3) := by decide +kernel
theorem dX7_part_15 : decode cX7_part 15 = .ok (.iload_n 3, 1) := by decide +kernel
theorem dX7_part_16 : decode cX7_part 16 = .ok (.invokestatic 146, 3) := by decide +kernel
theorem dX7_part_19 : decode cX7_part 19 = .ok (.ifCond .eq 19, 3) := by decide +kernel
theorem dX7_part_22 : decode cX7_part 22 = .ok (.iload_n 2, 1) := by decide +kernel
theorem dX7_part_23 : decode cX7_part 23 = .ok (.iload_n 3, 1) := by decide +kernel
theorem dX7_part_24 : decode cX7_part 24 = .ok (.if_icmp .eq 14, 3) := by decide +kernel
theorem dX7_part_27 : decode cX7_part 27 = .ok (.iload 4, 2) := by decide +kernel
theorem dX7_part_29 : decode cX7_part 29 = .ok (.iconst 1, 1) := by decide +kernel
theorem dX7_part_30 : decode cX7_part 30 = .ok (.bipush 24, 2) := by decide +kernel
theorem dX7_part_32 : decode cX7_part 32 = .ok (.invokestatic 133, 3) := by decide +kernel
theorem dX7_part_35 : decode cX7_part 35 = .ok (.ifCond .ne 5, 3) := by decide +kernel
theorem dX7_part_38 : decode cX7_part 38 = .ok (.iconst (-1), 1) := by decide +kernel
theorem dX7_part_39 : decode cX7_part 39 = .ok (.ireturn, 1) := by decide +kernel
theorem dX7_part_40 : decode cX7_part 40 = .ok (.aload_n 0, 1) := by decide +kernel
theorem dX7_part_41 : decode cX7_part 41 = .ok (.getfield 59, 3) := by decide +kernel
theorem dX7_part_44 : decode cX7_part 44 = .ok (.bipush 10, 2) := by decide +kernel
theorem dX7_part_46 : decode cX7_part 46 = .ok (.iload_n 1, 1) := by decide +kernel
theorem dX7_part_47 : decode cX7_part 47 = .ok (.imul, 1) := by decide +kernel
theorem dX7_part_48 : decode cX7_part 48 = .ok (.iload_n 2, 1) := by decide +kernel
theorem dX7_part_49 : decode cX7_part 49 = .ok (.iadd, 1) := by decide +kernel
theorem dX7_part_50 : decode cX7_part 50 = .ok (.iaload, 1) := by decide +kernel
theorem dX7_part_51 : decode cX7_part 51 = .ok (.iload 4, 2) := by decide +kernel
theorem dX7_part_53 : decode cX7_part 53 = .ok (.if_icmp .ge 6, 3) := by decide +kernel
theorem dX7_part_56 : decode cX7_part 56 = .ok (.bipush (-2), 2) := by decide +kernel
theorem dX7_part_58 : decode cX7_part 58 = .ok (.ireturn, 1) := by decide +kernel
theorem dX7_part_59 : decode cX7_part 59 = .ok (.aload_n 0, 1) := by decide +kernel
theorem dX7_part_60 : decode cX7_part 60 = .ok (.getfield 59, 3) := by decide +kernel
theorem dX7_part_63 : decode cX7_part 63 = .ok (.bipush 10, 2) := by decide +kernel
theorem dX7_part_65 : decode cX7_part 65 = .ok (.iload_n 1, 1) := by decide +kernel
theorem dX7_part_66 : decode cX7_part 66 = .ok (.imul, 1) := by decide +kernel
theorem dX7_part_67 : decode cX7_part 67 = .ok (.iload_n 2, 1) := by decide +kernel
theorem dX7_part_68 : decode cX7_part 68 = .ok (.iadd, 1) := by decide +kernel
theorem dX7_part_69 : decode cX7_part 69 = .ok (.dup2, 1) := by decide +kernel
theorem dX7_part_70 : decode cX7_part 70 = .ok (.iaload, 1) := by decide +kernel
theorem dX7_part_71 : decode cX7_part 71 = .ok (.iload 4, 2) := by decide +kernel
theorem dX7_part_73 : decode cX7_part 73 = .ok (.isub, 1) := by decide +kernel
theorem dX7_part_74 : decode cX7_part 74 = .ok (.iastore, 1) := by decide +kernel
theorem dX7_part_75 : decode cX7_part 75 = .ok (.aload_n 0, 1) := by decide +kernel
theorem dX7_part_76 : decode cX7_part 76 = .ok (.getfield 59, 3) := by decide +kernel
theorem dX7_part_79 : decode cX7_part 79 = .ok (.bipush 10, 2) := by decide +kernel
theorem dX7_part_81 : decode cX7_part 81 = .ok (.iload_n 1, 1) := by decide +kernel
theorem dX7_part_82 : decode cX7_part 82 = .ok (.imul, 1) := by decide +kernel
theorem dX7_part_83 : decode cX7_part 83 = .ok (.iload_n 3, 1) := by decide +kernel
theorem dX7_part_84 : decode cX7_part 84 = .ok (.iadd, 1) := by decide +kernel
theorem dX7_part_85 : decode cX7_part 85 = .ok (.dup2, 1) := by decide +kernel
theorem dX7_part_86 : decode cX7_part 86 = .ok (.iaload, 1) := by decide +kernel
theorem dX7_part_87 : decode cX7_part 87 = .ok (.iload 4, 2) := by decide +kernel
theorem dX7_part_89 : decode cX7_part 89 = .ok (.iadd, 1) := by decide +kernel
theorem dX7_part_90 : decode cX7_part 90 = .ok (.iastore, 1) := by decide +kernel
theorem dX7_part_91 : decode cX7_part 91 = .ok (.aload_n 0, 1) := by decide +kernel
theorem dX7_part_92 : decode cX7_part 92 = .ok (.getfield 59, 3) := by decide +kernel
theorem dX7_part_95 : decode cX7_part 95 = .ok (.bipush 10, 2) := by decide +kernel
theorem dX7_part_97 : decode cX7_part 97 = .ok (.iload_n 1, 1) := by decide +kernel
theorem dX7_part_98 : decode cX7_part 98 = .ok (.imul, 1) := by decide +kernel
theorem dX7_part_99 : decode cX7_part 99 = .ok (.iload_n 3, 1) := by decide +kernel
theorem dX7_part_100 : decode cX7_part 100 = .ok (.iadd, 1) := by decide +kernel
theorem dX7_part_101 : decode cX7_part 101 = .ok (.iaload, 1) := by decide +kernel
theorem dX7_part_102 : decode cX7_part 102 = .ok (.ireturn, 1) := by decide +kernel
theorem dX7_parts_0 : decode cX7_parts 0 = .ok (.aload_n 0, 1) := by decide +kernel
theorem dX7_parts_1 : decode cX7_parts 1 = .ok (.iload_n 1, 1) := by decide +kernel
theorem dX7_parts_2 : decode cX7_parts 2 = .ok (.invokevirtual 155, 3) := by decide +kernel
theorem dX7_parts_5 : decode cX7_parts 5 = .ok (.ifCond .eq 15, 3) := by decide +kernel
theorem dX7_parts_8 : decode cX7_parts 8 = .ok (.iload_n 2, 1) := by decide +kernel
theorem dX7_parts_9 : decode cX7_parts 9 = .ok (.iconst (-1), 1) := by decide +kernel
theorem dX7_parts_10 : decode cX7_parts 10 = .ok (.if_icmp .eq 12, 3) := by decide +kernel
theorem dX7_parts_13 : decode cX7_parts 13 = .ok (.iload_n 2, 1) := by decide +kernel
theorem dX7_parts_14 : decode cX7_parts 14 = .ok (.invokestatic 146, 3) := by decide +kernel
theorem dX7_parts_17 : decode cX7_parts 17 = .ok (.ifCond .ne 5, 3) := by decide +kernel
theorem dX7_parts_20 : decode cX7_parts 20 = .ok (.iconst (-1), 1) := by decide +kernel
theorem dX7_parts_21 : decode cX7_parts 21 = .ok (.ireturn, 1) := by decide +kernel
theorem dX7_parts_22 : decode cX7_parts 22 = .ok (.iload_n 2, 1) := by decide +kernel
theorem dX7_parts_23 : decode cX7_parts 23 = .ok (.ifCond .lt 15, 3) := by decide +kernel
theorem dX7_parts_26 : decode cX7_parts 26 = .ok (.aload_n 0, 1) := by decide +kernel
theorem dX7_parts_27 : decode cX7_parts 27 = .ok (.getfield 59, 3) := by decide +kernel
theorem dX7_parts_30 : decode cX7_parts 30 = .ok (.bipush 10, 2) := by decide +kernel
theorem dX7_parts_32 : decode cX7_parts 32 = .ok (.iload_n 1, 1) := by decide +kernel
theorem dX7_parts_33 : decode cX7_parts 33 = .ok (.imul, 1) := by decide +kernel
theorem dX7_parts_34 : decode cX7_parts 34 = .ok (.iload_n 2, 1) := by decide +kernel
theorem dX7_parts_35 : decode cX7_parts 35 = .ok (.iadd, 1) := by decide +kernel
theorem dX7_parts_36 : decode cX7_parts 36 = .ok (.iaload, 1) := by decide +kernel
theorem dX7_parts_37 : decode cX7_parts 37 = .ok (.ireturn, 1) := by decide +kernel
theorem dX7_parts_38 : decode cX7_parts 38 = .ok (.bipush 24, 2) := by decide +kernel
theorem dX7_parts_40 : decode cX7_parts 40 = .ok (.istore_n 3, 1) := by decide +kernel
theorem dX7_parts_41 : decode cX7_parts 41 = .ok (.iconst 0, 1) := by decide +kernel
theorem dX7_parts_42 : decode cX7_parts 42 = .ok (.istore 4, 2) := by decide +kernel
theorem dX7_parts_44 : decode cX7_parts 44 = .ok (.iload 4, 2) := by decide +kernel
theorem dX7_parts_46 : decode cX7_parts 46 = .ok (.bipush 10, 2) := by decide +kernel
theorem dX7_parts_48 : decode cX7_parts 48 = .ok (.if_icmp .ge 24, 3) := by decide +kernel
theorem dX7_parts_51 : decode cX7_parts 51 = .ok (.iload_n 3, 1) := by decide +kernel
theorem dX7_parts_52 : decode cX7_parts 52 = .ok (.aload_n 0, 1) := by decide +kernel
theorem dX7_parts_53 : decode cX7_parts 53 = .ok (.getfield 59, 3) := by decide +kernel
theorem dX7_parts_56 : decode cX7_parts 56 = .ok (.bipush 10, 2) := by decide +kernel
theorem dX7_parts_58 : decode cX7_parts 58 = .ok (.iload_n 1, 1) := by decide +kernel
theorem dX7_parts_59 : decode cX7_parts 59 = .ok (.imul, 1) := by decide +kernel
theorem dX7_parts_60 : decode cX7_parts 60 = .ok (.iload 4, 2) := by decide +kernel
theorem dX7_parts_62 : decode cX7_parts 62 = .ok (.iadd, 1) := by decide +kernel
theorem dX7_parts_63 : decode cX7_parts 63 = .ok (.iaload, 1) := by decide +kernel
theorem dX7_parts_64 : decode cX7_parts 64 = .ok (.isub, 1) := by decide +kernel
theorem dX7_parts_65 : decode cX7_parts 65 = .ok (.istore_n 3, 1) := by decide +kernel
theorem dX7_parts_66 : decode cX7_parts 66 = .ok (.iinc 4 1, 3) := by decide +kernel
theorem dX7_parts_69 : decode cX7_parts 69 = .ok (.goto (-25), 3) := by decide +kernel
theorem dX7_parts_72 : decode cX7_parts 72 = .ok (.iload_n 3, 1) := by decide +kernel
theorem dX7_parts_73 : decode cX7_parts 73 = .ok (.ireturn, 1) := by decide +kernel
theorem dX7_bale_0 : decode cX7_bale 0 = .ok (.iload_n 1, 1) := by decide +kernel
theorem dX7_bale_1 : decode cX7_bale 1 = .ok (.invokestatic 146, 3) := by decide +kernel
theorem dX7_bale_4 : decode cX7_bale 4 = .ok (.ifCond .eq 16, 3) := by decide +kernel
theorem dX7_bale_7 : decode cX7_bale 7 = .ok (.iload_n 2, 1) := by decide +kernel
theorem dX7_bale_8 : decode cX7_bale 8 = .ok (.ifCond .lt 12, 3) := by decide +kernel
theorem dX7_bale_11 : decode cX7_bale 11 = .ok (.iload_n 3, 1) := by decide +kernel
theorem dX7_bale_12 : decode cX7_bale 12 = .ok (.ifCond .lt 8, 3) := by decide +kernel
theorem dX7_bale_15 : decode cX7_bale 15 = .ok (.iload 4, 2) := by decide +kernel
theorem dX7_bale_17 : decode cX7_bale 17 = .ok (.ifCond .ge 5, 3) := by decide +kernel
theorem dX7_bale_20 : decode cX7_bale 20 = .ok (.iconst (-1), 1) := by decide +kernel
theorem dX7_bale_21 : decode cX7_bale 21 = .ok (.ireturn, 1) := by decide +kernel
theorem dX7_bale_22 : decode cX7_bale 22 = .ok (.iload_n 2, 1) := by decide +kernel
theorem dX7_bale_23 : decode cX7_bale 23 = .ok (.bipush 100, 2) := by decide +kernel
theorem dX7_bale_25 : decode cX7_bale 25 = .ok (.idiv, 1) := by decide +kernel
theorem dX7_bale_26 : decode cX7_bale 26 = .ok (.istore 5, 2) := by decide +kernel
theorem dX7_bale_28 : decode cX7_bale 28 = .ok (.iload_n 2, 1) := by decide +kernel
theorem dX7_bale_29 : decode cX7_bale 29 = .ok (.bipush 100, 2) := by decide +kernel
theorem dX7_bale_31 : decode cX7_bale 31 = .ok (.irem, 1) := by decide +kernel
theorem dX7_bale_32 : decode cX7_bale 32 = .ok (.istore 6, 2) := by decide +kernel
theorem dX7_bale_34 : decode cX7_bale 34 = .ok (.aload_n 0, 1) := by decide +kernel
theorem dX7_bale_35 : decode cX7_bale 35 = .ok (.iload 5, 2) := by decide +kernel
theorem dX7_bale_37 : decode cX7_bale 37 = .ok (.invokevirtual 162, 3) := by decide +kernel
theorem dX7_bale_40 : decode cX7_bale 40 = .ok (.ifCond .eq 84, 3) := by decide +kernel
theorem dX7_bale_43 : decode cX7_bale 43 = .ok (.aload_n 0, 1) := by decide +kernel
theorem dX7_bale_44 : decode cX7_bale 44 = .ok (.iload 6, 2) := by decide +kernel
theorem dX7_bale_46 : decode cX7_bale 46 = .ok (.invokevirtual 162, 3) := by decide +kernel
theorem dX7_bale_49 : decode cX7_bale 49 = .ok (.ifCond .eq 75, 3) := by decide +kernel
theorem dX7_bale_52 : decode cX7_bale 52 = .ok (.iload 6, 2) := by decide +kernel
theorem dX7_bale_54 : decode cX7_bale 54 = .ok (.iload 5, 2) := by decide +kernel
theorem dX7_bale_56 : decode cX7_bale 56 = .ok (.if_icmp .le 68, 3) := by decide +kernel
theorem dX7_bale_59 : decode cX7_bale 59 = .ok (.iload_n 3, 1) := by decide +kernel
theorem dX7_bale_60 : decode cX7_bale 60 = .ok (.ldc 158, 2) := by decide +kernel
theorem dX7_bale_62 : decode cX7_bale 62 = .ok (.idiv, 1) := by decide +kernel
theorem dX7_bale_63 : decode cX7_bale 63 = .ok (.iconst 0, 1) := by decide +kernel
theorem dX7_bale_64 : decode cX7_bale 64 = .ok (.iconst 2, 1) := by decide +kernel
theorem dX7_bale_65 : decode cX7_bale 65 = .ok (.invokestatic 133, 3) := by decide +kernel
theorem dX7_bale_68 : decode cX7_bale 68 = .ok (.ifCond .eq 56, 3) := by decide +kernel
theorem dX7_bale_71 : decode cX7_bale 71 = .ok (.iload_n 3, 1) := by decide +kernel
theorem dX7_bale_72 : decode cX7_bale 72 = .ok (.sipush 1000, 3) := by decide +kernel
theorem dX7_bale_75 : decode cX7_bale 75 = .ok (.idiv, 1) := by decide +kernel
theorem dX7_bale_76 : decode cX7_bale 76 = .ok (.sipush 1000, 3) := by decide +kernel
theorem dX7_bale_79 : decode cX7_bale 79 = .ok (.irem, 1) := by decide +kernel
theorem dX7_bale_80 : decode cX7_bale 80 = .ok (.iconst 1, 1) := by decide +kernel
theorem dX7_bale_81 : decode cX7_bale 81 = .ok (.bipush 99, 2) := by decide +kernel
theorem dX7_bale_83 : decode cX7_bale 83 = .ok (.invokestatic 133, 3) := by decide +kernel
theorem dX7_bale_86 : decode cX7_bale 86 = .ok (.ifCond .eq 38, 3) := by decide +kernel
theorem dX7_bale_89 : decode cX7_bale 89 = .ok (.iload_n 3, 1) := by decide +kernel
theorem dX7_bale_90 : decode cX7_bale 90 = .ok (.sipush 1000, 3) := by decide +kernel
theorem dX7_bale_93 : decode cX7_bale 93 = .ok (.irem, 1) := by decide +kernel
theorem dX7_bale_94 : decode cX7_bale 94 = .ok (.iconst 1, 1) := by decide +kernel
theorem dX7_bale_95 : decode cX7_bale 95 = .ok (.sipush 999, 3) := by decide +kernel
theorem dX7_bale_98 : decode cX7_bale 98 = .ok (.invokestatic 133, 3) := by decide +kernel
theorem dX7_bale_101 : decode cX7_bale 101 = .ok (.ifCond .eq 23, 3) := by decide +kernel
theorem dX7_bale_104 : decode cX7_bale 104 = .ok (.iload 4, 2) := by decide +kernel
theorem dX7_bale_106 : decode cX7_bale 106 = .ok (.sipush 1000, 3) := by decide +kernel
theorem dX7_bale_109 : decode cX7_bale 109 = .ok (.idiv, 1) := by decide +kernel
theorem dX7_bale_110 : decode cX7_bale 110 = .ok (.iconst 1, 1) := by decide +kernel
theorem dX7_bale_111 : decode cX7_bale 111 = .ok (.sipush 9999, 3) := by decide +kernel
theorem dX7_bale_114 : decode cX7_bale 114 = .ok (.invokestatic 133, 3) := by decide +kernel
theorem dX7_bale_117 : decode cX7_bale 117 = .ok (.ifCond .eq 7, 3) := by decide +kernel
theorem dX7_bale_120 : decode cX7_bale 120 = .ok (.iconst 1, 1) := by decide +kernel
theorem dX7_bale_121 : decode cX7_bale 121 = .ok (.goto 4, 3) := by decide +kernel
theorem dX7_bale_124 : decode cX7_bale 124 = .ok (.iconst 0, 1) := by decide +kernel
theorem dX7_bale_125 : decode cX7_bale 125 = .ok (.istore 7, 2) := by decide +kernel
theorem dX7_bale_127 : decode cX7_bale 127 = .ok (.iload 7, 2) := by decide +kernel
theorem dX7_bale_129 : decode cX7_bale 129 = .ok (.ifCond .ne 5, 3) := by decide +kernel
theorem dX7_bale_132 : decode cX7_bale 132 = .ok (.iconst (-1), 1) := by decide +kernel
theorem dX7_bale_133 : decode cX7_bale 133 = .ok (.ireturn, 1) := by decide +kernel
theorem dX7_bale_134 : decode cX7_bale 134 = .ok (.aload_n 0, 1) := by decide +kernel
theorem dX7_bale_135 : decode cX7_bale 135 = .ok (.getfield 143, 3) := by decide +kernel
theorem dX7_bale_138 : decode cX7_bale 138 = .ok (.sipush 300, 3) := by decide +kernel
theorem dX7_bale_141 : decode cX7_bale 141 = .ok (.if_icmp .ne 6, 3) := by decide +kernel
theorem dX7_bale_144 : decode cX7_bale 144 = .ok (.bipush (-3), 2) := by decide +kernel
theorem dX7_bale_146 : decode cX7_bale 146 = .ok (.ireturn, 1) := by decide +kernel
theorem dX7_bale_147 : decode cX7_bale 147 = .ok (.aload_n 0, 1) := by decide +kernel
theorem dX7_bale_148 : decode cX7_bale 148 = .ok (.getfield 143, 3) := by decide +kernel
theorem dX7_bale_151 : decode cX7_bale 151 = .ok (.istore 8, 2) := by decide +kernel
theorem dX7_bale_153 : decode cX7_bale 153 = .ok (.aload_n 0, 1) := by decide +kernel
theorem dX7_bale_154 : decode cX7_bale 154 = .ok (.getfield 62, 3) := by decide +kernel
theorem dX7_bale_157 : decode cX7_bale 157 = .ok (.iload 8, 2) := by decide +kernel
theorem dX7_bale_159 : decode cX7_bale 159 = .ok (.iload_n 1, 1) := by decide +kernel
theorem dX7_bale_160 : decode cX7_bale 160 = .ok (.iastore, 1) := by decide +kernel
theorem dX7_bale_161 : decode cX7_bale 161 = .ok (.aload_n 0, 1) := by decide +kernel
theorem dX7_bale_162 : decode cX7_bale 162 = .ok (.getfield 65, 3) := by decide +kernel
theorem dX7_bale_165 : decode cX7_bale 165 = .ok (.iload 8, 2) := by decide +kernel
theorem dX7_bale_167 : decode cX7_bale 167 = .ok (.iload 5, 2) := by decide +kernel
theorem dX7_bale_169 : decode cX7_bale 169 = .ok (.iastore, 1) := by decide +kernel
theorem dX7_bale_170 : decode cX7_bale 170 = .ok (.aload_n 0, 1) := by decide +kernel
theorem dX7_bale_171 : decode cX7_bale 171 = .ok (.getfield 68, 3) := by decide +kernel
theorem dX7_bale_174 : decode cX7_bale 174 = .ok (.iload 8, 2) := by decide +kernel
theorem dX7_bale_176 : decode cX7_bale 176 = .ok (.iload 6, 2) := by decide +kernel
theorem dX7_bale_178 : decode cX7_bale 178 = .ok (.iastore, 1) := by decide +kernel
theorem dX7_bale_179 : decode cX7_bale 179 = .ok (.aload_n 0, 1) := by decide +kernel
theorem dX7_bale_180 : decode cX7_bale 180 = .ok (.getfield 71, 3) := by decide +kernel
theorem dX7_bale_183 : decode cX7_bale 183 = .ok (.iload 8, 2) := by decide +kernel
theorem dX7_bale_185 : decode cX7_bale 185 = .ok (.iload_n 3, 1) := by decide +kernel
theorem dX7_bale_186 : decode cX7_bale 186 = .ok (.ldc 158, 2) := by decide +kernel
theorem dX7_bale_188 : decode cX7_bale 188 = .ok (.idiv, 1) := by decide +kernel
theorem dX7_bale_189 : decode cX7_bale 189 = .ok (.iastore, 1) := by decide +kernel
theorem dX7_bale_190 : decode cX7_bale 190 = .ok (.aload_n 0, 1) := by decide +kernel
theorem dX7_bale_191 : decode cX7_bale 191 = .ok (.getfield 74, 3) := by decide +kernel
theorem dX7_bale_194 : decode cX7_bale 194 = .ok (.iload 8, 2) := by decide +kernel
theorem dX7_bale_196 : decode cX7_bale 196 = .ok (.iload_n 3, 1) := by decide +kernel
theorem dX7_bale_197 : decode cX7_bale 197 = .ok (.sipush 1000, 3) := by decide +kernel
theorem dX7_bale_200 : decode cX7_bale 200 = .ok (.idiv, 1) := by decide +kernel
theorem dX7_bale_201 : decode cX7_bale 201 = .ok (.sipush 1000, 3) := by decide +kernel
theorem dX7_bale_204 : decode cX7_bale 204 = .ok (.irem, 1) := by decide +kernel
theorem dX7_bale_205 : decode cX7_bale 205 = .ok (.iastore, 1) := by decide +kernel
theorem dX7_bale_206 : decode cX7_bale 206 = .ok (.aload_n 0, 1) := by decide +kernel
theorem dX7_bale_207 : decode cX7_bale 207 = .ok (.getfield 77, 3) := by decide +kernel
theorem dX7_bale_210 : decode cX7_bale 210 = .ok (.iload 8, 2) := by decide +kernel
theorem dX7_bale_212 : decode cX7_bale 212 = .ok (.iload_n 3, 1) := by decide +kernel
theorem dX7_bale_213 : decode cX7_bale 213 = .ok (.sipush 1000, 3) := by decide +kernel
theorem dX7_bale_216 : decode cX7_bale 216 = .ok (.irem, 1) := by decide +kernel
theorem dX7_bale_217 : decode cX7_bale 217 = .ok (.iastore, 1) := by decide +kernel
theorem dX7_bale_218 : decode cX7_bale 218 = .ok (.aload_n 0, 1) := by decide +kernel
theorem dX7_bale_219 : decode cX7_bale 219 = .ok (.getfield 80, 3) := by decide +kernel
theorem dX7_bale_222 : decode cX7_bale 222 = .ok (.iload 8, 2) := by decide +kernel
theorem dX7_bale_224 : decode cX7_bale 224 = .ok (.iload 4, 2) := by decide +kernel
theorem dX7_bale_226 : decode cX7_bale 226 = .ok (.sipush 1000, 3) := by decide +kernel
theorem dX7_bale_229 : decode cX7_bale 229 = .ok (.idiv, 1) := by decide +kernel
theorem dX7_bale_230 : decode cX7_bale 230 = .ok (.iastore, 1) := by decide +kernel
theorem dX7_bale_231 : decode cX7_bale 231 = .ok (.aload_n 0, 1) := by decide +kernel
theorem dX7_bale_232 : decode cX7_bale 232 = .ok (.getfield 83, 3) := by decide +kernel
theorem dX7_bale_235 : decode cX7_bale 235 = .ok (.iload 8, 2) := by decide +kernel
theorem dX7_bale_237 : decode cX7_bale 237 = .ok (.iload 4, 2) := by decide +kernel
theorem dX7_bale_239 : decode cX7_bale 239 = .ok (.sipush 1000, 3) := by decide +kernel
theorem dX7_bale_242 : decode cX7_bale 242 = .ok (.irem, 1) := by decide +kernel
theorem dX7_bale_243 : decode cX7_bale 243 = .ok (.iastore, 1) := by decide +kernel
theorem dX7_bale_244 : decode cX7_bale 244 = .ok (.aload_n 0, 1) := by decide +kernel
theorem dX7_bale_245 : decode cX7_bale 245 = .ok (.getfield 86, 3) := by decide +kernel
theorem dX7_bale_248 : decode cX7_bale 248 = .ok (.iload 8, 2) := by decide +kernel
theorem dX7_bale_250 : decode cX7_bale 250 = .ok (.aload_n 0, 1) := by decide +kernel
theorem dX7_bale_251 : decode cX7_bale 251 = .ok (.getfield 165, 3) := by decide +kernel
theorem dX7_bale_254 : decode cX7_bale 254 = .ok (.iastore, 1) := by decide +kernel
theorem dX7_bale_255 : decode cX7_bale 255 = .ok (.aload_n 0, 1) := by decide +kernel
theorem dX7_bale_256 : decode cX7_bale 256 = .ok (.getfield 89, 3) := by decide +kernel
theorem dX7_bale_259 : decode cX7_bale 259 = .ok (.iload 8, 2) := by decide +kernel
theorem dX7_bale_261 : decode cX7_bale 261 = .ok (.iconst 0, 1) := by decide +kernel
theorem dX7_bale_262 : decode cX7_bale 262 = .ok (.iastore, 1) := by decide +kernel
theorem dX7_bale_263 : decode cX7_bale 263 = .ok (.aload_n 0, 1) := by decide +kernel
theorem dX7_bale_264 : decode cX7_bale 264 = .ok (.getfield 92, 3) := by decide +kernel
theorem dX7_bale_267 : decode cX7_bale 267 = .ok (.iload 8, 2) := by decide +kernel
theorem dX7_bale_269 : decode cX7_bale 269 = .ok (.iconst (-1), 1) := by decide +kernel
theorem dX7_bale_270 : decode cX7_bale 270 = .ok (.iastore, 1) := by decide +kernel
theorem dX7_bale_271 : decode cX7_bale 271 = .ok (.aload_n 0, 1) := by decide +kernel
theorem dX7_bale_272 : decode cX7_bale 272 = .ok (.getfield 95, 3) := by decide +kernel
theorem dX7_bale_275 : decode cX7_bale 275 = .ok (.iload 8, 2) := by decide +kernel
theorem dX7_bale_277 : decode cX7_bale 277 = .ok (.aload_n 0, 1) := by decide +kernel
theorem dX7_bale_278 : decode cX7_bale 278 = .ok (.getfield 165, 3) := by decide +kernel
theorem dX7_bale_281 : decode cX7_bale 281 = .ok (.iastore, 1) := by decide +kernel
theorem dX7_bale_282 : decode cX7_bale 282 = .ok (.aload_n 0, 1) := by decide +kernel
theorem dX7_bale_283 : decode cX7_bale 283 = .ok (.dup, 1) := by decide +kernel
theorem dX7_bale_284 : decode cX7_bale 284 = .ok (.getfield 143, 3) := by decide +kernel
theorem dX7_bale_287 : decode cX7_bale 287 = .ok (.iconst 1, 1) := by decide +kernel
theorem dX7_bale_288 : decode cX7_bale 288 = .ok (.iadd, 1) := by decide +kernel
theorem dX7_bale_289 : decode cX7_bale 289 = .ok (.putfield 143, 3) := by decide +kernel
theorem dX7_bale_292 : decode cX7_bale 292 = .ok (.iload 8, 2) := by decide +kernel
theorem dX7_bale_294 : decode cX7_bale 294 = .ok (.ireturn, 1) := by decide +kernel
theorem dX7_about_0 : decode cX7_about 0 = .ok (.aload_n 0, 1) := by decide +kernel
theorem dX7_about_1 : decode cX7_about 1 = .ok (.iload_n 1, 1) := by decide +kernel
theorem dX7_about_2 : decode cX7_about 2 = .ok (.invokevirtual 168, 3) := by decide +kernel
theorem dX7_about_5 : decode cX7_about 5 = .ok (.ifCond .ne 5, 3) := by decide +kernel
theorem dX7_about_8 : decode cX7_about 8 = .ok (.iconst (-1), 1) := by decide +kernel
theorem dX7_about_9 : decode cX7_about 9 = .ok (.ireturn, 1) := by decide +kernel
theorem dX7_about_10 : decode cX7_about 10 = .ok (.iload_n 2, 1) := by decide +kernel
theorem dX7_about_11 : decode cX7_about 11 = .ok (.tableswitch 145 0 11 #[61, 68, 75, 82, 89, 96, 103, 110, 117, 124, 131, 138], 61) := by decide +kernel
theorem dX7_about_72 : decode cX7_about 72 = .ok (.aload_n 0, 1) := by decide +kernel
theorem dX7_about_73 : decode cX7_about 73 = .ok (.getfield 62, 3) := by decide +kernel
theorem dX7_about_76 : decode cX7_about 76 = .ok (.iload_n 1, 1) := by decide +kernel
theorem dX7_about_77 : decode cX7_about 77 = .ok (.iaload, 1) := by decide +kernel
theorem dX7_about_78 : decode cX7_about 78 = .ok (.ireturn, 1) := by decide +kernel
theorem dX7_about_79 : decode cX7_about 79 = .ok (.aload_n 0, 1) := by decide +kernel
theorem dX7_about_80 : decode cX7_about 80 = .ok (.getfield 65, 3) := by decide +kernel
theorem dX7_about_83 : decode cX7_about 83 = .ok (.iload_n 1, 1) := by decide +kernel
theorem dX7_about_84 : decode cX7_about 84 = .ok (.iaload, 1) := by decide +kernel
theorem dX7_about_85 : decode cX7_about 85 = .ok (.ireturn, 1) := by decide +kernel
theorem dX7_about_86 : decode cX7_about 86 = .ok (.aload_n 0, 1) := by decide +kernel
theorem dX7_about_87 : decode cX7_about 87 = .ok (.getfield 68, 3) := by decide +kernel
theorem dX7_about_90 : decode cX7_about 90 = .ok (.iload_n 1, 1) := by decide +kernel
theorem dX7_about_91 : decode cX7_about 91 = .ok (.iaload, 1) := by decide +kernel
theorem dX7_about_92 : decode cX7_about 92 = .ok (.ireturn, 1) := by decide +kernel
theorem dX7_about_93 : decode cX7_about 93 = .ok (.aload_n 0, 1) := by decide +kernel
theorem dX7_about_94 : decode cX7_about 94 = .ok (.getfield 71, 3) := by decide +kernel
theorem dX7_about_97 : decode cX7_about 97 = .ok (.iload_n 1, 1) := by decide +kernel
theorem dX7_about_98 : decode cX7_about 98 = .ok (.iaload, 1) := by decide +kernel
theorem dX7_about_99 : decode cX7_about 99 = .ok (.ireturn, 1) := by decide +kernel
theorem dX7_about_100 : decode cX7_about 100 = .ok (.aload_n 0, 1) := by decide +kernel
theorem dX7_about_101 : decode cX7_about 101 = .ok (.getfield 74, 3) := by decide +kernel
theorem dX7_about_104 : decode cX7_about 104 = .ok (.iload_n 1, 1) := by decide +kernel
theorem dX7_about_105 : decode cX7_about 105 = .ok (.iaload, 1) := by decide +kernel
theorem dX7_about_106 : decode cX7_about 106 = .ok (.ireturn, 1) := by decide +kernel
theorem dX7_about_107 : decode cX7_about 107 = .ok (.aload_n 0, 1) := by decide +kernel
theorem dX7_about_108 : decode cX7_about 108 = .ok (.getfield 77, 3) := by decide +kernel
theorem dX7_about_111 : decode cX7_about 111 = .ok (.iload_n 1, 1) := by decide +kernel
theorem dX7_about_112 : decode cX7_about 112 = .ok (.iaload, 1) := by decide +kernel
theorem dX7_about_113 : decode cX7_about 113 = .ok (.ireturn, 1) := by decide +kernel
theorem dX7_about_114 : decode cX7_about 114 = .ok (.aload_n 0, 1) := by decide +kernel
theorem dX7_about_115 : decode cX7_about 115 = .ok (.getfield 80, 3) := by decide +kernel
theorem dX7_about_118 : decode cX7_about 118 = .ok (.iload_n 1, 1) := by decide +kernel
theorem dX7_about_119 : decode cX7_about 119 = .ok (.iaload, 1) := by decide +kernel
theorem dX7_about_120 : decode cX7_about 120 = .ok (.ireturn, 1) := by decide +kernel
theorem dX7_about_121 : decode cX7_about 121 = .ok (.aload_n 0, 1) := by decide +kernel
theorem dX7_about_122 : decode cX7_about 122 = .ok (.getfield 83, 3) := by decide +kernel
theorem dX7_about_125 : decode cX7_about 125 = .ok (.iload_n 1, 1) := by decide +kernel
theorem dX7_about_126 : decode cX7_about 126 = .ok (.iaload, 1) := by decide +kernel
theorem dX7_about_127 : decode cX7_about 127 = .ok (.ireturn, 1) := by decide +kernel
theorem dX7_about_128 : decode cX7_about 128 = .ok (.aload_n 0, 1) := by decide +kernel
theorem dX7_about_129 : decode cX7_about 129 = .ok (.getfield 86, 3) := by decide +kernel
theorem dX7_about_132 : decode cX7_about 132 = .ok (.iload_n 1, 1) := by decide +kernel
theorem dX7_about_133 : decode cX7_about 133 = .ok (.iaload, 1) := by decide +kernel
theorem dX7_about_134 : decode cX7_about 134 = .ok (.ireturn, 1) := by decide +kernel
theorem dX7_about_135 : decode cX7_about 135 = .ok (.aload_n 0, 1) := by decide +kernel
theorem dX7_about_136 : decode cX7_about 136 = .ok (.getfield 89, 3) := by decide +kernel
theorem dX7_about_139 : decode cX7_about 139 = .ok (.iload_n 1, 1) := by decide +kernel
theorem dX7_about_140 : decode cX7_about 140 = .ok (.iaload, 1) := by decide +kernel
theorem dX7_about_141 : decode cX7_about 141 = .ok (.ireturn, 1) := by decide +kernel
theorem dX7_about_142 : decode cX7_about 142 = .ok (.aload_n 0, 1) := by decide +kernel
theorem dX7_about_143 : decode cX7_about 143 = .ok (.getfield 92, 3) := by decide +kernel
theorem dX7_about_146 : decode cX7_about 146 = .ok (.iload_n 1, 1) := by decide +kernel
theorem dX7_about_147 : decode cX7_about 147 = .ok (.iaload, 1) := by decide +kernel
theorem dX7_about_148 : decode cX7_about 148 = .ok (.ireturn, 1) := by decide +kernel
theorem dX7_about_149 : decode cX7_about 149 = .ok (.aload_n 0, 1) := by decide +kernel
theorem dX7_about_150 : decode cX7_about 150 = .ok (.getfield 95, 3) := by decide +kernel
theorem dX7_about_153 : decode cX7_about 153 = .ok (.iload_n 1, 1) := by decide +kernel
theorem dX7_about_154 : decode cX7_about 154 = .ok (.iaload, 1) := by decide +kernel
theorem dX7_about_155 : decode cX7_about 155 = .ok (.ireturn, 1) := by decide +kernel
theorem dX7_about_156 : decode cX7_about 156 = .ok (.iconst (-1), 1) := by decide +kernel
theorem dX7_about_157 : decode cX7_about 157 = .ok (.ireturn, 1) := by decide +kernel
theorem dX7_isOn_0 : decode cX7_isOn 0 = .ok (.aload_n 0, 1) := by decide +kernel
theorem dX7_isOn_1 : decode cX7_isOn 1 = .ok (.getfield 89, 3) := by decide +kernel
theorem dX7_isOn_4 : decode cX7_isOn 4 = .ok (.iload_n 1, 1) := by decide +kernel
theorem dX7_isOn_5 : decode cX7_isOn 5 = .ok (.iaload, 1) := by decide +kernel
theorem dX7_isOn_6 : decode cX7_isOn 6 = .ok (.iconst 1, 1) := by decide +kernel
theorem dX7_isOn_7 : decode cX7_isOn 7 = .ok (.if_icmp .ne 17, 3) := by decide +kernel
theorem dX7_isOn_10 : decode cX7_isOn 10 = .ok (.aload_n 0, 1) := by decide +kernel
theorem dX7_isOn_11 : decode cX7_isOn 11 = .ok (.getfield 92, 3) := by decide +kernel
theorem dX7_isOn_14 : decode cX7_isOn 14 = .ok (.iload_n 1, 1) := by decide +kernel
theorem dX7_isOn_15 : decode cX7_isOn 15 = .ok (.iaload, 1) := by decide +kernel
theorem dX7_isOn_16 : decode cX7_isOn 16 = .ok (.iload_n 2, 1) := by decide +kernel
theorem dX7_isOn_17 : decode cX7_isOn 17 = .ok (.if_icmp .ne 7, 3) := by decide +kernel
theorem dX7_isOn_20 : decode cX7_isOn 20 = .ok (.iconst 1, 1) := by decide +kernel
theorem dX7_isOn_21 : decode cX7_isOn 21 = .ok (.goto 4, 3) := by decide +kernel
theorem dX7_isOn_24 : decode cX7_isOn 24 = .ok (.iconst 0, 1) := by decide +kernel
theorem dX7_isOn_25 : decode cX7_isOn 25 = .ok (.ireturn, 1) := by decide +kernel
theorem dX7_roomOn_0 : decode cX7_roomOn 0 = .ok (.iconst 0, 1) := by decide +kernel
theorem dX7_roomOn_1 : decode cX7_roomOn 1 = .ok (.istore_n 2, 1) := by decide +kernel
theorem dX7_roomOn_2 : decode cX7_roomOn 2 = .ok (.iconst 0, 1) := by decide +kernel
theorem dX7_roomOn_3 : decode cX7_roomOn 3 = .ok (.istore_n 3, 1) := by decide +kernel
theorem dX7_roomOn_4 : decode cX7_roomOn 4 = .ok (.iload_n 3, 1) := by decide +kernel
theorem dX7_roomOn_5 : decode cX7_roomOn 5 = .ok (.aload_n 0, 1) := by decide +kernel
theorem dX7_roomOn_6 : decode cX7_roomOn 6 = .ok (.getfield 143, 3) := by decide +kernel
theorem dX7_roomOn_9 : decode cX7_roomOn 9 = .ok (.if_icmp .ge 31, 3) := by decide +kernel
theorem dX7_roomOn_12 : decode cX7_roomOn 12 = .ok (.iload_n 2, 1) := by decide +kernel
theorem dX7_roomOn_13 : decode cX7_roomOn 13 = .ok (.aload_n 0, 1) := by decide +kernel
theorem dX7_roomOn_14 : decode cX7_roomOn 14 = .ok (.iload_n 3, 1) := by decide +kernel
theorem dX7_roomOn_15 : decode cX7_roomOn 15 = .ok (.iload_n 1, 1) := by decide +kernel
theorem dX7_roomOn_16 : decode cX7_roomOn 16 = .ok (.invokevirtual 171, 3) := by decide +kernel
theorem dX7_roomOn_19 : decode cX7_roomOn 19 = .ok (.ifCond .eq 12, 3) := by decide +kernel
theorem dX7_roomOn_22 : decode cX7_roomOn 22 = .ok (.aload_n 0, 1) := by decide +kernel
theorem dX7_roomOn_23 : decode cX7_roomOn 23 = .ok (.getfield 74, 3) := by decide +kernel
theorem dX7_roomOn_26 : decode cX7_roomOn 26 = .ok (.iload_n 3, 1) := by decide +kernel
theorem dX7_roomOn_27 : decode cX7_roomOn 27 = .ok (.iaload, 1) := by decide +kernel
theorem dX7_roomOn_28 : decode cX7_roomOn 28 = .ok (.goto 4, 3) := by decide +kernel
theorem dX7_roomOn_31 : decode cX7_roomOn 31 = .ok (.iconst 0, 1) := by decide +kernel
theorem dX7_roomOn_32 : decode cX7_roomOn 32 = .ok (.iadd, 1) := by decide +kernel
theorem dX7_roomOn_33 : decode cX7_roomOn 33 = .ok (.istore_n 2, 1) := by decide +kernel
theorem dX7_roomOn_34 : decode cX7_roomOn 34 = .ok (.iinc 3 1, 3) := by decide +kernel
theorem dX7_roomOn_37 : decode cX7_roomOn 37 = .ok (.goto (-33), 3) := by decide +kernel
theorem dX7_roomOn_40 : decode cX7_roomOn 40 = .ok (.iload_n 2, 1) := by decide +kernel
theorem dX7_roomOn_41 : decode cX7_roomOn 41 = .ok (.ireturn, 1) := by decide +kernel
theorem dX7_weightOn_0 : decode cX7_weightOn 0 = .ok (.iconst 0, 1) := by decide +kernel
theorem dX7_weightOn_1 : decode cX7_weightOn 1 = .ok (.istore_n 3, 1) := by decide +kernel
theorem dX7_weightOn_2 : decode cX7_weightOn 2 = .ok (.iconst 0, 1) := by decide +kernel
theorem dX7_weightOn_3 : decode cX7_weightOn 3 = .ok (.istore 4, 2) := by decide +kernel
theorem dX7_weightOn_5 : decode cX7_weightOn 5 = .ok (.iload 4, 2) := by decide +kernel
theorem dX7_weightOn_7 : decode cX7_weightOn 7 = .ok (.aload_n 0, 1) := by decide +kernel
theorem dX7_weightOn_8 : decode cX7_weightOn 8 = .ok (.getfield 143, 3) := by decide +kernel
theorem dX7_weightOn_11 : decode cX7_weightOn 11 = .ok (.if_icmp .ge 48, 3) := by decide +kernel
theorem dX7_weightOn_14 : decode cX7_weightOn 14 = .ok (.iload_n 3, 1) := by decide +kernel
theorem dX7_weightOn_15 : decode cX7_weightOn 15 = .ok (.aload_n 0, 1) := by decide +kernel
theorem dX7_weightOn_16 : decode cX7_weightOn 16 = .ok (.iload 4, 2) := by decide +kernel
theorem dX7_weightOn_18 : decode cX7_weightOn 18 = .ok (.iload_n 1, 1) := by decide +kernel
theorem dX7_weightOn_19 : decode cX7_weightOn 19 = .ok (.invokevirtual 171, 3) := by decide +kernel
theorem dX7_weightOn_22 : decode cX7_weightOn 22 = .ok (.ifCond .eq 28, 3) := by decide +kernel
theorem dX7_weightOn_25 : decode cX7_weightOn 25 = .ok (.iload_n 2, 1) := by decide +kernel
theorem dX7_weightOn_26 : decode cX7_weightOn 26 = .ok (.ifCond .eq 14, 3) := by decide +kernel
theorem dX7_weightOn_29 : decode cX7_weightOn 29 = .ok (.aload_n 0, 1) := by decide +kernel
theorem dX7_weightOn_30 : decode cX7_weightOn 30 = .ok (.getfield 71, 3) := by decide +kernel
theorem dX7_weightOn_33 : decode cX7_weightOn 33 = .ok (.iload 4, 2) := by decide +kernel
theorem dX7_weightOn_35 : decode cX7_weightOn 35 = .ok (.iaload, 1) := by decide +kernel
theorem dX7_weightOn_36 : decode cX7_weightOn 36 = .ok (.iconst 1, 1) := by decide +kernel
theorem dX7_weightOn_37 : decode cX7_weightOn 37 = .ok (.if_icmp .ne 13, 3) := by decide +kernel
theorem dX7_weightOn_40 : decode cX7_weightOn 40 = .ok (.aload_n 0, 1) := by decide +kernel
theorem dX7_weightOn_41 : decode cX7_weightOn 41 = .ok (.getfield 77, 3) := by decide +kernel
theorem dX7_weightOn_44 : decode cX7_weightOn 44 = .ok (.iload 4, 2) := by decide +kernel
theorem dX7_weightOn_46 : decode cX7_weightOn 46 = .ok (.iaload, 1) := by decide +kernel
theorem dX7_weightOn_47 : decode cX7_weightOn 47 = .ok (.goto 4, 3) := by decide +kernel
theorem dX7_weightOn_50 : decode cX7_weightOn 50 = .ok (.iconst 0, 1) := by decide +kernel
theorem dX7_weightOn_51 : decode cX7_weightOn 51 = .ok (.iadd, 1) := by decide +kernel
theorem dX7_weightOn_52 : decode cX7_weightOn 52 = .ok (.istore_n 3, 1) := by decide +kernel
theorem dX7_weightOn_53 : decode cX7_weightOn 53 = .ok (.iinc 4 1, 3) := by decide +kernel
theorem dX7_weightOn_56 : decode cX7_weightOn 56 = .ok (.goto (-51), 3) := by decide +kernel
theorem dX7_weightOn_59 : decode cX7_weightOn 59 = .ok (.iload_n 3, 1) := by decide +kernel
theorem dX7_weightOn_60 : decode cX7_weightOn 60 = .ok (.ireturn, 1) := by decide +kernel
theorem dX7_balesOn_0 : decode cX7_balesOn 0 = .ok (.iconst 0, 1) := by decide +kernel
theorem dX7_balesOn_1 : decode cX7_balesOn 1 = .ok (.istore_n 2, 1) := by decide +kernel
theorem dX7_balesOn_2 : decode cX7_balesOn 2 = .ok (.iconst 0, 1) := by decide +kernel
theorem dX7_balesOn_3 : decode cX7_balesOn 3 = .ok (.istore_n 3, 1) := by decide +kernel
theorem dX7_balesOn_4 : decode cX7_balesOn 4 = .ok (.iload_n 3, 1) := by decide +kernel
theorem dX7_balesOn_5 : decode cX7_balesOn 5 = .ok (.aload_n 0, 1) := by decide +kernel
theorem dX7_balesOn_6 : decode cX7_balesOn 6 = .ok (.getfield 143, 3) := by decide +kernel
theorem dX7_balesOn_9 : decode cX7_balesOn 9 = .ok (.if_icmp .ge 26, 3) := by decide +kernel
theorem dX7_balesOn_12 : decode cX7_balesOn 12 = .ok (.iload_n 2, 1) := by decide +kernel
theorem dX7_balesOn_13 : decode cX7_balesOn 13 = .ok (.aload_n 0, 1) := by decide +kernel
theorem dX7_balesOn_14 : decode cX7_balesOn 14 = .ok (.iload_n 3, 1) := by decide +kernel
theorem dX7_balesOn_15 : decode cX7_balesOn 15 = .ok (.iload_n 1, 1) := by decide +kernel
theorem dX7_balesOn_16 : decode cX7_balesOn 16 = .ok (.invokevirtual 171, 3) := by decide +kernel
theorem dX7_balesOn_19 : decode cX7_balesOn 19 = .ok (.ifCond .eq 7, 3) := by decide +kernel
theorem dX7_balesOn_22 : decode cX7_balesOn 22 = .ok (.iconst 1, 1) := by decide +kernel
theorem dX7_balesOn_23 : decode cX7_balesOn 23 = .ok (.goto 4, 3) := by decide +kernel
theorem dX7_balesOn_26 : decode cX7_balesOn 26 = .ok (.iconst 0, 1) := by decide +kernel
theorem dX7_balesOn_27 : decode cX7_balesOn 27 = .ok (.iadd, 1) := by decide +kernel
theorem dX7_balesOn_28 : decode cX7_balesOn 28 = .ok (.istore_n 2, 1) := by decide +kernel
theorem dX7_balesOn_29 : decode cX7_balesOn 29 = .ok (.iinc 3 1, 3) := by decide +kernel
theorem dX7_balesOn_32 : decode cX7_balesOn 32 = .ok (.goto (-28), 3) := by decide +kernel
theorem dX7_balesOn_35 : decode cX7_balesOn 35 = .ok (.iload_n 2, 1) := by decide +kernel
theorem dX7_balesOn_36 : decode cX7_balesOn 36 = .ok (.ireturn, 1) := by decide +kernel
theorem dX7_becomes_0 : decode cX7_becomes 0 = .ok (.aload_n 0, 1) := by decide +kernel
theorem dX7_becomes_1 : decode cX7_becomes 1 = .ok (.getfield 89, 3) := by decide +kernel
theorem dX7_becomes_4 : decode cX7_becomes 4 = .ok (.iload_n 1, 1) := by decide +kernel
theorem dX7_becomes_5 : decode cX7_becomes 5 = .ok (.iload_n 2, 1) := by decide +kernel
theorem dX7_becomes_6 : decode cX7_becomes 6 = .ok (.iastore, 1) := by decide +kernel
theorem dX7_becomes_7 : decode cX7_becomes 7 = .ok (.aload_n 0, 1) := by decide +kernel
theorem dX7_becomes_8 : decode cX7_becomes 8 = .ok (.getfield 95, 3) := by decide +kernel
theorem dX7_becomes_11 : decode cX7_becomes 11 = .ok (.iload_n 1, 1) := by decide +kernel
theorem dX7_becomes_12 : decode cX7_becomes 12 = .ok (.aload_n 0, 1) := by decide +kernel
theorem dX7_becomes_13 : decode cX7_becomes 13 = .ok (.getfield 165, 3) := by decide +kernel
theorem dX7_becomes_16 : decode cX7_becomes 16 = .ok (.iastore, 1) := by decide +kernel
theorem dX7_becomes_17 : decode cX7_becomes 17 = .ok (.return_, 1) := by decide +kernel
theorem dX7_feed_0 : decode cX7_feed 0 = .ok (.iload_n 1, 1) := by decide +kernel
theorem dX7_feed_1 : decode cX7_feed 1 = .ok (.iconst 1, 1) := by decide +kernel
theorem dX7_feed_2 : decode cX7_feed 2 = .ok (.iconst 4, 1) := by decide +kernel
theorem dX7_feed_3 : decode cX7_feed 3 = .ok (.invokestatic 133, 3) := by decide +kernel
theorem dX7_feed_6 : decode cX7_feed 6 = .ok (.ifCond .ne 5, 3) := by decide +kernel
theorem dX7_feed_9 : decode cX7_feed 9 = .ok (.iconst (-1), 1) := by decide +kernel
theorem dX7_feed_10 : decode cX7_feed 10 = .ok (.ireturn, 1) := by decide +kernel
theorem dX7_feed_11 : decode cX7_feed 11 = .ok (.aload_n 0, 1) := by decide +kernel
theorem dX7_feed_12 : decode cX7_feed 12 = .ok (.getfield 175, 3) := by decide +kernel
theorem dX7_feed_15 : decode cX7_feed 15 = .ok (.iload_n 1, 1) := by decide +kernel
theorem dX7_feed_16 : decode cX7_feed 16 = .ok (.iadd, 1) := by decide +kernel
theorem dX7_feed_17 : decode cX7_feed 17 = .ok (.sipush 200, 3) := by decide +kernel
theorem dX7_feed_20 : decode cX7_feed 20 = .ok (.if_icmp .le 6, 3) := by decide +kernel
theorem dX7_feed_23 : decode cX7_feed 23 = .ok (.bipush (-3), 2) := by decide +kernel
theorem dX7_feed_25 : decode cX7_feed 25 = .ok (.ireturn, 1) := by decide +kernel
theorem dX7_feed_26 : decode cX7_feed 26 = .ok (.iconst 0, 1) := by decide +kernel
theorem dX7_feed_27 : decode cX7_feed 27 = .ok (.istore_n 3, 1) := by decide +kernel
theorem dX7_feed_28 : decode cX7_feed 28 = .ok (.iload_n 3, 1) := by decide +kernel
theorem dX7_feed_29 : decode cX7_feed 29 = .ok (.iload_n 1, 1) := by decide +kernel
theorem dX7_feed_30 : decode cX7_feed 30 = .ok (.if_icmp .ge 35, 3) := by decide +kernel
theorem dX7_feed_33 : decode cX7_feed 33 = .ok (.aload_n 0, 1) := by decide +kernel
theorem dX7_feed_34 : decode cX7_feed 34 = .ok (.getfield 98, 3) := by decide +kernel
theorem dX7_feed_37 : decode cX7_feed 37 = .ok (.aload_n 0, 1) := by decide +kernel
theorem dX7_feed_38 : decode cX7_feed 38 = .ok (.getfield 175, 3) := by decide +kernel
theorem dX7_feed_41 : decode cX7_feed 41 = .ok (.iload_n 2, 1) := by decide +kernel
theorem dX7_feed_42 : decode cX7_feed 42 = .ok (.bipush 8, 2) := by decide +kernel
theorem dX7_feed_44 : decode cX7_feed 44 = .ok (.iload_n 3, 1) := by decide +kernel
theorem dX7_feed_45 : decode cX7_feed 45 = .ok (.imul, 1) := by decide +kernel
theorem dX7_feed_46 : decode cX7_feed 46 = .ok (.ishr, 1) := by decide +kernel
theorem dX7_feed_47 : decode cX7_feed 47 = .ok (.i2b, 1) := by decide +kernel
theorem dX7_feed_48 : decode cX7_feed 48 = .ok (.bastore, 1) := by decide +kernel
theorem dX7_feed_49 : decode cX7_feed 49 = .ok (.aload_n 0, 1) := by decide +kernel
theorem dX7_feed_50 : decode cX7_feed 50 = .ok (.dup, 1) := by decide +kernel
theorem dX7_feed_51 : decode cX7_feed 51 = .ok (.getfield 175, 3) := by decide +kernel
theorem dX7_feed_54 : decode cX7_feed 54 = .ok (.iconst 1, 1) := by decide +kernel
theorem dX7_feed_55 : decode cX7_feed 55 = .ok (.iadd, 1) := by decide +kernel
theorem dX7_feed_56 : decode cX7_feed 56 = .ok (.putfield 175, 3) := by decide +kernel
theorem dX7_feed_59 : decode cX7_feed 59 = .ok (.iinc 3 1, 3) := by decide +kernel
theorem dX7_feed_62 : decode cX7_feed 62 = .ok (.goto (-34), 3) := by decide +kernel
theorem dX7_feed_65 : decode cX7_feed 65 = .ok (.aload_n 0, 1) := by decide +kernel
theorem dX7_feed_66 : decode cX7_feed 66 = .ok (.getfield 175, 3) := by decide +kernel
theorem dX7_feed_69 : decode cX7_feed 69 = .ok (.ireturn, 1) := by decide +kernel
theorem dX7_isLetter_0 : decode cX7_isLetter 0 = .ok (.iload_n 0, 1) := by decide +kernel
theorem dX7_isLetter_1 : decode cX7_isLetter 1 = .ok (.bipush 97, 2) := by decide +kernel
theorem dX7_isLetter_3 : decode cX7_isLetter 3 = .ok (.if_icmp .lt 13, 3) := by decide +kernel
theorem dX7_isLetter_6 : decode cX7_isLetter 6 = .ok (.iload_n 0, 1) := by decide +kernel
theorem dX7_isLetter_7 : decode cX7_isLetter 7 = .ok (.bipush 122, 2) := by decide +kernel
theorem dX7_isLetter_9 : decode cX7_isLetter 9 = .ok (.if_icmp .gt 7, 3) := by decide +kernel
theorem dX7_isLetter_12 : decode cX7_isLetter 12 = .ok (.iconst 1, 1) := by decide +kernel
theorem dX7_isLetter_13 : decode cX7_isLetter 13 = .ok (.goto 4, 3) := by decide +kernel
theorem dX7_isLetter_16 : decode cX7_isLetter 16 = .ok (.iconst 0, 1) := by decide +kernel
theorem dX7_isLetter_17 : decode cX7_isLetter 17 = .ok (.ireturn, 1) := by decide +kernel
theorem dX7_isDigit_0 : decode cX7_isDigit 0 = .ok (.iload_n 0, 1) := by decide +kernel
theorem dX7_isDigit_1 : decode cX7_isDigit 1 = .ok (.bipush 48, 2) := by decide +kernel
theorem dX7_isDigit_3 : decode cX7_isDigit 3 = .ok (.if_icmp .lt 13, 3) := by decide +kernel
theorem dX7_isDigit_6 : decode cX7_isDigit 6 = .ok (.iload_n 0, 1) := by decide +kernel
theorem dX7_isDigit_7 : decode cX7_isDigit 7 = .ok (.bipush 57, 2) := by decide +kernel
theorem dX7_isDigit_9 : decode cX7_isDigit 9 = .ok (.if_icmp .gt 7, 3) := by decide +kernel
theorem dX7_isDigit_12 : decode cX7_isDigit 12 = .ok (.iconst 1, 1) := by decide +kernel
theorem dX7_isDigit_13 : decode cX7_isDigit 13 = .ok (.goto 4, 3) := by decide +kernel
theorem dX7_isDigit_16 : decode cX7_isDigit 16 = .ok (.iconst 0, 1) := by decide +kernel
theorem dX7_isDigit_17 : decode cX7_isDigit 17 = .ok (.ireturn, 1) := by decide +kernel
theorem dX7_advance_0 : decode cX7_advance 0 = .ok (.aload_n 0, 1) := by decide +kernel
theorem dX7_advance_1 : decode cX7_advance 1 = .ok (.getfield 178, 3) := by decide +kernel
theorem dX7_advance_4 : decode cX7_advance 4 = .ok (.aload_n 0, 1) := by decide +kernel
theorem dX7_advance_5 : decode cX7_advance 5 = .ok (.getfield 175, 3) := by decide +kernel
theorem dX7_advance_8 : decode cX7_advance 8 = .ok (.if_icmp .ge 30, 3) := by decide +kernel
theorem dX7_advance_11 : decode cX7_advance 11 = .ok (.aload_n 0, 1) := by decide +kernel
theorem dX7_advance_12 : decode cX7_advance 12 = .ok (.getfield 98, 3) := by decide +kernel
theorem dX7_advance_15 : decode cX7_advance 15 = .ok (.aload_n 0, 1) := by decide +kernel
theorem dX7_advance_16 : decode cX7_advance 16 = .ok (.getfield 178, 3) := by decide +kernel
theorem dX7_advance_19 : decode cX7_advance 19 = .ok (.baload, 1) := by decide +kernel
theorem dX7_advance_20 : decode cX7_advance 20 = .ok (.bipush 32, 2) := by decide +kernel
theorem dX7_advance_22 : decode cX7_advance 22 = .ok (.if_icmp .ne 16, 3) := by decide +kernel
theorem dX7_advance_25 : decode cX7_advance 25 = .ok (.aload_n 0, 1) := by decide +kernel
theorem dX7_advance_26 : decode cX7_advance 26 = .ok (.dup, 1) := by decide +kernel
theorem dX7_advance_27 : decode cX7_advance 27 = .ok (.getfield 178, 3) := by decide +kernel
theorem dX7_advance_30 : decode cX7_advance 30 = .ok (.iconst 1, 1) := by decide +kernel
theorem dX7_advance_31 : decode cX7_advance 31 = .ok (.iadd, 1) := by decide +kernel
theorem dX7_advance_32 : decode cX7_advance 32 = .ok (.putfield 178, 3) := by decide +kernel
theorem dX7_advance_35 : decode cX7_advance 35 = .ok (.goto (-35), 3) := by decide +kernel
theorem dX7_advance_38 : decode cX7_advance 38 = .ok (.aload_n 0, 1) := by decide +kernel
theorem dX7_advance_39 : decode cX7_advance 39 = .ok (.aload_n 0, 1) := by decide +kernel
theorem dX7_advance_40 : decode cX7_advance 40 = .ok (.getfield 178, 3) := by decide +kernel
theorem dX7_advance_43 : decode cX7_advance 43 = .ok (.putfield 181, 3) := by decide +kernel
theorem dX7_advance_46 : decode cX7_advance 46 = .ok (.aload_n 0, 1) := by decide +kernel
theorem dX7_advance_47 : decode cX7_advance 47 = .ok (.getfield 178, 3) := by decide +kernel
theorem dX7_advance_50 : decode cX7_advance 50 = .ok (.aload_n 0, 1) := by decide +kernel
theorem dX7_advance_51 : decode cX7_advance 51 = .ok (.getfield 175, 3) := by decide +kernel
theorem dX7_advance_54 : decode cX7_advance 54 = .ok (.if_icmp .ne 9, 3) := by decide +kernel
theorem dX7_advance_57 : decode cX7_advance 57 = .ok (.aload_n 0, 1) := by decide +kernel
theorem dX7_advance_58 : decode cX7_advance 58 = .ok (.iconst 0, 1) := by decide +kernel
theorem dX7_advance_59 : decode cX7_advance 59 = .ok (.putfield 184, 3) := by decide +kernel
theorem dX7_advance_62 : decode cX7_advance 62 = .ok (.return_, 1) := by decide +kernel
theorem dX7_advance_63 : decode cX7_advance 63 = .ok (.aload_n 0, 1) := by decide +kernel
theorem dX7_advance_64 : decode cX7_advance 64 = .ok (.getfield 98, 3) := by decide +kernel
theorem dX7_advance_67 : decode cX7_advance 67 = .ok (.aload_n 0, 1) := by decide +kernel
theorem dX7_advance_68 : decode cX7_advance 68 = .ok (.getfield 178, 3) := by decide +kernel
theorem dX7_advance_71 : decode cX7_advance 71 = .ok (.baload, 1) := by decide +kernel
theorem dX7_advance_72 : decode cX7_advance 72 = .ok (.istore_n 1, 1) := by decide +kernel
theorem dX7_advance_73 : decode cX7_advance 73 = .ok (.iload_n 1, 1) := by decide +kernel
theorem dX7_advance_74 : decode cX7_advance 74 = .ok (.invokestatic 187, 3) := by decide +kernel
theorem dX7_advance_77 : decode cX7_advance 77 = .ok (.ifCond .eq 102, 3) := by decide +kernel
theorem dX7_advance_80 : decode cX7_advance 80 = .ok (.lconst 0, 1) := by decide +kernel
theorem dX7_advance_81 : decode cX7_advance 81 = .ok (.lstore_n 2, 1) := by decide +kernel
theorem dX7_advance_82 : decode cX7_advance 82 = .ok (.iconst 0, 1) := by decide +kernel
theorem dX7_advance_83 : decode cX7_advance 83 = .ok (.istore 4, 2) := by decide +kernel
theorem dX7_advance_85 : decode cX7_advance 85 = .ok (.aload_n 0, 1) := by decide +kernel
theorem dX7_advance_86 : decode cX7_advance 86 = .ok (.getfield 178, 3) := by decide +kernel
theorem dX7_advance_89 : decode cX7_advance 89 = .ok (.aload_n 0, 1) := by decide +kernel
theorem dX7_advance_90 : decode cX7_advance 90 = .ok (.getfield 175, 3) := by decide +kernel
theorem dX7_advance_93 : decode cX7_advance 93 = .ok (.if_icmp .ge 66, 3) := by decide +kernel
theorem dX7_advance_96 : decode cX7_advance 96 = .ok (.aload_n 0, 1) := by decide +kernel
theorem dX7_advance_97 : decode cX7_advance 97 = .ok (.getfield 98, 3) := by decide +kernel
theorem dX7_advance_100 : decode cX7_advance 100 = .ok (.aload_n 0, 1) := by decide +kernel
theorem dX7_advance_101 : decode cX7_advance 101 = .ok (.getfield 178, 3) := by decide +kernel
theorem dX7_advance_104 : decode cX7_advance 104 = .ok (.baload, 1) := by decide +kernel
theorem dX7_advance_105 : decode cX7_advance 105 = .ok (.invokestatic 187, 3) := by decide +kernel
theorem dX7_advance_108 : decode cX7_advance 108 = .ok (.ifCond .eq 51, 3) := by decide +kernel
theorem dX7_advance_111 : decode cX7_advance 111 = .ok (.iload 4, 2) := by decide +kernel
theorem dX7_advance_113 : decode cX7_advance 113 = .ok (.bipush 8, 2) := by decide +kernel
theorem dX7_advance_115 : decode cX7_advance 115 = .ok (.if_icmp .ge 26, 3) := by decide +kernel
theorem dX7_advance_118 : decode cX7_advance 118 = .ok (.lload_n 2, 1) := by decide +kernel
theorem dX7_advance_119 : decode cX7_advance 119 = .ok (.ldc2_w 190, 3) := by decide +kernel
theorem dX7_advance_122 : decode cX7_advance 122 = .ok (.lmul, 1) := by decide +kernel
theorem dX7_advance_123 : decode cX7_advance 123 = .ok (.aload_n 0, 1) := by decide +kernel
theorem dX7_advance_124 : decode cX7_advance 124 = .ok (.getfield 98, 3) := by decide +kernel
theorem dX7_advance_127 : decode cX7_advance 127 = .ok (.aload_n 0, 1) := by decide +kernel
theorem dX7_advance_128 : decode cX7_advance 128 = .ok (.getfield 178, 3) := by decide +kernel
theorem dX7_advance_131 : decode cX7_advance 131 = .ok (.baload, 1) := by decide +kernel
theorem dX7_advance_132 : decode cX7_advance 132 = .ok (.i2l, 1) := by decide +kernel
theorem dX7_advance_133 : decode cX7_advance 133 = .ok (.ladd, 1) := by decide +kernel
theorem dX7_advance_134 : decode cX7_advance 134 = .ok (.ldc2_w 192, 3) := by decide +kernel
theorem dX7_advance_137 : decode cX7_advance 137 = .ok (.lsub, 1) := by decide +kernel
theorem dX7_advance_138 : decode cX7_advance 138 = .ok (.goto 4, 3) := by decide +kernel
theorem dX7_advance_141 : decode cX7_advance 141 = .ok (.lload_n 2, 1) := by decide +kernel
theorem dX7_advance_142 : decode cX7_advance 142 = .ok (.lstore_n 2, 1) := by decide +kernel
theorem dX7_advance_143 : decode cX7_advance 143 = .ok (.aload_n 0, 1) := by decide +kernel
theorem dX7_advance_144 : decode cX7_advance 144 = .ok (.dup, 1) := by decide +kernel
theorem dX7_advance_145 : decode cX7_advance 145 = .ok (.getfield 178, 3) := by decide +kernel
theorem dX7_advance_148 : decode cX7_advance 148 = .ok (.iconst 1, 1) := by decide +kernel
theorem dX7_advance_149 : decode cX7_advance 149 = .ok (.iadd, 1) := by decide +kernel
theorem dX7_advance_150 : decode cX7_advance 150 = .ok (.putfield 178, 3) := by decide +kernel
theorem dX7_advance_153 : decode cX7_advance 153 = .ok (.iinc 4 1, 3) := by decide +kernel
theorem dX7_advance_156 : decode cX7_advance 156 = .ok (.goto (-71), 3) := by decide +kernel
theorem dX7_advance_159 : decode cX7_advance 159 = .ok (.aload_n 0, 1) := by decide +kernel
theorem dX7_advance_160 : decode cX7_advance 160 = .ok (.iload 4, 2) := by decide +kernel
theorem dX7_advance_162 : decode cX7_advance 162 = .ok (.bipush 7, 2) := by decide +kernel
theorem dX7_advance_164 : decode cX7_advance 164 = .ok (.if_icmp .le 7, 3) := by decide +kernel
theorem dX7_advance_167 : decode cX7_advance 167 = .ok (.iconst 2, 1) := by decide +kernel
theorem dX7_advance_168 : decode cX7_advance 168 = .ok (.goto 7, 3) := by decide +kernel
theorem dX7_advance_171 : decode cX7_advance 171 = .ok (.lload_n 2, 1) := by decide +kernel
theorem dX7_advance_172 : decode cX7_advance 172 = .ok (.invokestatic 194, 3) := by decide +kernel
theorem dX7_advance_175 : decode cX7_advance 175 = .ok (.putfield 184, 3) := by decide +kernel
theorem dX7_advance_178 : decode cX7_advance 178 = .ok (.return_, 1) := by decide +kernel
theorem dX7_advance_179 : decode cX7_advance 179 = .ok (.iload_n 1, 1) := by decide +kernel
theorem dX7_advance_180 : decode cX7_advance 180 = .ok (.invokestatic 198, 3) := by decide +kernel
theorem dX7_advance_183 : decode cX7_advance 183 = .ok (.ifCond .eq 103, 3) := by decide +kernel
theorem dX7_advance_186 : decode cX7_advance 186 = .ok (.iconst 0, 1) := by decide +kernel
theorem dX7_advance_187 : decode cX7_advance 187 = .ok (.istore_n 2, 1) := by decide +kernel
theorem dX7_advance_188 : decode cX7_advance 188 = .ok (.aload_n 0, 1) := by decide +kernel
theorem dX7_advance_189 : decode cX7_advance 189 = .ok (.iconst 0, 1) := by decide +kernel
theorem dX7_advance_190 : decode cX7_advance 190 = .ok (.putfield 201, 3) := by decide +kernel
theorem dX7_advance_193 : decode cX7_advance 193 = .ok (.aload_n 0, 1) := by decide +kernel
theorem dX7_advance_194 : decode cX7_advance 194 = .ok (.getfield 178, 3) := by decide +kernel
theorem dX7_advance_197 : decode cX7_advance 197 = .ok (.aload_n 0, 1) := by decide +kernel
theorem dX7_advance_198 : decode cX7_advance 198 = .ok (.getfield 175, 3) := by decide +kernel
theorem dX7_advance_201 : decode cX7_advance 201 = .ok (.if_icmp .ge 70, 3) := by decide +kernel
theorem dX7_advance_204 : decode cX7_advance 204 = .ok (.aload_n 0, 1) := by decide +kernel
theorem dX7_advance_205 : decode cX7_advance 205 = .ok (.getfield 98, 3) := by decide +kernel
theorem dX7_advance_208 : decode cX7_advance 208 = .ok (.aload_n 0, 1) := by decide +kernel
theorem dX7_advance_209 : decode cX7_advance 209 = .ok (.getfield 178, 3) := by decide +kernel
theorem dX7_advance_212 : decode cX7_advance 212 = .ok (.baload, 1) := by decide +kernel
theorem dX7_advance_213 : decode cX7_advance 213 = .ok (.invokestatic 198, 3) := by decide +kernel
theorem dX7_advance_216 : decode cX7_advance 216 = .ok (.ifCond .eq 55, 3) := by decide +kernel
theorem dX7_advance_219 : decode cX7_advance 219 = .ok (.aload_n 0, 1) := by decide +kernel
theorem dX7_advance_220 : decode cX7_advance 220 = .ok (.iload_n 2, 1) := by decide +kernel
theorem dX7_advance_221 : decode cX7_advance 221 = .ok (.iconst 5, 1) := by decide +kernel
theorem dX7_advance_222 : decode cX7_advance 222 = .ok (.if_icmp .ge 26, 3) := by decide +kernel
theorem dX7_advance_225 : decode cX7_advance 225 = .ok (.bipush 10, 2) := by decide +kernel
theorem dX7_advance_227 : decode cX7_advance 227 = .ok (.aload_n 0, 1) := by decide +kernel
theorem dX7_advance_228 : decode cX7_advance 228 = .ok (.getfield 201, 3) := by decide +kernel
theorem dX7_advance_231 : decode cX7_advance 231 = .ok (.imul, 1) := by decide +kernel
theorem dX7_advance_232 : decode cX7_advance 232 = .ok (.aload_n 0, 1) := by decide +kernel
theorem dX7_advance_233 : decode cX7_advance 233 = .ok (.getfield 98, 3) := by decide +kernel
theorem dX7_advance_236 : decode cX7_advance 236 = .ok (.aload_n 0, 1) := by decide +kernel
theorem dX7_advance_237 : decode cX7_advance 237 = .ok (.getfield 178, 3) := by decide +kernel
theorem dX7_advance_240 : decode cX7_advance 240 = .ok (.baload, 1) := by decide +kernel
theorem dX7_advance_241 : decode cX7_advance 241 = .ok (.iadd, 1) := by decide +kernel
theorem dX7_advance_242 : decode cX7_advance 242 = .ok (.bipush 48, 2) := by decide +kernel
theorem dX7_advance_244 : decode cX7_advance 244 = .ok (.isub, 1) := by decide +kernel
theorem dX7_advance_245 : decode cX7_advance 245 = .ok (.goto 7, 3) := by decide +kernel
theorem dX7_advance_248 : decode cX7_advance 248 = .ok (.aload_n 0, 1) := by decide +kernel
theorem dX7_advance_249 : decode cX7_advance 249 = .ok (.getfield 201, 3) := by decide +kernel
theorem dX7_advance_252 : decode cX7_advance 252 = .ok (.putfield 201, 3) := by decide +kernel
theorem dX7_advance_255 : decode cX7_advance 255 = .ok (.aload_n 0, 1) := by decide +kernel
theorem dX7_advance_256 : decode cX7_advance 256 = .ok (.dup, 1) := by decide +kernel
theorem dX7_advance_257 : decode cX7_advance 257 = .ok (.getfield 178, 3) := by decide +kernel
theorem dX7_advance_260 : decode cX7_advance 260 = .ok (.iconst 1, 1) := by decide +kernel
theorem dX7_advance_261 : decode cX7_advance 261 = .ok (.iadd, 1) := by decide +kernel
theorem dX7_advance_262 : decode cX7_advance 262 = .ok (.putfield 178, 3) := by decide +kernel
theorem dX7_advance_265 : decode cX7_advance 265 = .ok (.iinc 2 1, 3) := by decide +kernel
theorem dX7_advance_268 : decode cX7_advance 268 = .ok (.goto (-75), 3) := by decide +kernel
theorem dX7_advance_271 : decode cX7_advance 271 = .ok (.aload_n 0, 1) := by decide +kernel
theorem dX7_advance_272 : decode cX7_advance 272 = .ok (.iload_n 2, 1) := by decide +kernel
theorem dX7_advance_273 : decode cX7_advance 273 = .ok (.iconst 5, 1) := by decide +kernel
theorem dX7_advance_274 : decode cX7_advance 274 = .ok (.if_icmp .le 7, 3) := by decide +kernel
theorem dX7_advance_277 : decode cX7_advance 277 = .ok (.iconst 2, 1) := by decide +kernel
theorem dX7_advance_278 : decode cX7_advance 278 = .ok (.goto 4, 3) := by decide +kernel
theorem dX7_advance_281 : decode cX7_advance 281 = .ok (.iconst 1, 1) := by decide +kernel
theorem dX7_advance_282 : decode cX7_advance 282 = .ok (.putfield 184, 3) := by decide +kernel
theorem dX7_advance_285 : decode cX7_advance 285 = .ok (.return_, 1) := by decide +kernel
theorem dX7_advance_286 : decode cX7_advance 286 = .ok (.aload_n 0, 1) := by decide +kernel
theorem dX7_advance_287 : decode cX7_advance 287 = .ok (.dup, 1) := by decide +kernel
theorem dX7_advance_288 : decode cX7_advance 288 = .ok (.getfield 178, 3) := by decide +kernel
theorem dX7_advance_291 : decode cX7_advance 291 = .ok (.iconst 1, 1) := by decide +kernel
theorem dX7_advance_292 : decode cX7_advance 292 = .ok (.iadd, 1) := by decide +kernel
theorem dX7_advance_293 : decode cX7_advance 293 = .ok (.putfield 178, 3) := by decide +kernel
theorem dX7_advance_296 : decode cX7_advance 296 = .ok (.aload_n 0, 1) := by decide +kernel
theorem dX7_advance_297 : decode cX7_advance 297 = .ok (.iload_n 1, 1) := by decide +kernel
theorem dX7_advance_298 : decode cX7_advance 298 = .ok (.invokestatic 204, 3) := by decide +kernel
theorem dX7_advance_301 : decode cX7_advance 301 = .ok (.putfield 184, 3) := by decide +kernel
theorem dX7_advance_304 : decode cX7_advance 304 = .ok (.return_, 1) := by decide +kernel
theorem dX7_signOf_0 : decode cX7_signOf 0 = .ok (.iload_n 0, 1) := by decide +kernel
theorem dX7_signOf_1 : decode cX7_signOf 1 = .ok (.tableswitch 130 40 62 #[107, 109, 112, 115, 130, 118, 130, 130, 130, 130, 130, 130, 130, 130, 130, 130, 130, 130, 130, 130, 121, 124, 127], 107) := by decide +kernel
theorem dX7_signOf_108 : decode cX7_signOf 108 = .ok (.iconst 5, 1) := by decide +kernel
theorem dX7_signOf_109 : decode cX7_signOf 109 = .ok (.ireturn, 1) := by decide +kernel
theorem dX7_signOf_110 : decode cX7_signOf 110 = .ok (.bipush 6, 2) := by decide +kernel
theorem dX7_signOf_112 : decode cX7_signOf 112 = .ok (.ireturn, 1) := by decide +kernel
theorem dX7_signOf_113 : decode cX7_signOf 113 = .ok (.bipush 60, 2) := by decide +kernel
theorem dX7_signOf_115 : decode cX7_signOf 115 = .ok (.ireturn, 1) := by decide +kernel
theorem dX7_signOf_116 : decode cX7_signOf 116 = .ok (.bipush 50, 2) := by decide +kernel
theorem dX7_signOf_118 : decode cX7_signOf 118 = .ok (.ireturn, 1) := by decide +kernel
theorem dX7_signOf_119 : decode cX7_signOf 119 = .ok (.bipush 51, 2) := by decide +kernel
theorem dX7_signOf_121 : decode cX7_signOf 121 = .ok (.ireturn, 1) := by decide +kernel
theorem dX7_signOf_122 : decode cX7_signOf 122 = .ok (.bipush 40, 2) := by decide +kernel
theorem dX7_signOf_124 : decode cX7_signOf 124 = .ok (.ireturn, 1) := by decide +kernel
theorem dX7_signOf_125 : decode cX7_signOf 125 = .ok (.bipush 41, 2) := by decide +kernel
theorem dX7_signOf_127 : decode cX7_signOf 127 = .ok (.ireturn, 1) := by decide +kernel
theorem dX7_signOf_128 : decode cX7_signOf 128 = .ok (.bipush 42, 2) := by decide +kernel
theorem dX7_signOf_130 : decode cX7_signOf 130 = .ok (.ireturn, 1) := by decide +kernel
theorem dX7_signOf_131 : decode cX7_signOf 131 = .ok (.iconst 2, 1) := by decide +kernel
theorem dX7_signOf_132 : decode cX7_signOf 132 = .ok (.ireturn, 1) := by decide +kernel
theorem dX7_wordOf_0 : decode cX7_wordOf 0 = .ok (.lload_n 0, 1) := by decide +kernel
theorem dX7_wordOf_1 : decode cX7_wordOf 1 = .ok (.ldc2_w 208, 3) := by decide +kernel
theorem dX7_wordOf_4 : decode cX7_wordOf 4 = .ok (.lcmp, 1) := by decide +kernel
theorem dX7_wordOf_5 : decode cX7_wordOf 5 = .ok (.ifCond .ne 6, 3) := by decide +kernel
theorem dX7_wordOf_8 : decode cX7_wordOf 8 = .ok (.bipush 10, 2) := by decide +kernel
theorem dX7_wordOf_10 : decode cX7_wordOf 10 = .ok (.ireturn, 1) := by decide +kernel
theorem dX7_wordOf_11 : decode cX7_wordOf 11 = .ok (.lload_n 0, 1) := by decide +kernel
theorem dX7_wordOf_12 : decode cX7_wordOf 12 = .ok (.ldc2_w 210, 3) := by decide +kernel
theorem dX7_wordOf_15 : decode cX7_wordOf 15 = .ok (.lcmp, 1) := by decide +kernel
theorem dX7_wordOf_16 : decode cX7_wordOf 16 = .ok (.ifCond .ne 6, 3) := by decide +kernel
theorem dX7_wordOf_19 : decode cX7_wordOf 19 = .ok (.bipush 20, 2) := by decide +kernel
theorem dX7_wordOf_21 : decode cX7_wordOf 21 = .ok (.ireturn, 1) := by decide +kernel
theorem dX7_wordOf_22 : decode cX7_wordOf 22 = .ok (.lload_n 0, 1) := by decide +kernel
theorem dX7_wordOf_23 : decode cX7_wordOf 23 = .ok (.ldc2_w 212, 3) := by decide +kernel
theorem dX7_wordOf_26 : decode cX7_wordOf 26 = .ok (.lcmp, 1) := by decide +kernel
theorem dX7_wordOf_27 : decode cX7_wordOf 27 = .ok (.ifCond .ne 6, 3) := by decide +kernel
theorem dX7_wordOf_30 : decode cX7_wordOf 30 = .ok (.bipush 30, 2) := by decide +kernel
theorem dX7_wordOf_32 : decode cX7_wordOf 32 = .ok (.ireturn, 1) := by decide +kernel
theorem dX7_wordOf_33 : decode cX7_wordOf 33 = .ok (.lload_n 0, 1) := by decide +kernel
theorem dX7_wordOf_34 : decode cX7_wordOf 34 = .ok (.ldc2_w 214, 3) := by decide +kernel
theorem dX7_wordOf_37 : decode cX7_wordOf 37 = .ok (.lcmp, 1) := by decide +kernel
theorem dX7_wordOf_38 : decode cX7_wordOf 38 = .ok (.ifCond .ne 6, 3) := by decide +kernel
theorem dX7_wordOf_41 : decode cX7_wordOf 41 = .ok (.bipush 100, 2) := by decide +kernel
theorem dX7_wordOf_43 : decode cX7_wordOf 43 = .ok (.ireturn, 1) := by decide +kernel
theorem dX7_wordOf_44 : decode cX7_wordOf 44 = .ok (.lload_n 0, 1) := by decide +kernel
theorem dX7_wordOf_45 : decode cX7_wordOf 45 = .ok (.ldc2_w 216, 3) := by decide +kernel
theorem dX7_wordOf_48 : decode cX7_wordOf 48 = .ok (.lcmp, 1) := by decide +kernel
theorem dX7_wordOf_49 : decode cX7_wordOf 49 = .ok (.ifCond .ne 6, 3) := by decide +kernel
theorem dX7_wordOf_52 : decode cX7_wordOf 52 = .ok (.bipush 101, 2) := by decide +kernel
theorem dX7_wordOf_54 : decode cX7_wordOf 54 = .ok (.ireturn, 1) := by decide +kernel
theorem dX7_wordOf_55 : decode cX7_wordOf 55 = .ok (.lload_n 0, 1) := by decide +kernel
theorem dX7_wordOf_56 : decode cX7_wordOf 56 = .ok (.ldc2_w 218, 3) := by decide +kernel
theorem dX7_wordOf_59 : decode cX7_wordOf 59 = .ok (.lcmp, 1) := by decide +kernel
theorem dX7_wordOf_60 : decode cX7_wordOf 60 = .ok (.ifCond .ne 6, 3) := by decide +kernel
theorem dX7_wordOf_63 : decode cX7_wordOf 63 = .ok (.bipush 102, 2) := by decide +kernel
theorem dX7_wordOf_65 : decode cX7_wordOf 65 = .ok (.ireturn, 1) := by decide +kernel
theorem dX7_wordOf_66 : decode cX7_wordOf 66 = .ok (.lload_n 0, 1) := by decide +kernel
theorem dX7_wordOf_67 : decode cX7_wordOf 67 = .ok (.ldc2_w 220, 3) := by decide +kernel
theorem dX7_wordOf_70 : decode cX7_wordOf 70 = .ok (.lcmp, 1) := by decide +kernel
theorem dX7_wordOf_71 : decode cX7_wordOf 71 = .ok (.ifCond .ne 6, 3) := by decide +kernel
theorem dX7_wordOf_74 : decode cX7_wordOf 74 = .ok (.bipush 103, 2) := by decide +kernel
theorem dX7_wordOf_76 : decode cX7_wordOf 76 = .ok (.ireturn, 1) := by decide +kernel
theorem dX7_wordOf_77 : decode cX7_wordOf 77 = .ok (.lload_n 0, 1) := by decide +kernel
theorem dX7_wordOf_78 : decode cX7_wordOf 78 = .ok (.ldc2_w 222, 3) := by decide +kernel
theorem dX7_wordOf_81 : decode cX7_wordOf 81 = .ok (.lcmp, 1) := by decide +kernel
theorem dX7_wordOf_82 : decode cX7_wordOf 82 = .ok (.ifCond .ne 6, 3) := by decide +kernel
theorem dX7_wordOf_85 : decode cX7_wordOf 85 = .ok (.bipush 104, 2) := by decide +kernel
theorem dX7_wordOf_87 : decode cX7_wordOf 87 = .ok (.ireturn, 1) := by decide +kernel
theorem dX7_wordOf_88 : decode cX7_wordOf 88 = .ok (.lload_n 0, 1) := by decide +kernel
theorem dX7_wordOf_89 : decode cX7_wordOf 89 = .ok (.ldc2_w 224, 3) := by decide +kernel
theorem dX7_wordOf_92 : decode cX7_wordOf 92 = .ok (.lcmp, 1) := by decide +kernel
theorem dX7_wordOf_93 : decode cX7_wordOf 93 = .ok (.ifCond .ne 6, 3) := by decide +kernel
theorem dX7_wordOf_96 : decode cX7_wordOf 96 = .ok (.bipush 105, 2) := by decide +kernel
theorem dX7_wordOf_98 : decode cX7_wordOf 98 = .ok (.ireturn, 1) := by decide +kernel
theorem dX7_wordOf_99 : decode cX7_wordOf 99 = .ok (.lload_n 0, 1) := by decide +kernel
theorem dX7_wordOf_100 : decode cX7_wordOf 100 = .ok (.ldc2_w 226, 3) := by decide +kernel
theorem dX7_wordOf_103 : decode cX7_wordOf 103 = .ok (.lcmp, 1) := by decide +kernel
theorem dX7_wordOf_104 : decode cX7_wordOf 104 = .ok (.ifCond .ne 6, 3) := by decide +kernel
theorem dX7_wordOf_107 : decode cX7_wordOf 107 = .ok (.bipush 106, 2) := by decide +kernel
theorem dX7_wordOf_109 : decode cX7_wordOf 109 = .ok (.ireturn, 1) := by decide +kernel
theorem dX7_wordOf_110 : decode cX7_wordOf 110 = .ok (.lload_n 0, 1) := by decide +kernel
theorem dX7_wordOf_111 : decode cX7_wordOf 111 = .ok (.ldc2_w 228, 3) := by decide +kernel
theorem dX7_wordOf_114 : decode cX7_wordOf 114 = .ok (.lcmp, 1) := by decide +kernel
theorem dX7_wordOf_115 : decode cX7_wordOf 115 = .ok (.ifCond .ne 6, 3) := by decide +kernel
theorem dX7_wordOf_118 : decode cX7_wordOf 118 = .ok (.bipush 107, 2) := by decide +kernel
theorem dX7_wordOf_120 : decode cX7_wordOf 120 = .ok (.ireturn, 1) := by decide +kernel
theorem dX7_wordOf_121 : decode cX7_wordOf 121 = .ok (.lload_n 0, 1) := by decide +kernel
theorem dX7_wordOf_122 : decode cX7_wordOf 122 = .ok (.ldc2_w 230, 3) := by decide +kernel
theorem dX7_wordOf_125 : decode cX7_wordOf 125 = .ok (.lcmp, 1) := by decide +kernel
theorem dX7_wordOf_126 : decode cX7_wordOf 126 = .ok (.ifCond .ne 6, 3) := by decide +kernel
theorem dX7_wordOf_129 : decode cX7_wordOf 129 = .ok (.bipush 108, 2) := by decide +kernel
theorem dX7_wordOf_131 : decode cX7_wordOf 131 = .ok (.ireturn, 1) := by decide +kernel
theorem dX7_wordOf_132 : decode cX7_wordOf 132 = .ok (.lload_n 0, 1) := by decide +kernel
theorem dX7_wordOf_133 : decode cX7_wordOf 133 = .ok (.ldc2_w 232, 3) := by decide +kernel
theorem dX7_wordOf_136 : decode cX7_wordOf 136 = .ok (.lcmp, 1) := by decide +kernel
theorem dX7_wordOf_137 : decode cX7_wordOf 137 = .ok (.ifCond .ne 6, 3) := by decide +kernel
theorem dX7_wordOf_140 : decode cX7_wordOf 140 = .ok (.bipush 109, 2) := by decide +kernel
theorem dX7_wordOf_142 : decode cX7_wordOf 142 = .ok (.ireturn, 1) := by decide +kernel
theorem dX7_wordOf_143 : decode cX7_wordOf 143 = .ok (.lload_n 0, 1) := by decide +kernel
theorem dX7_wordOf_144 : decode cX7_wordOf 144 = .ok (.ldc2_w 234, 3) := by decide +kernel
theorem dX7_wordOf_147 : decode cX7_wordOf 147 = .ok (.lcmp, 1) := by decide +kernel
theorem dX7_wordOf_148 : decode cX7_wordOf 148 = .ok (.ifCond .ne 6, 3) := by decide +kernel
theorem dX7_wordOf_151 : decode cX7_wordOf 151 = .ok (.bipush 110, 2) := by decide +kernel
theorem dX7_wordOf_153 : decode cX7_wordOf 153 = .ok (.ireturn, 1) := by decide +kernel
theorem dX7_wordOf_154 : decode cX7_wordOf 154 = .ok (.lload_n 0, 1) := by decide +kernel
theorem dX7_wordOf_155 : decode cX7_wordOf 155 = .ok (.ldc2_w 236, 3) := by decide +kernel
theorem dX7_wordOf_158 : decode cX7_wordOf 158 = .ok (.lcmp, 1) := by decide +kernel
theorem dX7_wordOf_159 : decode cX7_wordOf 159 = .ok (.ifCond .ne 6, 3) := by decide +kernel
theorem dX7_wordOf_162 : decode cX7_wordOf 162 = .ok (.bipush 111, 2) := by decide +kernel
theorem dX7_wordOf_164 : decode cX7_wordOf 164 = .ok (.ireturn, 1) := by decide +kernel
theorem dX7_wordOf_165 : decode cX7_wordOf 165 = .ok (.lload_n 0, 1) := by decide +kernel
theorem dX7_wordOf_166 : decode cX7_wordOf 166 = .ok (.ldc2_w 238, 3) := by decide +kernel
theorem dX7_wordOf_169 : decode cX7_wordOf 169 = .ok (.lcmp, 1) := by decide +kernel
theorem dX7_wordOf_170 : decode cX7_wordOf 170 = .ok (.ifCond .ne 6, 3) := by decide +kernel
theorem dX7_wordOf_173 : decode cX7_wordOf 173 = .ok (.bipush 112, 2) := by decide +kernel
theorem dX7_wordOf_175 : decode cX7_wordOf 175 = .ok (.ireturn, 1) := by decide +kernel
theorem dX7_wordOf_176 : decode cX7_wordOf 176 = .ok (.iconst 2, 1) := by decide +kernel
theorem dX7_wordOf_177 : decode cX7_wordOf 177 = .ok (.ireturn, 1) := by decide +kernel
theorem dX7_tight_0 : decode cX7_tight 0 = .ok (.iload_n 0, 1) := by decide +kernel
theorem dX7_tight_1 : decode cX7_tight 1 = .ok (.iconst 5, 1) := by decide +kernel
theorem dX7_tight_2 : decode cX7_tight 2 = .ok (.if_icmp .ne 7, 3) := by decide +kernel
theorem dX7_tight_5 : decode cX7_tight 5 = .ok (.iconst 0, 1) := by decide +kernel
theorem dX7_tight_6 : decode cX7_tight 6 = .ok (.goto 7, 3) := by decide +kernel
theorem dX7_tight_9 : decode cX7_tight 9 = .ok (.iload_n 0, 1) := by decide +kernel
theorem dX7_tight_10 : decode cX7_tight 10 = .ok (.bipush 10, 2) := by decide +kernel
theorem dX7_tight_12 : decode cX7_tight 12 = .ok (.idiv, 1) := by decide +kernel
theorem dX7_tight_13 : decode cX7_tight 13 = .ok (.ireturn, 1) := by decide +kernel
theorem dX7_lay_0 : decode cX7_lay 0 = .ok (.aload_n 0, 1) := by decide +kernel
theorem dX7_lay_1 : decode cX7_lay 1 = .ok (.getfield 111, 3) := by decide +kernel
theorem dX7_lay_4 : decode cX7_lay 4 = .ok (.aload_n 0, 1) := by decide +kernel
theorem dX7_lay_5 : decode cX7_lay 5 = .ok (.getfield 240, 3) := by decide +kernel
theorem dX7_lay_8 : decode cX7_lay 8 = .ok (.iload_n 1, 1) := by decide +kernel
theorem dX7_lay_9 : decode cX7_lay 9 = .ok (.iastore, 1) := by decide +kernel
theorem dX7_lay_10 : decode cX7_lay 10 = .ok (.aload_n 0, 1) := by decide +kernel
theorem dX7_lay_11 : decode cX7_lay 11 = .ok (.getfield 114, 3) := by decide +kernel
theorem dX7_lay_14 : decode cX7_lay 14 = .ok (.aload_n 0, 1) := by decide +kernel
theorem dX7_lay_15 : decode cX7_lay 15 = .ok (.getfield 240, 3) := by decide +kernel
theorem dX7_lay_18 : decode cX7_lay 18 = .ok (.iload_n 2, 1) := by decide +kernel
theorem dX7_lay_19 : decode cX7_lay 19 = .ok (.iastore, 1) := by decide +kernel
theorem dX7_lay_20 : decode cX7_lay 20 = .ok (.aload_n 0, 1) := by decide +kernel
theorem dX7_lay_21 : decode cX7_lay 21 = .ok (.dup, 1) := by decide +kernel
theorem dX7_lay_22 : decode cX7_lay 22 = .ok (.getfield 240, 3) := by decide +kernel
theorem dX7_lay_25 : decode cX7_lay 25 = .ok (.iconst 1, 1) := by decide +kernel
theorem dX7_lay_26 : decode cX7_lay 26 = .ok (.iadd, 1) := by decide +kernel
theorem dX7_lay_27 : decode cX7_lay 27 = .ok (.putfield 240, 3) := by decide +kernel
theorem dX7_lay_30 : decode cX7_lay 30 = .ok (.return_, 1) := by decide +kernel
theorem dX7_done_0 : decode cX7_done 0 = .ok (.aload_n 0, 1) := by decide +kernel
theorem dX7_done_1 : decode cX7_done 1 = .ok (.getfield 243, 3) := by decide +kernel
theorem dX7_done_4 : decode cX7_done 4 = .ok (.ifCond .le 48, 3) := by decide +kernel
theorem dX7_done_7 : decode cX7_done 7 = .ok (.aload_n 0, 1) := by decide +kernel
theorem dX7_done_8 : decode cX7_done 8 = .ok (.getfield 117, 3) := by decide +kernel
theorem dX7_done_11 : decode cX7_done 11 = .ok (.aload_n 0, 1) := by decide +kernel
theorem dX7_done_12 : decode cX7_done 12 = .ok (.getfield 243, 3) := by decide +kernel
theorem dX7_done_15 : decode cX7_done 15 = .ok (.iconst 1, 1) := by decide +kernel
theorem dX7_done_16 : decode cX7_done 16 = .ok (.isub, 1) := by decide +kernel
theorem dX7_done_17 : decode cX7_done 17 = .ok (.iaload, 1) := by decide +kernel
theorem dX7_done_18 : decode cX7_done 18 = .ok (.invokestatic 246, 3) := by decide +kernel
theorem dX7_done_21 : decode cX7_done 21 = .ok (.iload_n 1, 1) := by decide +kernel
theorem dX7_done_22 : decode cX7_done 22 = .ok (.if_icmp .lt 30, 3) := by decide +kernel
theorem dX7_done_25 : decode cX7_done 25 = .ok (.aload_n 0, 1) := by decide +kernel
theorem dX7_done_26 : decode cX7_done 26 = .ok (.dup, 1) := by decide +kernel
theorem dX7_done_27 : decode cX7_done 27 = .ok (.getfield 243, 3) := by decide +kernel
theorem dX7_done_30 : decode cX7_done 30 = .ok (.iconst 1, 1) := by decide +kernel
theorem dX7_done_31 : decode cX7_done 31 = .ok (.isub, 1) := by decide +kernel
theorem dX7_done_32 : decode cX7_done 32 = .ok (.putfield 243, 3) := by decide +kernel
theorem dX7_done_35 : decode cX7_done 35 = .ok (.aload_n 0, 1) := by decide +kernel
theorem dX7_done_36 : decode cX7_done 36 = .ok (.aload_n 0, 1) := by decide +kernel
theorem dX7_done_37 : decode cX7_done 37 = .ok (.getfield 117, 3) := by decide +kernel
theorem dX7_done_40 : decode cX7_done 40 = .ok (.aload_n 0, 1) := by decide +kernel
theorem dX7_done_41 : decode cX7_done 41 = .ok (.getfield 243, 3) := by decide +kernel
theorem dX7_done_44 : decode cX7_done 44 = .ok (.iaload, 1) := by decide +kernel
theorem dX7_done_45 : decode cX7_done 45 = .ok (.iconst 0, 1) := by decide +kernel
theorem dX7_done_46 : decode cX7_done 46 = .ok (.invokevirtual 249, 3) := by decide +kernel
theorem dX7_done_49 : decode cX7_done 49 = .ok (.goto (-49), 3) := by decide +kernel
theorem dX7_done_52 : decode cX7_done 52 = .ok (.return_, 1) := by decide +kernel
theorem dX7_opened_0 : decode cX7_opened 0 = .ok (.iconst 0, 1) := by decide +kernel
theorem dX7_opened_1 : decode cX7_opened 1 = .ok (.istore_n 1, 1) := by decide +kernel
theorem dX7_opened_2 : decode cX7_opened 2 = .ok (.iconst 0, 1) := by decide +kernel
theorem dX7_opened_3 : decode cX7_opened 3 = .ok (.istore_n 2, 1) := by decide +kernel
theorem dX7_opened_4 : decode cX7_opened 4 = .ok (.iload_n 2, 1) := by decide +kernel
theorem dX7_opened_5 : decode cX7_opened 5 = .ok (.aload_n 0, 1) := by decide +kernel
theorem dX7_opened_6 : decode cX7_opened 6 = .ok (.getfield 243, 3) := by decide +kernel
theorem dX7_opened_9 : decode cX7_opened 9 = .ok (.if_icmp .ge 49, 3) := by decide +kernel
theorem dX7_opened_12 : decode cX7_opened 12 = .ok (.iload_n 1, 1) := by decide +kernel
theorem dX7_opened_13 : decode cX7_opened 13 = .ok (.aload_n 0, 1) := by decide +kernel
theorem dX7_opened_14 : decode cX7_opened 14 = .ok (.getfield 117, 3) := by decide +kernel
theorem dX7_opened_17 : decode cX7_opened 17 = .ok (.iload_n 2, 1) := by decide +kernel
theorem dX7_opened_18 : decode cX7_opened 18 = .ok (.iaload, 1) := by decide +kernel
theorem dX7_opened_19 : decode cX7_opened 19 = .ok (.iconst 5, 1) := by decide +kernel
theorem dX7_opened_20 : decode cX7_opened 20 = .ok (.if_icmp .eq 25, 3) := by decide +kernel
theorem dX7_opened_23 : decode cX7_opened 23 = .ok (.aload_n 0, 1) := by decide +kernel
theorem dX7_opened_24 : decode cX7_opened 24 = .ok (.getfield 117, 3) := by decide +kernel
theorem dX7_opened_27 : decode cX7_opened 27 = .ok (.iload_n 2, 1) := by decide +kernel
theorem dX7_opened_28 : decode cX7_opened 28 = .ok (.iaload, 1) := by decide +kernel
theorem dX7_opened_29 : decode cX7_opened 29 = .ok (.bipush 30, 2) := by decide +kernel
theorem dX7_opened_31 : decode cX7_opened 31 = .ok (.if_icmp .eq 14, 3) := by decide +kernel
theorem dX7_opened_34 : decode cX7_opened 34 = .ok (.aload_n 0, 1) := by decide +kernel
theorem dX7_opened_35 : decode cX7_opened 35 = .ok (.getfield 117, 3) := by decide +kernel
theorem dX7_opened_38 : decode cX7_opened 38 = .ok (.iload_n 2, 1) := by decide +kernel
theorem dX7_opened_39 : decode cX7_opened 39 = .ok (.iaload, 1) := by decide +kernel
theorem dX7_opened_40 : decode cX7_opened 40 = .ok (.bipush 70, 2) := by decide +kernel
theorem dX7_opened_42 : decode cX7_opened 42 = .ok (.if_icmp .ne 7, 3) := by decide +kernel
theorem dX7_opened_45 : decode cX7_opened 45 = .ok (.iconst 1, 1) := by decide +kernel
theorem dX7_opened_46 : decode cX7_opened 46 = .ok (.goto 4, 3) := by decide +kernel
theorem dX7_opened_49 : decode cX7_opened 49 = .ok (.iconst 0, 1) := by decide +kernel
theorem dX7_opened_50 : decode cX7_opened 50 = .ok (.iadd, 1) := by decide +kernel
theorem dX7_opened_51 : decode cX7_opened 51 = .ok (.istore_n 1, 1) := by decide +kernel
theorem dX7_opened_52 : decode cX7_opened 52 = .ok (.iinc 2 1, 3) := by decide +kernel
theorem dX7_opened_55 : decode cX7_opened 55 = .ok (.goto (-51), 3) := by decide +kernel
theorem dX7_opened_58 : decode cX7_opened 58 = .ok (.iload_n 1, 1) := by decide +kernel
theorem dX7_opened_59 : decode cX7_opened 59 = .ok (.ireturn, 1) := by decide +kernel
theorem dX7_isWaiting_0 : decode cX7_isWaiting 0 = .ok (.aload_n 0, 1) := by decide +kernel
theorem dX7_isWaiting_1 : decode cX7_isWaiting 1 = .ok (.getfield 243, 3) := by decide +kernel
theorem dX7_isWaiting_4 : decode cX7_isWaiting 4 = .ok (.ifCond .le 25, 3) := by decide +kernel
theorem dX7_isWaiting_7 : decode cX7_isWaiting 7 = .ok (.aload_n 0, 1) := by decide +kernel
theorem dX7_isWaiting_8 : decode cX7_isWaiting 8 = .ok (.getfield 117, 3) := by decide +kernel
theorem dX7_isWaiting_11 : decode cX7_isWaiting 11 = .ok (.aload_n 0, 1) := by decide +kernel
theorem dX7_isWaiting_12 : decode cX7_isWaiting 12 = .ok (.getfield 243, 3) := by decide +kernel
theorem dX7_isWaiting_15 : decode cX7_isWaiting 15 = .ok (.iconst 1, 1) := by decide +kernel
theorem dX7_isWaiting_16 : decode cX7_isWaiting 16 = .ok (.isub, 1) := by decide +kernel
theorem dX7_isWaiting_17 : decode cX7_isWaiting 17 = .ok (.iaload, 1) := by decide +kernel
theorem dX7_isWaiting_18 : decode cX7_isWaiting 18 = .ok (.invokestatic 246, 3) := by decide +kernel
theorem dX7_isWaiting_21 : decode cX7_isWaiting 21 = .ok (.iload_n 1, 1) := by decide +kernel
theorem dX7_isWaiting_22 : decode cX7_isWaiting 22 = .ok (.if_icmp .ne 7, 3) := by decide +kernel
theorem dX7_isWaiting_25 : decode cX7_isWaiting 25 = .ok (.iconst 1, 1) := by decide +kernel
theorem dX7_isWaiting_26 : decode cX7_isWaiting 26 = .ok (.goto 4, 3) := by decide +kernel
theorem dX7_isWaiting_29 : decode cX7_isWaiting 29 = .ok (.iconst 0, 1) := by decide +kernel
theorem dX7_isWaiting_30 : decode cX7_isWaiting 30 = .ok (.ireturn, 1) := by decide +kernel
theorem dX7_read_0 : decode cX7_read 0 = .ok (.aload_n 0, 1) := by decide +kernel
theorem dX7_read_1 : decode cX7_read 1 = .ok (.iconst 0, 1) := by decide +kernel
theorem dX7_read_2 : decode cX7_read 2 = .ok (.putfield 178, 3) := by decide +kernel
theorem dX7_read_5 : decode cX7_read 5 = .ok (.aload_n 0, 1) := by decide +kernel
theorem dX7_read_6 : decode cX7_read 6 = .ok (.iconst (-1), 1) := by decide +kernel
theorem dX7_read_7 : decode cX7_read 7 = .ok (.putfield 253, 3) := by decide +kernel
theorem dX7_read_10 : decode cX7_read 10 = .ok (.aload_n 0, 1) := by decide +kernel
theorem dX7_read_11 : decode cX7_read 11 = .ok (.iconst 0, 1) := by decide +kernel
theorem dX7_read_12 : decode cX7_read 12 = .ok (.putfield 243, 3) := by decide +kernel
theorem dX7_read_15 : decode cX7_read 15 = .ok (.aload_n 0, 1) := by decide +kernel
theorem dX7_read_16 : decode cX7_read 16 = .ok (.aload_n 0, 1) := by decide +kernel
theorem dX7_read_17 : decode cX7_read 17 = .ok (.getfield 108, 3) := by decide +kernel
theorem dX7_read_20 : decode cX7_read 20 = .ok (.aload_n 0, 1) := by decide +kernel
theorem dX7_read_21 : decode cX7_read 21 = .ok (.getfield 256, 3) := by decide +kernel
theorem dX7_read_24 : decode cX7_read 24 = .ok (.iaload, 1) := by decide +kernel
theorem dX7_read_25 : decode cX7_read 25 = .ok (.putfield 240, 3) := by decide +kernel
theorem dX7_read_28 : decode cX7_read 28 = .ok (.iconst 1, 1) := by decide +kernel
theorem dX7_read_29 : decode cX7_read 29 = .ok (.istore_n 1, 1) := by decide +kernel
theorem dX7_read_30 : decode cX7_read 30 = .ok (.iconst 1, 1) := by decide +kernel
theorem dX7_read_31 : decode cX7_read 31 = .ok (.istore_n 2, 1) := by decide +kernel
theorem dX7_read_32 : decode cX7_read 32 = .ok (.iconst 1, 1) := by decide +kernel
theorem dX7_read_33 : decode cX7_read 33 = .ok (.istore_n 3, 1) := by decide +kernel
theorem dX7_read_34 : decode cX7_read 34 = .ok (.aload_n 0, 1) := by decide +kernel
theorem dX7_read_35 : decode cX7_read 35 = .ok (.invokevirtual 259, 3) := by decide +kernel
theorem dX7_read_38 : decode cX7_read 38 = .ok (.iload_n 3, 1) := by decide +kernel
theorem dX7_read_39 : decode cX7_read 39 = .ok (.ifCond .eq 375, 3) := by decide +kernel
theorem dX7_read_42 : decode cX7_read 42 = .ok (.aload_n 0, 1) := by decide +kernel
theorem dX7_read_43 : decode cX7_read 43 = .ok (.getfield 253, 3) := by decide +kernel
theorem dX7_read_46 : decode cX7_read 46 = .ok (.ifCond .ge 368, 3) := by decide +kernel
theorem dX7_read_49 : decode cX7_read 49 = .ok (.iload_n 1, 1) := by decide +kernel
theorem dX7_read_50 : decode cX7_read 50 = .ok (.ifCond .eq 149, 3) := by decide +kernel
theorem dX7_read_53 : decode cX7_read 53 = .ok (.aload_n 0, 1) := by decide +kernel
theorem dX7_read_54 : decode cX7_read 54 = .ok (.getfield 184, 3) := by decide +kernel
theorem dX7_read_57 : decode cX7_read 57 = .ok (.bipush 30, 2) := by decide +kernel
theorem dX7_read_59 : decode cX7_read 59 = .ok (.if_icmp .ne 7, 3) := by decide +kernel
theorem dX7_read_62 : decode cX7_read 62 = .ok (.iload_n 2, 1) := by decide +kernel
theorem dX7_read_63 : decode cX7_read 63 = .ok (.ifCond .ne 20, 3) := by decide +kernel
theorem dX7_read_66 : decode cX7_read 66 = .ok (.aload_n 0, 1) := by decide +kernel
theorem dX7_read_67 : decode cX7_read 67 = .ok (.getfield 184, 3) := by decide +kernel
theorem dX7_read_70 : decode cX7_read 70 = .ok (.bipush 51, 2) := by decide +kernel
theorem dX7_read_72 : decode cX7_read 72 = .ok (.if_icmp .eq 11, 3) := by decide +kernel
theorem dX7_read_75 : decode cX7_read 75 = .ok (.aload_n 0, 1) := by decide +kernel
theorem dX7_read_76 : decode cX7_read 76 = .ok (.getfield 184, 3) := by decide +kernel
theorem dX7_read_79 : decode cX7_read 79 = .ok (.iconst 5, 1) := by decide +kernel
theorem dX7_read_80 : decode cX7_read 80 = .ok (.if_icmp .ne 76, 3) := by decide +kernel
theorem dX7_read_83 : decode cX7_read 83 = .ok (.aload_n 0, 1) := by decide +kernel
theorem dX7_read_84 : decode cX7_read 84 = .ok (.invokevirtual 262, 3) := by decide +kernel
theorem dX7_read_87 : decode cX7_read 87 = .ok (.bipush 12, 2) := by decide +kernel
theorem dX7_read_89 : decode cX7_read 89 = .ok (.if_icmp .ne 8, 3) := by decide +kernel
theorem dX7_read_92 : decode cX7_read 92 = .ok (.aload_n 0, 1) := by decide +kernel
theorem dX7_read_93 : decode cX7_read 93 = .ok (.getfield 181, 3) := by decide +kernel
theorem dX7_read_96 : decode cX7_read 96 = .ok (.ireturn, 1) := by decide +kernel
theorem dX7_read_97 : decode cX7_read 97 = .ok (.aload_n 0, 1) := by decide +kernel
theorem dX7_read_98 : decode cX7_read 98 = .ok (.getfield 117, 3) := by decide +kernel
theorem dX7_read_101 : decode cX7_read 101 = .ok (.aload_n 0, 1) := by decide +kernel
theorem dX7_read_102 : decode cX7_read 102 = .ok (.getfield 243, 3) := by decide +kernel
theorem dX7_read_105 : decode cX7_read 105 = .ok (.aload_n 0, 1) := by decide +kernel
theorem dX7_read_106 : decode cX7_read 106 = .ok (.getfield 184, 3) := by decide +kernel
theorem dX7_read_109 : decode cX7_read 109 = .ok (.bipush 51, 2) := by decide +kernel
theorem dX7_read_111 : decode cX7_read 111 = .ok (.if_icmp .ne 8, 3) := by decide +kernel
theorem dX7_read_114 : decode cX7_read 114 = .ok (.bipush 70, 2) := by decide +kernel
theorem dX7_read_116 : decode cX7_read 116 = .ok (.goto 7, 3) := by decide +kernel
theorem dX7_read_119 : decode cX7_read 119 = .ok (.aload_n 0, 1) := by decide +kernel
theorem dX7_read_120 : decode cX7_read 120 = .ok (.getfield 184, 3) := by decide +kernel
theorem dX7_read_123 : decode cX7_read 123 = .ok (.iastore, 1) := by decide +kernel
theorem dX7_read_124 : decode cX7_read 124 = .ok (.aload_n 0, 1) := by decide +kernel
theorem dX7_read_125 : decode cX7_read 125 = .ok (.dup, 1) := by decide +kernel
theorem dX7_read_126 : decode cX7_read 126 = .ok (.getfield 243, 3) := by decide +kernel
theorem dX7_read_129 : decode cX7_read 129 = .ok (.iconst 1, 1) := by decide +kernel
theorem dX7_read_130 : decode cX7_read 130 = .ok (.iadd, 1) := by decide +kernel
theorem dX7_read_131 : decode cX7_read 131 = .ok (.putfield 243, 3) := by decide +kernel
theorem dX7_read_134 : decode cX7_read 134 = .ok (.aload_n 0, 1) := by decide +kernel
theorem dX7_read_135 : decode cX7_read 135 = .ok (.getfield 184, 3) := by decide +kernel
theorem dX7_read_138 : decode cX7_read 138 = .ok (.bipush 51, 2) := by decide +kernel
theorem dX7_read_140 : decode cX7_read 140 = .ok (.if_icmp .eq 7, 3) := by decide +kernel
theorem dX7_read_143 : decode cX7_read 143 = .ok (.iconst 1, 1) := by decide +kernel
theorem dX7_read_144 : decode cX7_read 144 = .ok (.goto 4, 3) := by decide +kernel
theorem dX7_read_147 : decode cX7_read 147 = .ok (.iconst 0, 1) := by decide +kernel
theorem dX7_read_148 : decode cX7_read 148 = .ok (.istore_n 2, 1) := by decide +kernel
theorem dX7_read_149 : decode cX7_read 149 = .ok (.aload_n 0, 1) := by decide +kernel
theorem dX7_read_150 : decode cX7_read 150 = .ok (.invokevirtual 259, 3) := by decide +kernel
theorem dX7_read_153 : decode cX7_read 153 = .ok (.goto (-115), 3) := by decide +kernel
theorem dX7_read_156 : decode cX7_read 156 = .ok (.aload_n 0, 1) := by decide +kernel
theorem dX7_read_157 : decode cX7_read 157 = .ok (.getfield 184, 3) := by decide +kernel
theorem dX7_read_160 : decode cX7_read 160 = .ok (.iconst 1, 1) := by decide +kernel
theorem dX7_read_161 : decode cX7_read 161 = .ok (.if_icmp .eq 17, 3) := by decide +kernel
theorem dX7_read_164 : decode cX7_read 164 = .ok (.aload_n 0, 1) := by decide +kernel
theorem dX7_read_165 : decode cX7_read 165 = .ok (.getfield 184, 3) := by decide +kernel
theorem dX7_read_168 : decode cX7_read 168 = .ok (.bipush 100, 2) := by decide +kernel
theorem dX7_read_170 : decode cX7_read 170 = .ok (.if_icmp .ge 8, 3) := by decide +kernel
theorem dX7_read_173 : decode cX7_read 173 = .ok (.aload_n 0, 1) := by decide +kernel
theorem dX7_read_174 : decode cX7_read 174 = .ok (.getfield 181, 3) := by decide +kernel
theorem dX7_read_177 : decode cX7_read 177 = .ok (.ireturn, 1) := by decide +kernel
theorem dX7_read_178 : decode cX7_read 178 = .ok (.aload_n 0, 1) := by decide +kernel
theorem dX7_read_179 : decode cX7_read 179 = .ok (.aload_n 0, 1) := by decide +kernel
theorem dX7_read_180 : decode cX7_read 180 = .ok (.getfield 184, 3) := by decide +kernel
theorem dX7_read_183 : decode cX7_read 183 = .ok (.aload_n 0, 1) := by decide +kernel
theorem dX7_read_184 : decode cX7_read 184 = .ok (.getfield 201, 3) := by decide +kernel
theorem dX7_read_187 : decode cX7_read 187 = .ok (.invokevirtual 249, 3) := by decide +kernel
theorem dX7_read_190 : decode cX7_read 190 = .ok (.iconst 0, 1) := by decide +kernel
theorem dX7_read_191 : decode cX7_read 191 = .ok (.istore_n 1, 1) := by decide +kernel
theorem dX7_read_192 : decode cX7_read 192 = .ok (.aload_n 0, 1) := by decide +kernel
theorem dX7_read_193 : decode cX7_read 193 = .ok (.invokevirtual 259, 3) := by decide +kernel
theorem dX7_read_196 : decode cX7_read 196 = .ok (.goto (-158), 3) := by decide +kernel
theorem dX7_read_199 : decode cX7_read 199 = .ok (.aload_n 0, 1) := by decide +kernel
theorem dX7_read_200 : decode cX7_read 200 = .ok (.getfield 184, 3) := by decide +kernel
theorem dX7_read_203 : decode cX7_read 203 = .ok (.bipush 6, 2) := by decide +kernel
theorem dX7_read_205 : decode cX7_read 205 = .ok (.if_icmp .ne 37, 3) := by decide +kernel
theorem dX7_read_208 : decode cX7_read 208 = .ok (.aload_n 0, 1) := by decide +kernel
theorem dX7_read_209 : decode cX7_read 209 = .ok (.iconst 1, 1) := by decide +kernel
theorem dX7_read_210 : decode cX7_read 210 = .ok (.invokevirtual 266, 3) := by decide +kernel
theorem dX7_read_213 : decode cX7_read 213 = .ok (.aload_n 0, 1) := by decide +kernel
theorem dX7_read_214 : decode cX7_read 214 = .ok (.getfield 243, 3) := by decide +kernel
theorem dX7_read_217 : decode cX7_read 217 = .ok (.ifCond .ne 8, 3) := by decide +kernel
theorem dX7_read_220 : decode cX7_read 220 = .ok (.aload_n 0, 1) := by decide +kernel
theorem dX7_read_221 : decode cX7_read 221 = .ok (.getfield 181, 3) := by decide +kernel
theorem dX7_read_224 : decode cX7_read 224 = .ok (.ireturn, 1) := by decide +kernel
theorem dX7_read_225 : decode cX7_read 225 = .ok (.aload_n 0, 1) := by decide +kernel
theorem dX7_read_226 : decode cX7_read 226 = .ok (.dup, 1) := by decide +kernel
theorem dX7_read_227 : decode cX7_read 227 = .ok (.getfield 243, 3) := by decide +kernel
theorem dX7_read_230 : decode cX7_read 230 = .ok (.iconst 1, 1) := by decide +kernel
theorem dX7_read_231 : decode cX7_read 231 = .ok (.isub, 1) := by decide +kernel
theorem dX7_read_232 : decode cX7_read 232 = .ok (.putfield 243, 3) := by decide +kernel
theorem dX7_read_235 : decode cX7_read 235 = .ok (.aload_n 0, 1) := by decide +kernel
theorem dX7_read_236 : decode cX7_read 236 = .ok (.invokevirtual 259, 3) := by decide +kernel
theorem dX7_read_239 : decode cX7_read 239 = .ok (.goto (-201), 3) := by decide +kernel
theorem dX7_read_242 : decode cX7_read 242 = .ok (.aload_n 0, 1) := by decide +kernel
theorem dX7_read_243 : decode cX7_read 243 = .ok (.getfield 184, 3) := by decide +kernel
theorem dX7_read_246 : decode cX7_read 246 = .ok (.ifCond .ne 24, 3) := by decide +kernel
theorem dX7_read_249 : decode cX7_read 249 = .ok (.aload_n 0, 1) := by decide +kernel
theorem dX7_read_250 : decode cX7_read 250 = .ok (.iconst 1, 1) := by decide +kernel
theorem dX7_read_251 : decode cX7_read 251 = .ok (.invokevirtual 266, 3) := by decide +kernel
theorem dX7_read_254 : decode cX7_read 254 = .ok (.aload_n 0, 1) := by decide +kernel
theorem dX7_read_255 : decode cX7_read 255 = .ok (.getfield 243, 3) := by decide +kernel
theorem dX7_read_258 : decode cX7_read 258 = .ok (.ifCond .ne 7, 3) := by decide +kernel
theorem dX7_read_261 : decode cX7_read 261 = .ok (.iconst (-1), 1) := by decide +kernel
theorem dX7_read_262 : decode cX7_read 262 = .ok (.goto 7, 3) := by decide +kernel
theorem dX7_read_265 : decode cX7_read 265 = .ok (.aload_n 0, 1) := by decide +kernel
theorem dX7_read_266 : decode cX7_read 266 = .ok (.getfield 181, 3) := by decide +kernel
theorem dX7_read_269 : decode cX7_read 269 = .ok (.ireturn, 1) := by decide +kernel
theorem dX7_read_270 : decode cX7_read 270 = .ok (.aload_n 0, 1) := by decide +kernel
theorem dX7_read_271 : decode cX7_read 271 = .ok (.getfield 184, 3) := by decide +kernel
theorem dX7_read_274 : decode cX7_read 274 = .ok (.bipush 10, 2) := by decide +kernel
theorem dX7_read_276 : decode cX7_read 276 = .ok (.if_icmp .lt 21, 3) := by decide +kernel
theorem dX7_read_279 : decode cX7_read 279 = .ok (.aload_n 0, 1) := by decide +kernel
theorem dX7_read_280 : decode cX7_read 280 = .ok (.getfield 184, 3) := by decide +kernel
theorem dX7_read_283 : decode cX7_read 283 = .ok (.bipush 70, 2) := by decide +kernel
theorem dX7_read_285 : decode cX7_read 285 = .ok (.if_icmp .ge 12, 3) := by decide +kernel
theorem dX7_read_288 : decode cX7_read 288 = .ok (.aload_n 0, 1) := by decide +kernel
theorem dX7_read_289 : decode cX7_read 289 = .ok (.getfield 184, 3) := by decide +kernel
theorem dX7_read_292 : decode cX7_read 292 = .ok (.bipush 30, 2) := by decide +kernel
theorem dX7_read_294 : decode cX7_read 294 = .ok (.if_icmp .ne 8, 3) := by decide +kernel
theorem dX7_read_297 : decode cX7_read 297 = .ok (.aload_n 0, 1) := by decide +kernel
theorem dX7_read_298 : decode cX7_read 298 = .ok (.getfield 181, 3) := by decide +kernel
theorem dX7_read_301 : decode cX7_read 301 = .ok (.ireturn, 1) := by decide +kernel
theorem dX7_read_302 : decode cX7_read 302 = .ok (.aload_n 0, 1) := by decide +kernel
theorem dX7_read_303 : decode cX7_read 303 = .ok (.getfield 184, 3) := by decide +kernel
theorem dX7_read_306 : decode cX7_read 306 = .ok (.invokestatic 246, 3) := by decide +kernel
theorem dX7_read_309 : decode cX7_read 309 = .ok (.iconst 4, 1) := by decide +kernel
theorem dX7_read_310 : decode cX7_read 310 = .ok (.if_icmp .ne 7, 3) := by decide +kernel
theorem dX7_read_313 : decode cX7_read 313 = .ok (.iconst 1, 1) := by decide +kernel
theorem dX7_read_314 : decode cX7_read 314 = .ok (.goto 4, 3) := by decide +kernel
theorem dX7_read_317 : decode cX7_read 317 = .ok (.iconst 0, 1) := by decide +kernel
theorem dX7_read_318 : decode cX7_read 318 = .ok (.istore 4, 2) := by decide +kernel
theorem dX7_read_320 : decode cX7_read 320 = .ok (.aload_n 0, 1) := by decide +kernel
theorem dX7_read_321 : decode cX7_read 321 = .ok (.iload 4, 2) := by decide +kernel
theorem dX7_read_323 : decode cX7_read 323 = .ok (.ifCond .eq 7, 3) := by decide +kernel
theorem dX7_read_326 : decode cX7_read 326 = .ok (.iconst 5, 1) := by decide +kernel
theorem dX7_read_327 : decode cX7_read 327 = .ok (.goto 10, 3) := by decide +kernel
theorem dX7_read_330 : decode cX7_read 330 = .ok (.aload_n 0, 1) := by decide +kernel
theorem dX7_read_331 : decode cX7_read 331 = .ok (.getfield 184, 3) := by decide +kernel
theorem dX7_read_334 : decode cX7_read 334 = .ok (.invokestatic 246, 3) := by decide +kernel
theorem dX7_read_337 : decode cX7_read 337 = .ok (.invokevirtual 266, 3) := by decide +kernel
theorem dX7_read_340 : decode cX7_read 340 = .ok (.iload 4, 2) := by decide +kernel
theorem dX7_read_342 : decode cX7_read 342 = .ok (.ifCond .eq 16, 3) := by decide +kernel
theorem dX7_read_345 : decode cX7_read 345 = .ok (.aload_n 0, 1) := by decide +kernel
theorem dX7_read_346 : decode cX7_read 346 = .ok (.iconst 4, 1) := by decide +kernel
theorem dX7_read_347 : decode cX7_read 347 = .ok (.invokevirtual 270, 3) := by decide +kernel
theorem dX7_read_350 : decode cX7_read 350 = .ok (.ifCond .eq 8, 3) := by decide +kernel
theorem dX7_read_353 : decode cX7_read 353 = .ok (.aload_n 0, 1) := by decide +kernel
theorem dX7_read_354 : decode cX7_read 354 = .ok (.getfield 181, 3) := by decide +kernel
theorem dX7_read_357 : decode cX7_read 357 = .ok (.ireturn, 1) := by decide +kernel
theorem dX7_read_358 : decode cX7_read 358 = .ok (.aload_n 0, 1) := by decide +kernel
theorem dX7_read_359 : decode cX7_read 359 = .ok (.getfield 117, 3) := by decide +kernel
theorem dX7_read_362 : decode cX7_read 362 = .ok (.aload_n 0, 1) := by decide +kernel
theorem dX7_read_363 : decode cX7_read 363 = .ok (.getfield 243, 3) := by decide +kernel
theorem dX7_read_366 : decode cX7_read 366 = .ok (.aload_n 0, 1) := by decide +kernel
theorem dX7_read_367 : decode cX7_read 367 = .ok (.getfield 184, 3) := by decide +kernel
theorem dX7_read_370 : decode cX7_read 370 = .ok (.iastore, 1) := by decide +kernel
theorem dX7_read_371 : decode cX7_read 371 = .ok (.aload_n 0, 1) := by decide +kernel
theorem dX7_read_372 : decode cX7_read 372 = .ok (.dup, 1) := by decide +kernel
theorem dX7_read_373 : decode cX7_read 373 = .ok (.getfield 243, 3) := by decide +kernel
theorem dX7_read_376 : decode cX7_read 376 = .ok (.iconst 1, 1) := by decide +kernel
theorem dX7_read_377 : decode cX7_read 377 = .ok (.iadd, 1) := by decide +kernel
theorem dX7_read_378 : decode cX7_read 378 = .ok (.putfield 243, 3) := by decide +kernel
theorem dX7_read_381 : decode cX7_read 381 = .ok (.iconst 1, 1) := by decide +kernel
theorem dX7_read_382 : decode cX7_read 382 = .ok (.istore_n 1, 1) := by decide +kernel
theorem dX7_read_383 : decode cX7_read 383 = .ok (.aload_n 0, 1) := by decide +kernel
theorem dX7_read_384 : decode cX7_read 384 = .ok (.getfield 184, 3) := by decide +kernel
theorem dX7_read_387 : decode cX7_read 387 = .ok (.bipush 10, 2) := by decide +kernel
theorem dX7_read_389 : decode cX7_read 389 = .ok (.if_icmp .eq 12, 3) := by decide +kernel
theorem dX7_read_392 : decode cX7_read 392 = .ok (.aload_n 0, 1) := by decide +kernel
theorem dX7_read_393 : decode cX7_read 393 = .ok (.getfield 184, 3) := by decide +kernel
theorem dX7_read_396 : decode cX7_read 396 = .ok (.bipush 20, 2) := by decide +kernel
theorem dX7_read_398 : decode cX7_read 398 = .ok (.if_icmp .ne 7, 3) := by decide +kernel
theorem dX7_read_401 : decode cX7_read 401 = .ok (.iconst 1, 1) := by decide +kernel
theorem dX7_read_402 : decode cX7_read 402 = .ok (.goto 4, 3) := by decide +kernel
theorem dX7_read_405 : decode cX7_read 405 = .ok (.iconst 0, 1) := by decide +kernel
theorem dX7_read_406 : decode cX7_read 406 = .ok (.istore_n 2, 1) := by decide +kernel
theorem dX7_read_407 : decode cX7_read 407 = .ok (.aload_n 0, 1) := by decide +kernel
theorem dX7_read_408 : decode cX7_read 408 = .ok (.invokevirtual 259, 3) := by decide +kernel
theorem dX7_read_411 : decode cX7_read 411 = .ok (.goto (-373), 3) := by decide +kernel
theorem dX7_read_414 : decode cX7_read 414 = .ok (.aload_n 0, 1) := by decide +kernel
theorem dX7_read_415 : decode cX7_read 415 = .ok (.getfield 253, 3) := by decide +kernel
theorem dX7_read_418 : decode cX7_read 418 = .ok (.ireturn, 1) := by decide +kernel
theorem dX7_vote_0 : decode cX7_vote 0 = .ok (.iload_n 1, 1) := by decide +kernel
theorem dX7_vote_1 : decode cX7_vote 1 = .ok (.iconst 0, 1) := by decide +kernel
theorem dX7_vote_2 : decode cX7_vote 2 = .ok (.iconst 2, 1) := by decide +kernel
theorem dX7_vote_3 : decode cX7_vote 3 = .ok (.invokestatic 133, 3) := by decide +kernel
theorem dX7_vote_6 : decode cX7_vote 6 = .ok (.ifCond .ne 5, 3) := by decide +kernel
theorem dX7_vote_9 : decode cX7_vote 9 = .ok (.iconst (-1), 1) := by decide +kernel
theorem dX7_vote_10 : decode cX7_vote 10 = .ok (.ireturn, 1) := by decide +kernel
theorem dX7_vote_11 : decode cX7_vote 11 = .ok (.aload_n 0, 1) := by decide +kernel
theorem dX7_vote_12 : decode cX7_vote 12 = .ok (.getfield 256, 3) := by decide +kernel
theorem dX7_vote_15 : decode cX7_vote 15 = .ok (.bipush 30, 2) := by decide +kernel
theorem dX7_vote_17 : decode cX7_vote 17 = .ok (.if_icmp .ne 6, 3) := by decide +kernel
theorem dX7_vote_20 : decode cX7_vote 20 = .ok (.bipush (-3), 2) := by decide +kernel
theorem dX7_vote_22 : decode cX7_vote 22 = .ok (.ireturn, 1) := by decide +kernel
theorem dX7_vote_23 : decode cX7_vote 23 = .ok (.aload_n 0, 1) := by decide +kernel
theorem dX7_vote_24 : decode cX7_vote 24 = .ok (.invokevirtual 273, 3) := by decide +kernel
theorem dX7_vote_27 : decode cX7_vote 27 = .ok (.istore_n 2, 1) := by decide +kernel
theorem dX7_vote_28 : decode cX7_vote 28 = .ok (.aload_n 0, 1) := by decide +kernel
theorem dX7_vote_29 : decode cX7_vote 29 = .ok (.iconst 0, 1) := by decide +kernel
theorem dX7_vote_30 : decode cX7_vote 30 = .ok (.putfield 175, 3) := by decide +kernel
theorem dX7_vote_33 : decode cX7_vote 33 = .ok (.iload_n 2, 1) := by decide +kernel
theorem dX7_vote_34 : decode cX7_vote 34 = .ok (.ifCond .lt 8, 3) := by decide +kernel
theorem dX7_vote_37 : decode cX7_vote 37 = .ok (.bipush (-100), 2) := by decide +kernel
theorem dX7_vote_39 : decode cX7_vote 39 = .ok (.iload_n 2, 1) := by decide +kernel
theorem dX7_vote_40 : decode cX7_vote 40 = .ok (.isub, 1) := by decide +kernel
theorem dX7_vote_41 : decode cX7_vote 41 = .ok (.ireturn, 1) := by decide +kernel
theorem dX7_vote_42 : decode cX7_vote 42 = .ok (.aload_n 0, 1) := by decide +kernel
theorem dX7_vote_43 : decode cX7_vote 43 = .ok (.getfield 102, 3) := by decide +kernel
theorem dX7_vote_46 : decode cX7_vote 46 = .ok (.aload_n 0, 1) := by decide +kernel
theorem dX7_vote_47 : decode cX7_vote 47 = .ok (.getfield 256, 3) := by decide +kernel
theorem dX7_vote_50 : decode cX7_vote 50 = .ok (.iload_n 1, 1) := by decide +kernel
theorem dX7_vote_51 : decode cX7_vote 51 = .ok (.iastore, 1) := by decide +kernel
theorem dX7_vote_52 : decode cX7_vote 52 = .ok (.aload_n 0, 1) := by decide +kernel
theorem dX7_vote_53 : decode cX7_vote 53 = .ok (.getfield 105, 3) := by decide +kernel
theorem dX7_vote_56 : decode cX7_vote 56 = .ok (.aload_n 0, 1) := by decide +kernel
theorem dX7_vote_57 : decode cX7_vote 57 = .ok (.getfield 256, 3) := by decide +kernel
theorem dX7_vote_60 : decode cX7_vote 60 = .ok (.aload_n 0, 1) := by decide +kernel
theorem dX7_vote_61 : decode cX7_vote 61 = .ok (.getfield 165, 3) := by decide +kernel
theorem dX7_vote_64 : decode cX7_vote 64 = .ok (.iastore, 1) := by decide +kernel
theorem dX7_vote_65 : decode cX7_vote 65 = .ok (.aload_n 0, 1) := by decide +kernel
theorem dX7_vote_66 : decode cX7_vote 66 = .ok (.dup, 1) := by decide +kernel
theorem dX7_vote_67 : decode cX7_vote 67 = .ok (.getfield 256, 3) := by decide +kernel
theorem dX7_vote_70 : decode cX7_vote 70 = .ok (.iconst 1, 1) := by decide +kernel
theorem dX7_vote_71 : decode cX7_vote 71 = .ok (.iadd, 1) := by decide +kernel
theorem dX7_vote_72 : decode cX7_vote 72 = .ok (.putfield 256, 3) := by decide +kernel
theorem dX7_vote_75 : decode cX7_vote 75 = .ok (.aload_n 0, 1) := by decide +kernel
theorem dX7_vote_76 : decode cX7_vote 76 = .ok (.getfield 108, 3) := by decide +kernel
theorem dX7_vote_79 : decode cX7_vote 79 = .ok (.aload_n 0, 1) := by decide +kernel
theorem dX7_vote_80 : decode cX7_vote 80 = .ok (.getfield 256, 3) := by decide +kernel
theorem dX7_vote_83 : decode cX7_vote 83 = .ok (.aload_n 0, 1) := by decide +kernel
theorem dX7_vote_84 : decode cX7_vote 84 = .ok (.getfield 240, 3) := by decide +kernel
theorem dX7_vote_87 : decode cX7_vote 87 = .ok (.iastore, 1) := by decide +kernel
theorem dX7_vote_88 : decode cX7_vote 88 = .ok (.aload_n 0, 1) := by decide +kernel
theorem dX7_vote_89 : decode cX7_vote 89 = .ok (.getfield 256, 3) := by decide +kernel
theorem dX7_vote_92 : decode cX7_vote 92 = .ok (.ireturn, 1) := by decide +kernel
theorem dX7_knownAt_0 : decode cX7_knownAt 0 = .ok (.aload_n 0, 1) := by decide +kernel
theorem dX7_knownAt_1 : decode cX7_knownAt 1 = .ok (.getfield 256, 3) := by decide +kernel
theorem dX7_knownAt_4 : decode cX7_knownAt 4 = .ok (.iconst 1, 1) := by decide +kernel
theorem dX7_knownAt_5 : decode cX7_knownAt 5 = .ok (.isub, 1) := by decide +kernel
theorem dX7_knownAt_6 : decode cX7_knownAt 6 = .ok (.istore_n 3, 1) := by decide +kernel
theorem dX7_knownAt_7 : decode cX7_knownAt 7 = .ok (.iload_n 3, 1) := by decide +kernel
theorem dX7_knownAt_8 : decode cX7_knownAt 8 = .ok (.ifCond .lt 41, 3) := by decide +kernel
theorem dX7_knownAt_11 : decode cX7_knownAt 11 = .ok (.aload_n 0, 1) := by decide +kernel
theorem dX7_knownAt_12 : decode cX7_knownAt 12 = .ok (.getfield 102, 3) := by decide +kernel
theorem dX7_knownAt_15 : decode cX7_knownAt 15 = .ok (.iload_n 3, 1) := by decide +kernel
theorem dX7_knownAt_16 : decode cX7_knownAt 16 = .ok (.iaload, 1) := by decide +kernel
theorem dX7_knownAt_17 : decode cX7_knownAt 17 = .ok (.iload_n 1, 1) := by decide +kernel
theorem dX7_knownAt_18 : decode cX7_knownAt 18 = .ok (.if_icmp .ne 25, 3) := by decide +kernel
theorem dX7_knownAt_21 : decode cX7_knownAt 21 = .ok (.aload_n 0, 1) := by decide +kernel
theorem dX7_knownAt_22 : decode cX7_knownAt 22 = .ok (.getfield 105, 3) := by decide +kernel
theorem dX7_knownAt_25 : decode cX7_knownAt 25 = .ok (.iload_n 3, 1) := by decide +kernel
theorem dX7_knownAt_26 : decode cX7_knownAt 26 = .ok (.iaload, 1) := by decide +kernel
theorem dX7_knownAt_27 : decode cX7_knownAt 27 = .ok (.aload_n 0, 1) := by decide +kernel
theorem dX7_knownAt_28 : decode cX7_knownAt 28 = .ok (.getfield 165, 3) := by decide +kernel
theorem dX7_knownAt_31 : decode cX7_knownAt 31 = .ok (.aload_n 0, 1) := by decide +kernel
theorem dX7_knownAt_32 : decode cX7_knownAt 32 = .ok (.getfield 16, 3) := by decide +kernel
theorem dX7_knownAt_35 : decode cX7_knownAt 35 = .ok (.iload_n 2, 1) := by decide +kernel
theorem dX7_knownAt_36 : decode cX7_knownAt 36 = .ok (.iaload, 1) := by decide +kernel
theorem dX7_knownAt_37 : decode cX7_knownAt 37 = .ok (.isub, 1) := by decide +kernel
theorem dX7_knownAt_38 : decode cX7_knownAt 38 = .ok (.if_icmp .gt 5, 3) := by decide +kernel
theorem dX7_knownAt_41 : decode cX7_knownAt 41 = .ok (.iload_n 3, 1) := by decide +kernel
theorem dX7_knownAt_42 : decode cX7_knownAt 42 = .ok (.ireturn, 1) := by decide +kernel
theorem dX7_knownAt_43 : decode cX7_knownAt 43 = .ok (.iinc 3 (-1), 3) := by decide +kernel
theorem dX7_knownAt_46 : decode cX7_knownAt 46 = .ok (.goto (-39), 3) := by decide +kernel
theorem dX7_knownAt_49 : decode cX7_knownAt 49 = .ok (.bipush (-2), 2) := by decide +kernel
theorem dX7_knownAt_51 : decode cX7_knownAt 51 = .ok (.ireturn, 1) := by decide +kernel
theorem dX7_known_0 : decode cX7_known 0 = .ok (.iload_n 1, 1) := by decide +kernel
theorem dX7_known_1 : decode cX7_known 1 = .ok (.iconst 0, 1) := by decide +kernel
theorem dX7_known_2 : decode cX7_known 2 = .ok (.iconst 2, 1) := by decide +kernel
theorem dX7_known_3 : decode cX7_known 3 = .ok (.invokestatic 133, 3) := by decide +kernel
theorem dX7_known_6 : decode cX7_known 6 = .ok (.ifCond .eq 11, 3) := by decide +kernel
theorem dX7_known_9 : decode cX7_known 9 = .ok (.aload_n 0, 1) := by decide +kernel
theorem dX7_known_10 : decode cX7_known 10 = .ok (.iload_n 2, 1) := by decide +kernel
theorem dX7_known_11 : decode cX7_known 11 = .ok (.invokevirtual 162, 3) := by decide +kernel
theorem dX7_known_14 : decode cX7_known 14 = .ok (.ifCond .ne 7, 3) := by decide +kernel
theorem dX7_known_17 : decode cX7_known 17 = .ok (.iconst (-1), 1) := by decide +kernel
theorem dX7_known_18 : decode cX7_known 18 = .ok (.goto 9, 3) := by decide +kernel
theorem dX7_known_21 : decode cX7_known 21 = .ok (.aload_n 0, 1) := by decide +kernel
theorem dX7_known_22 : decode cX7_known 22 = .ok (.iload_n 1, 1) := by decide +kernel
theorem dX7_known_23 : decode cX7_known 23 = .ok (.iload_n 2, 1) := by decide +kernel
theorem dX7_known_24 : decode cX7_known 24 = .ok (.invokevirtual 276, 3) := by decide +kernel
theorem dX7_known_27 : decode cX7_known 27 = .ok (.ireturn, 1) := by decide +kernel
theorem dX7_inPort_0 : decode cX7_inPort 0 = .ok (.iconst 0, 1) := by decide +kernel
theorem dX7_inPort_1 : decode cX7_inPort 1 = .ok (.istore_n 2, 1) := by decide +kernel
theorem dX7_inPort_2 : decode cX7_inPort 2 = .ok (.iconst 0, 1) := by decide +kernel
theorem dX7_inPort_3 : decode cX7_inPort 3 = .ok (.istore_n 3, 1) := by decide +kernel
theorem dX7_inPort_4 : decode cX7_inPort 4 = .ok (.iload_n 3, 1) := by decide +kernel
theorem dX7_inPort_5 : decode cX7_inPort 5 = .ok (.aload_n 0, 1) := by decide +kernel
theorem dX7_inPort_6 : decode cX7_inPort 6 = .ok (.getfield 140, 3) := by decide +kernel
theorem dX7_inPort_9 : decode cX7_inPort 9 = .ok (.if_icmp .ge 37, 3) := by decide +kernel
theorem dX7_inPort_12 : decode cX7_inPort 12 = .ok (.iload_n 2, 1) := by decide +kernel
theorem dX7_inPort_13 : decode cX7_inPort 13 = .ok (.aload_n 0, 1) := by decide +kernel
theorem dX7_inPort_14 : decode cX7_inPort 14 = .ok (.getfield 34, 3) := by decide +kernel
theorem dX7_inPort_17 : decode cX7_inPort 17 = .ok (.iload_n 3, 1) := by decide +kernel
theorem dX7_inPort_18 : decode cX7_inPort 18 = .ok (.iaload, 1) := by decide +kernel
theorem dX7_inPort_19 : decode cX7_inPort 19 = .ok (.iconst 1, 1) := by decide +kernel
theorem dX7_inPort_20 : decode cX7_inPort 20 = .ok (.if_icmp .ne 17, 3) := by decide +kernel
theorem dX7_inPort_23 : decode cX7_inPort 23 = .ok (.aload_n 0, 1) := by decide +kernel
theorem dX7_inPort_24 : decode cX7_inPort 24 = .ok (.getfield 37, 3) := by decide +kernel
theorem dX7_inPort_27 : decode cX7_inPort 27 = .ok (.iload_n 3, 1) := by decide +kernel
theorem dX7_inPort_28 : decode cX7_inPort 28 = .ok (.iaload, 1) := by decide +kernel
theorem dX7_inPort_29 : decode cX7_inPort 29 = .ok (.iload_n 1, 1) := by decide +kernel
theorem dX7_inPort_30 : decode cX7_inPort 30 = .ok (.if_icmp .ne 7, 3) := by decide +kernel
theorem dX7_inPort_33 : decode cX7_inPort 33 = .ok (.iconst 1, 1) := by decide +kernel
theorem dX7_inPort_34 : decode cX7_inPort 34 = .ok (.goto 4, 3) := by decide +kernel
theorem dX7_inPort_37 : decode cX7_inPort 37 = .ok (.iconst 0, 1) := by decide +kernel
theorem dX7_inPort_38 : decode cX7_inPort 38 = .ok (.iadd, 1) := by decide +kernel
theorem dX7_inPort_39 : decode cX7_inPort 39 = .ok (.istore_n 2, 1) := by decide +kernel
theorem dX7_inPort_40 : decode cX7_inPort 40 = .ok (.iinc 3 1, 3) := by decide +kernel
theorem dX7_inPort_43 : decode cX7_inPort 43 = .ok (.goto (-39), 3) := by decide +kernel
theorem dX7_inPort_46 : decode cX7_inPort 46 = .ok (.iload_n 2, 1) := by decide +kernel
theorem dX7_inPort_47 : decode cX7_inPort 47 = .ok (.ireturn, 1) := by decide +kernel
theorem dX7_value_0 : decode cX7_value 0 = .ok (.iload_n 1, 1) := by decide +kernel
theorem dX7_value_1 : decode cX7_value 1 = .ok (.tableswitch 118 100 106 #[43, 50, 55, 67, 78, 99, 111], 43) := by decide +kernel
theorem dX7_value_44 : decode cX7_value 44 = .ok (.aload_n 0, 1) := by decide +kernel
theorem dX7_value_45 : decode cX7_value 45 = .ok (.getfield 37, 3) := by decide +kernel
theorem dX7_value_48 : decode cX7_value 48 = .ok (.iload_n 3, 1) := by decide +kernel
theorem dX7_value_49 : decode cX7_value 49 = .ok (.iaload, 1) := by decide +kernel
theorem dX7_value_50 : decode cX7_value 50 = .ok (.ireturn, 1) := by decide +kernel
theorem dX7_value_51 : decode cX7_value 51 = .ok (.aload_n 0, 1) := by decide +kernel
theorem dX7_value_52 : decode cX7_value 52 = .ok (.getfield 165, 3) := by decide +kernel
theorem dX7_value_55 : decode cX7_value 55 = .ok (.ireturn, 1) := by decide +kernel
theorem dX7_value_56 : decode cX7_value 56 = .ok (.iload_n 2, 1) := by decide +kernel
theorem dX7_value_57 : decode cX7_value 57 = .ok (.iconst 2, 1) := by decide +kernel
theorem dX7_value_58 : decode cX7_value 58 = .ok (.if_icmp .ne 8, 3) := by decide +kernel
theorem dX7_value_61 : decode cX7_value 61 = .ok (.iload 4, 2) := by decide +kernel
theorem dX7_value_63 : decode cX7_value 63 = .ok (.goto 4, 3) := by decide +kernel
theorem dX7_value_66 : decode cX7_value 66 = .ok (.iload_n 3, 1) := by decide +kernel
theorem dX7_value_67 : decode cX7_value 67 = .ok (.ireturn, 1) := by decide +kernel
theorem dX7_value_68 : decode cX7_value 68 = .ok (.aload_n 0, 1) := by decide +kernel
theorem dX7_value_69 : decode cX7_value 69 = .ok (.aload_n 0, 1) := by decide +kernel
theorem dX7_value_70 : decode cX7_value 70 = .ok (.getfield 37, 3) := by decide +kernel
theorem dX7_value_73 : decode cX7_value 73 = .ok (.iload_n 3, 1) := by decide +kernel
theorem dX7_value_74 : decode cX7_value 74 = .ok (.iaload, 1) := by decide +kernel
theorem dX7_value_75 : decode cX7_value 75 = .ok (.invokevirtual 280, 3) := by decide +kernel
theorem dX7_value_78 : decode cX7_value 78 = .ok (.ireturn, 1) := by decide +kernel
theorem dX7_value_79 : decode cX7_value 79 = .ok (.iload_n 2, 1) := by decide +kernel
theorem dX7_value_80 : decode cX7_value 80 = .ok (.iconst 2, 1) := by decide +kernel
theorem dX7_value_81 : decode cX7_value 81 = .ok (.if_icmp .ne 17, 3) := by decide +kernel
theorem dX7_value_84 : decode cX7_value 84 = .ok (.aload_n 0, 1) := by decide +kernel
theorem dX7_value_85 : decode cX7_value 85 = .ok (.getfield 165, 3) := by decide +kernel
theorem dX7_value_88 : decode cX7_value 88 = .ok (.aload_n 0, 1) := by decide +kernel
theorem dX7_value_89 : decode cX7_value 89 = .ok (.getfield 40, 3) := by decide +kernel
theorem dX7_value_92 : decode cX7_value 92 = .ok (.iload_n 3, 1) := by decide +kernel
theorem dX7_value_93 : decode cX7_value 93 = .ok (.iaload, 1) := by decide +kernel
theorem dX7_value_94 : decode cX7_value 94 = .ok (.isub, 1) := by decide +kernel
theorem dX7_value_95 : decode cX7_value 95 = .ok (.goto 4, 3) := by decide +kernel
theorem dX7_value_98 : decode cX7_value 98 = .ok (.iconst 0, 1) := by decide +kernel
theorem dX7_value_99 : decode cX7_value 99 = .ok (.ireturn, 1) := by decide +kernel
theorem dX7_value_100 : decode cX7_value 100 = .ok (.aload_n 0, 1) := by decide +kernel
theorem dX7_value_101 : decode cX7_value 101 = .ok (.getfield 165, 3) := by decide +kernel
theorem dX7_value_104 : decode cX7_value 104 = .ok (.aload_n 0, 1) := by decide +kernel
theorem dX7_value_105 : decode cX7_value 105 = .ok (.getfield 40, 3) := by decide +kernel
theorem dX7_value_108 : decode cX7_value 108 = .ok (.iload_n 3, 1) := by decide +kernel
theorem dX7_value_109 : decode cX7_value 109 = .ok (.iaload, 1) := by decide +kernel
theorem dX7_value_110 : decode cX7_value 110 = .ok (.isub, 1) := by decide +kernel
theorem dX7_value_111 : decode cX7_value 111 = .ok (.ireturn, 1) := by decide +kernel
theorem dX7_value_112 : decode cX7_value 112 = .ok (.aload_n 0, 1) := by decide +kernel
theorem dX7_value_113 : decode cX7_value 113 = .ok (.iload_n 3, 1) := by decide +kernel
theorem dX7_value_114 : decode cX7_value 114 = .ok (.iconst 0, 1) := by decide +kernel
theorem dX7_value_115 : decode cX7_value 115 = .ok (.invokevirtual 283, 3) := by decide +kernel
theorem dX7_value_118 : decode cX7_value 118 = .ok (.ireturn, 1) := by decide +kernel
theorem dX7_value_119 : decode cX7_value 119 = .ok (.iload_n 2, 1) := by decide +kernel
theorem dX7_value_120 : decode cX7_value 120 = .ok (.iconst 1, 1) := by decide +kernel
theorem dX7_value_121 : decode cX7_value 121 = .ok (.if_icmp .ne 13, 3) := by decide +kernel
theorem dX7_value_124 : decode cX7_value 124 = .ok (.aload_n 0, 1) := by decide +kernel
theorem dX7_value_125 : decode cX7_value 125 = .ok (.iload_n 1, 1) := by decide +kernel
theorem dX7_value_126 : decode cX7_value 126 = .ok (.iload 4, 2) := by decide +kernel
theorem dX7_value_128 : decode cX7_value 128 = .ok (.invokevirtual 287, 3) := by decide +kernel
theorem dX7_value_131 : decode cX7_value 131 = .ok (.goto 4, 3) := by decide +kernel
theorem dX7_value_134 : decode cX7_value 134 = .ok (.iconst 0, 1) := by decide +kernel
theorem dX7_value_135 : decode cX7_value 135 = .ok (.ireturn, 1) := by decide +kernel
theorem dX7_ofBale_0 : decode cX7_ofBale 0 = .ok (.iload_n 1, 1) := by decide +kernel
theorem dX7_ofBale_1 : decode cX7_ofBale 1 = .ok (.tableswitch 70 107 111 #[35, 42, 49, 56, 63], 35) := by decide +kernel
theorem dX7_ofBale_36 : decode cX7_ofBale 36 = .ok (.aload_n 0, 1) := by decide +kernel
theorem dX7_ofBale_37 : decode cX7_ofBale 37 = .ok (.getfield 71, 3) := by decide +kernel
theorem dX7_ofBale_40 : decode cX7_ofBale 40 = .ok (.iload_n 2, 1) := by decide +kernel
theorem dX7_ofBale_41 : decode cX7_ofBale 41 = .ok (.iaload, 1) := by decide +kernel
theorem dX7_ofBale_42 : decode cX7_ofBale 42 = .ok (.ireturn, 1) := by decide +kernel
theorem dX7_ofBale_43 : decode cX7_ofBale 43 = .ok (.aload_n 0, 1) := by decide +kernel
theorem dX7_ofBale_44 : decode cX7_ofBale 44 = .ok (.getfield 74, 3) := by decide +kernel
theorem dX7_ofBale_47 : decode cX7_ofBale 47 = .ok (.iload_n 2, 1) := by decide +kernel
theorem dX7_ofBale_48 : decode cX7_ofBale 48 = .ok (.iaload, 1) := by decide +kernel
theorem dX7_ofBale_49 : decode cX7_ofBale 49 = .ok (.ireturn, 1) := by decide +kernel
theorem dX7_ofBale_50 : decode cX7_ofBale 50 = .ok (.aload_n 0, 1) := by decide +kernel
theorem dX7_ofBale_51 : decode cX7_ofBale 51 = .ok (.getfield 77, 3) := by decide +kernel
theorem dX7_ofBale_54 : decode cX7_ofBale 54 = .ok (.iload_n 2, 1) := by decide +kernel
theorem dX7_ofBale_55 : decode cX7_ofBale 55 = .ok (.iaload, 1) := by decide +kernel
theorem dX7_ofBale_56 : decode cX7_ofBale 56 = .ok (.ireturn, 1) := by decide +kernel
theorem dX7_ofBale_57 : decode cX7_ofBale 57 = .ok (.aload_n 0, 1) := by decide +kernel
theorem dX7_ofBale_58 : decode cX7_ofBale 58 = .ok (.getfield 80, 3) := by decide +kernel
theorem dX7_ofBale_61 : decode cX7_ofBale 61 = .ok (.iload_n 2, 1) := by decide +kernel
theorem dX7_ofBale_62 : decode cX7_ofBale 62 = .ok (.iaload, 1) := by decide +kernel
theorem dX7_ofBale_63 : decode cX7_ofBale 63 = .ok (.ireturn, 1) := by decide +kernel
theorem dX7_ofBale_64 : decode cX7_ofBale 64 = .ok (.aload_n 0, 1) := by decide +kernel
theorem dX7_ofBale_65 : decode cX7_ofBale 65 = .ok (.getfield 83, 3) := by decide +kernel
theorem dX7_ofBale_68 : decode cX7_ofBale 68 = .ok (.iload_n 2, 1) := by decide +kernel
theorem dX7_ofBale_69 : decode cX7_ofBale 69 = .ok (.iaload, 1) := by decide +kernel
theorem dX7_ofBale_70 : decode cX7_ofBale 70 = .ok (.ireturn, 1) := by decide +kernel
theorem dX7_ofBale_71 : decode cX7_ofBale 71 = .ok (.aload_n 0, 1) := by decide +kernel
theorem dX7_ofBale_72 : decode cX7_ofBale 72 = .ok (.getfield 165, 3) := by decide +kernel
theorem dX7_ofBale_75 : decode cX7_ofBale 75 = .ok (.aload_n 0, 1) := by decide +kernel
theorem dX7_ofBale_76 : decode cX7_ofBale 76 = .ok (.getfield 86, 3) := by decide +kernel
theorem dX7_ofBale_79 : decode cX7_ofBale 79 = .ok (.iload_n 2, 1) := by decide +kernel
theorem dX7_ofBale_80 : decode cX7_ofBale 80 = .ok (.iaload, 1) := by decide +kernel
theorem dX7_ofBale_81 : decode cX7_ofBale 81 = .ok (.isub, 1) := by decide +kernel
theorem dX7_ofBale_82 : decode cX7_ofBale 82 = .ok (.ireturn, 1) := by decide +kernel
theorem dX7_both_0 : decode cX7_both 0 = .ok (.iload_n 0, 1) := by decide +kernel
theorem dX7_both_1 : decode cX7_both 1 = .ok (.lookupswitch 136 #[(10, 67), (20, 81), (40, 95), (41, 106), (42, 117), (50, 128), (51, 132)], 67) := by decide +kernel
theorem dX7_both_68 : decode cX7_both 68 = .ok (.iload_n 1, 1) := by decide +kernel
theorem dX7_both_69 : decode cX7_both 69 = .ok (.ifCond .ne 7, 3) := by decide +kernel
theorem dX7_both_72 : decode cX7_both 72 = .ok (.iload_n 2, 1) := by decide +kernel
theorem dX7_both_73 : decode cX7_both 73 = .ok (.ifCond .eq 7, 3) := by decide +kernel
theorem dX7_both_76 : decode cX7_both 76 = .ok (.iconst 1, 1) := by decide +kernel
theorem dX7_both_77 : decode cX7_both 77 = .ok (.goto 4, 3) := by decide +kernel
theorem dX7_both_80 : decode cX7_both 80 = .ok (.iconst 0, 1) := by decide +kernel
theorem dX7_both_81 : decode cX7_both 81 = .ok (.ireturn, 1) := by decide +kernel
theorem dX7_both_82 : decode cX7_both 82 = .ok (.iload_n 1, 1) := by decide +kernel
theorem dX7_both_83 : decode cX7_both 83 = .ok (.ifCond .eq 11, 3) := by decide +kernel
theorem dX7_both_86 : decode cX7_both 86 = .ok (.iload_n 2, 1) := by decide +kernel
theorem dX7_both_87 : decode cX7_both 87 = .ok (.ifCond .eq 7, 3) := by decide +kernel
theorem dX7_both_90 : decode cX7_both 90 = .ok (.iconst 1, 1) := by decide +kernel
theorem dX7_both_91 : decode cX7_both 91 = .ok (.goto 4, 3) := by decide +kernel
theorem dX7_both_94 : decode cX7_both 94 = .ok (.iconst 0, 1) := by decide +kernel
theorem dX7_both_95 : decode cX7_both 95 = .ok (.ireturn, 1) := by decide +kernel
theorem dX7_both_96 : decode cX7_both 96 = .ok (.iload_n 1, 1) := by decide +kernel
theorem dX7_both_97 : decode cX7_both 97 = .ok (.iload_n 2, 1) := by decide +kernel
theorem dX7_both_98 : decode cX7_both 98 = .ok (.if_icmp .ge 7, 3) := by decide +kernel
theorem dX7_both_101 : decode cX7_both 101 = .ok (.iconst 1, 1) := by decide +kernel
theorem dX7_both_102 : decode cX7_both 102 = .ok (.goto 4, 3) := by decide +kernel
theorem dX7_both_105 : decode cX7_both 105 = .ok (.iconst 0, 1) := by decide +kernel
theorem dX7_both_106 : decode cX7_both 106 = .ok (.ireturn, 1) := by decide +kernel
theorem dX7_both_107 : decode cX7_both 107 = .ok (.iload_n 1, 1) := by decide +kernel
theorem dX7_both_108 : decode cX7_both 108 = .ok (.iload_n 2, 1) := by decide +kernel
theorem dX7_both_109 : decode cX7_both 109 = .ok (.if_icmp .ne 7, 3) := by decide +kernel
theorem dX7_both_112 : decode cX7_both 112 = .ok (.iconst 1, 1) := by decide +kernel
theorem dX7_both_113 : decode cX7_both 113 = .ok (.goto 4, 3) := by decide +kernel
theorem dX7_both_116 : decode cX7_both 116 = .ok (.iconst 0, 1) := by decide +kernel
theorem dX7_both_117 : decode cX7_both 117 = .ok (.ireturn, 1) := by decide +kernel
theorem dX7_both_118 : decode cX7_both 118 = .ok (.iload_n 1, 1) := by decide +kernel
theorem dX7_both_119 : decode cX7_both 119 = .ok (.iload_n 2, 1) := by decide +kernel
theorem dX7_both_120 : decode cX7_both 120 = .ok (.if_icmp .le 7, 3) := by decide +kernel
theorem dX7_both_123 : decode cX7_both 123 = .ok (.iconst 1, 1) := by decide +kernel
theorem dX7_both_124 : decode cX7_both 124 = .ok (.goto 4, 3) := by decide +kernel
theorem dX7_both_127 : decode cX7_both 127 = .ok (.iconst 0, 1) := by decide +kernel
theorem dX7_both_128 : decode cX7_both 128 = .ok (.ireturn, 1) := by decide +kernel
theorem dX7_both_129 : decode cX7_both 129 = .ok (.iload_n 1, 1) := by decide +kernel
theorem dX7_both_130 : decode cX7_both 130 = .ok (.iload_n 2, 1) := by decide +kernel
theorem dX7_both_131 : decode cX7_both 131 = .ok (.iadd, 1) := by decide +kernel
theorem dX7_both_132 : decode cX7_both 132 = .ok (.ireturn, 1) := by decide +kernel
theorem dX7_both_133 : decode cX7_both 133 = .ok (.iload_n 1, 1) := by decide +kernel
theorem dX7_both_134 : decode cX7_both 134 = .ok (.iload_n 2, 1) := by decide +kernel
theorem dX7_both_135 : decode cX7_both 135 = .ok (.isub, 1) := by decide +kernel
theorem dX7_both_136 : decode cX7_both 136 = .ok (.ireturn, 1) := by decide +kernel
theorem dX7_both_137 : decode cX7_both 137 = .ok (.iload_n 1, 1) := by decide +kernel
theorem dX7_both_138 : decode cX7_both 138 = .ok (.iload_n 2, 1) := by decide +kernel
theorem dX7_both_139 : decode cX7_both 139 = .ok (.imul, 1) := by decide +kernel
theorem dX7_both_140 : decode cX7_both 140 = .ok (.ireturn, 1) := by decide +kernel
theorem dX7_says0_0 : decode cX7_says0 0 = .ok (.aload_n 0, 1) := by decide +kernel
theorem dX7_says0_1 : decode cX7_says0 1 = .ok (.iload_n 1, 1) := by decide +kernel
theorem dX7_says0_2 : decode cX7_says0 2 = .ok (.aload_n 0, 1) := by decide +kernel
theorem dX7_says0_3 : decode cX7_says0 3 = .ok (.getfield 37, 3) := by decide +kernel
theorem dX7_says0_6 : decode cX7_says0 6 = .ok (.iload_n 2, 1) := by decide +kernel
theorem dX7_says0_7 : decode cX7_says0 7 = .ok (.iaload, 1) := by decide +kernel
theorem dX7_says0_8 : decode cX7_says0 8 = .ok (.invokevirtual 276, 3) := by decide +kernel
theorem dX7_says0_11 : decode cX7_says0 11 = .ok (.istore 4, 2) := by decide +kernel
theorem dX7_says0_13 : decode cX7_says0 13 = .ok (.iload 4, 2) := by decide +kernel
theorem dX7_says0_15 : decode cX7_says0 15 = .ok (.ifCond .ge 14, 3) := by decide +kernel
theorem dX7_says0_18 : decode cX7_says0 18 = .ok (.iload_n 1, 1) := by decide +kernel
theorem dX7_says0_19 : decode cX7_says0 19 = .ok (.iconst 2, 1) := by decide +kernel
theorem dX7_says0_20 : decode cX7_says0 20 = .ok (.if_icmp .ne 7, 3) := by decide +kernel
theorem dX7_says0_23 : decode cX7_says0 23 = .ok (.iconst 0, 1) := by decide +kernel
theorem dX7_says0_24 : decode cX7_says0 24 = .ok (.goto 4, 3) := by decide +kernel
theorem dX7_says0_27 : decode cX7_says0 27 = .ok (.iconst 1, 1) := by decide +kernel
theorem dX7_says0_28 : decode cX7_says0 28 = .ok (.ireturn, 1) := by decide +kernel
theorem dX7_says0_29 : decode cX7_says0 29 = .ok (.iconst 0, 1) := by decide +kernel
theorem dX7_says0_30 : decode cX7_says0 30 = .ok (.istore 5, 2) := by decide +kernel
theorem dX7_says0_32 : decode cX7_says0 32 = .ok (.aload_n 0, 1) := by decide +kernel
theorem dX7_says0_33 : decode cX7_says0 33 = .ok (.getfield 108, 3) := by decide +kernel
theorem dX7_says0_36 : decode cX7_says0 36 = .ok (.iload 4, 2) := by decide +kernel
theorem dX7_says0_38 : decode cX7_says0 38 = .ok (.iaload, 1) := by decide +kernel
theorem dX7_says0_39 : decode cX7_says0 39 = .ok (.istore 6, 2) := by decide +kernel
theorem dX7_says0_41 : decode cX7_says0 41 = .ok (.iload 6, 2) := by decide +kernel
theorem dX7_says0_43 : decode cX7_says0 43 = .ok (.aload_n 0, 1) := by decide +kernel
theorem dX7_says0_44 : decode cX7_says0 44 = .ok (.getfield 108, 3) := by decide +kernel
theorem dX7_says0_47 : decode cX7_says0 47 = .ok (.iload 4, 2) := by decide +kernel
theorem dX7_says0_49 : decode cX7_says0 49 = .ok (.iconst 1, 1) := by decide +kernel
theorem dX7_says0_50 : decode cX7_says0 50 = .ok (.iadd, 1) := by decide +kernel
theorem dX7_says0_51 : decode cX7_says0 51 = .ok (.iaload, 1) := by decide +kernel
theorem dX7_says0_52 : decode cX7_says0 52 = .ok (.if_icmp .ge 165, 3) := by decide +kernel
theorem dX7_says0_55 : decode cX7_says0 55 = .ok (.aload_n 0, 1) := by decide +kernel
theorem dX7_says0_56 : decode cX7_says0 56 = .ok (.getfield 111, 3) := by decide +kernel
theorem dX7_says0_59 : decode cX7_says0 59 = .ok (.iload 6, 2) := by decide +kernel
theorem dX7_says0_61 : decode cX7_says0 61 = .ok (.iaload, 1) := by decide +kernel
theorem dX7_says0_62 : decode cX7_says0 62 = .ok (.istore 7, 2) := by decide +kernel
theorem dX7_says0_64 : decode cX7_says0 64 = .ok (.iload 7, 2) := by decide +kernel
theorem dX7_says0_66 : decode cX7_says0 66 = .ok (.iconst 1, 1) := by decide +kernel
theorem dX7_says0_67 : decode cX7_says0 67 = .ok (.if_icmp .eq 10, 3) := by decide +kernel
theorem dX7_says0_70 : decode cX7_says0 70 = .ok (.iload 7, 2) := by decide +kernel
theorem dX7_says0_72 : decode cX7_says0 72 = .ok (.bipush 100, 2) := by decide +kernel
theorem dX7_says0_74 : decode cX7_says0 74 = .ok (.if_icmp .lt 41, 3) := by decide +kernel
theorem dX7_says0_77 : decode cX7_says0 77 = .ok (.aload_n 0, 1) := by decide +kernel
theorem dX7_says0_78 : decode cX7_says0 78 = .ok (.getfield 120, 3) := by decide +kernel
theorem dX7_says0_81 : decode cX7_says0 81 = .ok (.iload 5, 2) := by decide +kernel
theorem dX7_says0_83 : decode cX7_says0 83 = .ok (.iload 7, 2) := by decide +kernel
theorem dX7_says0_85 : decode cX7_says0 85 = .ok (.iconst 1, 1) := by decide +kernel
theorem dX7_says0_86 : decode cX7_says0 86 = .ok (.if_icmp .ne 13, 3) := by decide +kernel
theorem dX7_says0_89 : decode cX7_says0 89 = .ok (.aload_n 0, 1) := by decide +kernel
theorem dX7_says0_90 : decode cX7_says0 90 = .ok (.getfield 114, 3) := by decide +kernel
theorem dX7_says0_93 : decode cX7_says0 93 = .ok (.iload 6, 2) := by decide +kernel
theorem dX7_says0_95 : decode cX7_says0 95 = .ok (.iaload, 1) := by decide +kernel
theorem dX7_says0_96 : decode cX7_says0 96 = .ok (.goto 12, 3) := by decide +kernel
theorem dX7_says0_99 : decode cX7_says0 99 = .ok (.aload_n 0, 1) := by decide +kernel
theorem dX7_says0_100 : decode cX7_says0 100 = .ok (.iload 7, 2) := by decide +kernel
theorem dX7_says0_102 : decode cX7_says0 102 = .ok (.iload_n 1, 1) := by decide +kernel
theorem dX7_says0_103 : decode cX7_says0 103 = .ok (.iload_n 2, 1) := by decide +kernel
theorem dX7_says0_104 : decode cX7_says0 104 = .ok (.iload_n 3, 1) := by decide +kernel
theorem dX7_says0_105 : decode cX7_says0 105 = .ok (.invokevirtual 290, 3) := by decide +kernel
theorem dX7_says0_108 : decode cX7_says0 108 = .ok (.iastore, 1) := by decide +kernel
theorem dX7_says0_109 : decode cX7_says0 109 = .ok (.iinc 5 1, 3) := by decide +kernel
theorem dX7_says0_112 : decode cX7_says0 112 = .ok (.goto 99, 3) := by decide +kernel
theorem dX7_says0_115 : decode cX7_says0 115 = .ok (.iload 7, 2) := by decide +kernel
theorem dX7_says0_117 : decode cX7_says0 117 = .ok (.bipush 30, 2) := by decide +kernel
theorem dX7_says0_119 : decode cX7_says0 119 = .ok (.if_icmp .eq 10, 3) := by decide +kernel
theorem dX7_says0_122 : decode cX7_says0 122 = .ok (.iload 7, 2) := by decide +kernel
theorem dX7_says0_124 : decode cX7_says0 124 = .ok (.bipush 70, 2) := by decide +kernel
theorem dX7_says0_126 : decode cX7_says0 126 = .ok (.if_icmp .ne 52, 3) := by decide +kernel
theorem dX7_says0_129 : decode cX7_says0 129 = .ok (.aload_n 0, 1) := by decide +kernel
theorem dX7_says0_130 : decode cX7_says0 130 = .ok (.getfield 120, 3) := by decide +kernel
theorem dX7_says0_133 : decode cX7_says0 133 = .ok (.iload 5, 2) := by decide +kernel
theorem dX7_says0_135 : decode cX7_says0 135 = .ok (.iconst 1, 1) := by decide +kernel
theorem dX7_says0_136 : decode cX7_says0 136 = .ok (.isub, 1) := by decide +kernel
theorem dX7_says0_137 : decode cX7_says0 137 = .ok (.iload 7, 2) := by decide +kernel
theorem dX7_says0_139 : decode cX7_says0 139 = .ok (.bipush 70, 2) := by decide +kernel
theorem dX7_says0_141 : decode cX7_says0 141 = .ok (.if_icmp .ne 16, 3) := by decide +kernel
theorem dX7_says0_144 : decode cX7_says0 144 = .ok (.aload_n 0, 1) := by decide +kernel
theorem dX7_says0_145 : decode cX7_says0 145 = .ok (.getfield 120, 3) := by decide +kernel
theorem dX7_says0_148 : decode cX7_says0 148 = .ok (.iload 5, 2) := by decide +kernel
theorem dX7_says0_150 : decode cX7_says0 150 = .ok (.iconst 1, 1) := by decide +kernel
theorem dX7_says0_151 : decode cX7_says0 151 = .ok (.isub, 1) := by decide +kernel
theorem dX7_says0_152 : decode cX7_says0 152 = .ok (.iaload, 1) := by decide +kernel
theorem dX7_says0_153 : decode cX7_says0 153 = .ok (.ineg, 1) := by decide +kernel
theorem dX7_says0_154 : decode cX7_says0 154 = .ok (.goto 20, 3) := by decide +kernel
theorem dX7_says0_157 : decode cX7_says0 157 = .ok (.aload_n 0, 1) := by decide +kernel
theorem dX7_says0_158 : decode cX7_says0 158 = .ok (.getfield 120, 3) := by decide +kernel
theorem dX7_says0_161 : decode cX7_says0 161 = .ok (.iload 5, 2) := by decide +kernel
theorem dX7_says0_163 : decode cX7_says0 163 = .ok (.iconst 1, 1) := by decide +kernel
theorem dX7_says0_164 : decode cX7_says0 164 = .ok (.isub, 1) := by decide +kernel
theorem dX7_says0_165 : decode cX7_says0 165 = .ok (.iaload, 1) := by decide +kernel
theorem dX7_says0_166 : decode cX7_says0 166 = .ok (.ifCond .ne 7, 3) := by decide +kernel
theorem dX7_says0_169 : decode cX7_says0 169 = .ok (.iconst 1, 1) := by decide +kernel
theorem dX7_says0_170 : decode cX7_says0 170 = .ok (.goto 4, 3) := by decide +kernel
theorem dX7_says0_173 : decode cX7_says0 173 = .ok (.iconst 0, 1) := by decide +kernel
theorem dX7_says0_174 : decode cX7_says0 174 = .ok (.iastore, 1) := by decide +kernel
theorem dX7_says0_175 : decode cX7_says0 175 = .ok (.goto 36, 3) := by decide +kernel
theorem dX7_says0_178 : decode cX7_says0 178 = .ok (.iinc 5 (-1), 3) := by decide +kernel
theorem dX7_says0_181 : decode cX7_says0 181 = .ok (.aload_n 0, 1) := by decide +kernel
theorem dX7_says0_182 : decode cX7_says0 182 = .ok (.getfield 120, 3) := by decide +kernel
theorem dX7_says0_185 : decode cX7_says0 185 = .ok (.iload 5, 2) := by decide +kernel
theorem dX7_says0_187 : decode cX7_says0 187 = .ok (.iconst 1, 1) := by decide +kernel
theorem dX7_says0_188 : decode cX7_says0 188 = .ok (.isub, 1) := by decide +kernel
theorem dX7_says0_189 : decode cX7_says0 189 = .ok (.iload 7, 2) := by decide +kernel
theorem dX7_says0_191 : decode cX7_says0 191 = .ok (.aload_n 0, 1) := by decide +kernel
theorem dX7_says0_192 : decode cX7_says0 192 = .ok (.getfield 120, 3) := by decide +kernel
theorem dX7_says0_195 : decode cX7_says0 195 = .ok (.iload 5, 2) := by decide +kernel
theorem dX7_says0_197 : decode cX7_says0 197 = .ok (.iconst 1, 1) := by decide +kernel
theorem dX7_says0_198 : decode cX7_says0 198 = .ok (.isub, 1) := by decide +kernel
theorem dX7_says0_199 : decode cX7_says0 199 = .ok (.iaload, 1) := by decide +kernel
theorem dX7_says0_200 : decode cX7_says0 200 = .ok (.aload_n 0, 1) := by decide +kernel
theorem dX7_says0_201 : decode cX7_says0 201 = .ok (.getfield 120, 3) := by decide +kernel
theorem dX7_says0_204 : decode cX7_says0 204 = .ok (.iload 5, 2) := by decide +kernel
theorem dX7_says0_206 : decode cX7_says0 206 = .ok (.iaload, 1) := by decide +kernel
theorem dX7_says0_207 : decode cX7_says0 207 = .ok (.invokestatic 294, 3) := by decide +kernel
theorem dX7_says0_210 : decode cX7_says0 210 = .ok (.iastore, 1) := by decide +kernel
theorem dX7_says0_211 : decode cX7_says0 211 = .ok (.iinc 6 1, 3) := by decide +kernel
theorem dX7_says0_214 : decode cX7_says0 214 = .ok (.goto (-173), 3) := by decide +kernel
theorem dX7_says0_217 : decode cX7_says0 217 = .ok (.aload_n 0, 1) := by decide +kernel
theorem dX7_says0_218 : decode cX7_says0 218 = .ok (.getfield 120, 3) := by decide +kernel
theorem dX7_says0_221 : decode cX7_says0 221 = .ok (.iconst 0, 1) := by decide +kernel
theorem dX7_says0_222 : decode cX7_says0 222 = .ok (.iaload, 1) := by decide +kernel
theorem dX7_says0_223 : decode cX7_says0 223 = .ok (.ireturn, 1) := by decide +kernel
theorem dX7_says_0 : decode cX7_says 0 = .ok (.iload_n 1, 1) := by decide +kernel
theorem dX7_says_1 : decode cX7_says 1 = .ok (.iconst 0, 1) := by decide +kernel
theorem dX7_says_2 : decode cX7_says 2 = .ok (.iconst 2, 1) := by decide +kernel
theorem dX7_says_3 : decode cX7_says 3 = .ok (.invokestatic 133, 3) := by decide +kernel
theorem dX7_says_6 : decode cX7_says 6 = .ok (.ifCond .eq 21, 3) := by decide +kernel
theorem dX7_says_9 : decode cX7_says 9 = .ok (.aload_n 0, 1) := by decide +kernel
theorem dX7_says_10 : decode cX7_says 10 = .ok (.iload_n 2, 1) := by decide +kernel
theorem dX7_says_11 : decode cX7_says 11 = .ok (.invokevirtual 155, 3) := by decide +kernel
theorem dX7_says_14 : decode cX7_says 14 = .ok (.ifCond .eq 13, 3) := by decide +kernel
theorem dX7_says_17 : decode cX7_says 17 = .ok (.aload_n 0, 1) := by decide +kernel
theorem dX7_says_18 : decode cX7_says 18 = .ok (.getfield 34, 3) := by decide +kernel
theorem dX7_says_21 : decode cX7_says 21 = .ok (.iload_n 2, 1) := by decide +kernel
theorem dX7_says_22 : decode cX7_says 22 = .ok (.iaload, 1) := by decide +kernel
theorem dX7_says_23 : decode cX7_says 23 = .ok (.iconst 1, 1) := by decide +kernel
theorem dX7_says_24 : decode cX7_says 24 = .ok (.if_icmp .eq 6, 3) := by decide +kernel
theorem dX7_says_27 : decode cX7_says 27 = .ok (.ldc 151, 2) := by decide +kernel
theorem dX7_says_29 : decode cX7_says 29 = .ok (.ireturn, 1) := by decide +kernel
theorem dX7_says_30 : decode cX7_says 30 = .ok (.iload_n 1, 1) := by decide +kernel
theorem dX7_says_31 : decode cX7_says 31 = .ok (.iconst 1, 1) := by decide +kernel
theorem dX7_says_32 : decode cX7_says 32 = .ok (.if_icmp .ne 11, 3) := by decide +kernel
theorem dX7_says_35 : decode cX7_says 35 = .ok (.aload_n 0, 1) := by decide +kernel
theorem dX7_says_36 : decode cX7_says 36 = .ok (.iload_n 3, 1) := by decide +kernel
theorem dX7_says_37 : decode cX7_says 37 = .ok (.invokevirtual 168, 3) := by decide +kernel
theorem dX7_says_40 : decode cX7_says 40 = .ok (.ifCond .eq 21, 3) := by decide +kernel
theorem dX7_says_43 : decode cX7_says 43 = .ok (.iload_n 1, 1) := by decide +kernel
theorem dX7_says_44 : decode cX7_says 44 = .ok (.iconst 2, 1) := by decide +kernel
theorem dX7_says_45 : decode cX7_says 45 = .ok (.if_icmp .ne 19, 3) := by decide +kernel
theorem dX7_says_48 : decode cX7_says 48 = .ok (.aload_n 0, 1) := by decide +kernel
theorem dX7_says_49 : decode cX7_says 49 = .ok (.iload_n 3, 1) := by decide +kernel
theorem dX7_says_50 : decode cX7_says 50 = .ok (.invokevirtual 155, 3) := by decide +kernel
theorem dX7_says_53 : decode cX7_says 53 = .ok (.ifCond .eq 8, 3) := by decide +kernel
theorem dX7_says_56 : decode cX7_says 56 = .ok (.iload_n 3, 1) := by decide +kernel
theorem dX7_says_57 : decode cX7_says 57 = .ok (.iload_n 2, 1) := by decide +kernel
theorem dX7_says_58 : decode cX7_says 58 = .ok (.if_icmp .ne 6, 3) := by decide +kernel
theorem dX7_says_61 : decode cX7_says 61 = .ok (.ldc 151, 2) := by decide +kernel
theorem dX7_says_63 : decode cX7_says 63 = .ok (.ireturn, 1) := by decide +kernel
theorem dX7_says_64 : decode cX7_says 64 = .ok (.aload_n 0, 1) := by decide +kernel
theorem dX7_says_65 : decode cX7_says 65 = .ok (.iload_n 1, 1) := by decide +kernel
theorem dX7_says_66 : decode cX7_says 66 = .ok (.iload_n 2, 1) := by decide +kernel
theorem dX7_says_67 : decode cX7_says 67 = .ok (.iload_n 3, 1) := by decide +kernel
theorem dX7_says_68 : decode cX7_says 68 = .ok (.invokevirtual 298, 3) := by decide +kernel
theorem dX7_says_71 : decode cX7_says 71 = .ok (.ireturn, 1) := by decide +kernel
theorem dX7_start_0 : decode cX7_start 0 = .ok (.aload_n 0, 1) := by decide +kernel
theorem dX7_start_1 : decode cX7_start 1 = .ok (.iload_n 1, 1) := by decide +kernel
theorem dX7_start_2 : decode cX7_start 2 = .ok (.invokevirtual 155, 3) := by decide +kernel
theorem dX7_start_5 : decode cX7_start 5 = .ok (.ifCond .ne 5, 3) := by decide +kernel
theorem dX7_start_8 : decode cX7_start 8 = .ok (.iconst (-1), 1) := by decide +kernel
theorem dX7_start_9 : decode cX7_start 9 = .ok (.ireturn, 1) := by decide +kernel
theorem dX7_start_10 : decode cX7_start 10 = .ok (.aload_n 0, 1) := by decide +kernel
theorem dX7_start_11 : decode cX7_start 11 = .ok (.getfield 34, 3) := by decide +kernel
theorem dX7_start_14 : decode cX7_start 14 = .ok (.iload_n 1, 1) := by decide +kernel
theorem dX7_start_15 : decode cX7_start 15 = .ok (.iaload, 1) := by decide +kernel
theorem dX7_start_16 : decode cX7_start 16 = .ok (.ifCond .ne 11, 3) := by decide +kernel
theorem dX7_start_19 : decode cX7_start 19 = .ok (.aload_n 0, 1) := by decide +kernel
theorem dX7_start_20 : decode cX7_start 20 = .ok (.getfield 137, 3) := by decide +kernel
theorem dX7_start_23 : decode cX7_start 23 = .ok (.iconst 2, 1) := by decide +kernel
theorem dX7_start_24 : decode cX7_start 24 = .ok (.if_icmp .ge 6, 3) := by decide +kernel
theorem dX7_start_27 : decode cX7_start 27 = .ok (.bipush (-2), 2) := by decide +kernel
theorem dX7_start_29 : decode cX7_start 29 = .ok (.ireturn, 1) := by decide +kernel
theorem dX7_start_30 : decode cX7_start 30 = .ok (.aload_n 0, 1) := by decide +kernel
theorem dX7_start_31 : decode cX7_start 31 = .ok (.getfield 34, 3) := by decide +kernel
theorem dX7_start_34 : decode cX7_start 34 = .ok (.iload_n 1, 1) := by decide +kernel
theorem dX7_start_35 : decode cX7_start 35 = .ok (.iconst 1, 1) := by decide +kernel
theorem dX7_start_36 : decode cX7_start 36 = .ok (.iastore, 1) := by decide +kernel
theorem dX7_start_37 : decode cX7_start 37 = .ok (.aload_n 0, 1) := by decide +kernel
theorem dX7_start_38 : decode cX7_start 38 = .ok (.getfield 37, 3) := by decide +kernel
theorem dX7_start_41 : decode cX7_start 41 = .ok (.iload_n 1, 1) := by decide +kernel
theorem dX7_start_42 : decode cX7_start 42 = .ok (.iconst 0, 1) := by decide +kernel
theorem dX7_start_43 : decode cX7_start 43 = .ok (.iastore, 1) := by decide +kernel
theorem dX7_start_44 : decode cX7_start 44 = .ok (.aload_n 0, 1) := by decide +kernel
theorem dX7_start_45 : decode cX7_start 45 = .ok (.getfield 40, 3) := by decide +kernel
theorem dX7_start_48 : decode cX7_start 48 = .ok (.iload_n 1, 1) := by decide +kernel
theorem dX7_start_49 : decode cX7_start 49 = .ok (.aload_n 0, 1) := by decide +kernel
theorem dX7_start_50 : decode cX7_start 50 = .ok (.getfield 165, 3) := by decide +kernel
theorem dX7_start_53 : decode cX7_start 53 = .ok (.iastore, 1) := by decide +kernel
theorem dX7_start_54 : decode cX7_start 54 = .ok (.iconst 1, 1) := by decide +kernel
theorem dX7_start_55 : decode cX7_start 55 = .ok (.ireturn, 1) := by decide +kernel
theorem dX7_day_0 : decode cX7_day 0 = .ok (.iload_n 1, 1) := by decide +kernel
theorem dX7_day_1 : decode cX7_day 1 = .ok (.iconst 1, 1) := by decide +kernel
theorem dX7_day_2 : decode cX7_day 2 = .ok (.bipush 100, 2) := by decide +kernel
theorem dX7_day_4 : decode cX7_day 4 = .ok (.invokestatic 133, 3) := by decide +kernel
theorem dX7_day_7 : decode cX7_day 7 = .ok (.ifCond .eq 15, 3) := by decide +kernel
theorem dX7_day_10 : decode cX7_day 10 = .ok (.aload_n 0, 1) := by decide +kernel
theorem dX7_day_11 : decode cX7_day 11 = .ok (.getfield 165, 3) := by decide +kernel
theorem dX7_day_14 : decode cX7_day 14 = .ok (.iload_n 1, 1) := by decide +kernel
theorem dX7_day_15 : decode cX7_day 15 = .ok (.iadd, 1) := by decide +kernel
theorem dX7_day_16 : decode cX7_day 16 = .ok (.sipush 2000, 3) := by decide +kernel
theorem dX7_day_19 : decode cX7_day 19 = .ok (.if_icmp .le 5, 3) := by decide +kernel
theorem dX7_day_22 : decode cX7_day 22 = .ok (.iconst (-1), 1) := by decide +kernel
theorem dX7_day_23 : decode cX7_day 23 = .ok (.ireturn, 1) := by decide +kernel
theorem dX7_day_24 : decode cX7_day 24 = .ok (.iconst 0, 1) := by decide +kernel
theorem dX7_day_25 : decode cX7_day 25 = .ok (.istore_n 2, 1) := by decide +kernel
theorem dX7_day_26 : decode cX7_day 26 = .ok (.iload_n 2, 1) := by decide +kernel
theorem dX7_day_27 : decode cX7_day 27 = .ok (.iload_n 1, 1) := by decide +kernel
theorem dX7_day_28 : decode cX7_day 28 = .ok (.if_icmp .ge 89, 3) := by decide +kernel
theorem dX7_day_31 : decode cX7_day 31 = .ok (.aload_n 0, 1) := by decide +kernel
theorem dX7_day_32 : decode cX7_day 32 = .ok (.dup, 1) := by decide +kernel
theorem dX7_day_33 : decode cX7_day 33 = .ok (.getfield 165, 3) := by decide +kernel
theorem dX7_day_36 : decode cX7_day 36 = .ok (.iconst 1, 1) := by decide +kernel
theorem dX7_day_37 : decode cX7_day 37 = .ok (.iadd, 1) := by decide +kernel
theorem dX7_day_38 : decode cX7_day 38 = .ok (.putfield 165, 3) := by decide +kernel
theorem dX7_day_41 : decode cX7_day 41 = .ok (.iconst 0, 1) := by decide +kernel
theorem dX7_day_42 : decode cX7_day 42 = .ok (.istore_n 3, 1) := by decide +kernel
theorem dX7_day_43 : decode cX7_day 43 = .ok (.iload_n 3, 1) := by decide +kernel
theorem dX7_day_44 : decode cX7_day 44 = .ok (.aload_n 0, 1) := by decide +kernel
theorem dX7_day_45 : decode cX7_day 45 = .ok (.getfield 140, 3) := by decide +kernel
theorem dX7_day_48 : decode cX7_day 48 = .ok (.if_icmp .ge 63, 3) := by decide +kernel
theorem dX7_day_51 : decode cX7_day 51 = .ok (.aload_n 0, 1) := by decide +kernel
theorem dX7_day_52 : decode cX7_day 52 = .ok (.getfield 34, 3) := by decide +kernel
theorem dX7_day_55 : decode cX7_day 55 = .ok (.iload_n 3, 1) := by decide +kernel
theorem dX7_day_56 : decode cX7_day 56 = .ok (.iaload, 1) := by decide +kernel
theorem dX7_day_57 : decode cX7_day 57 = .ok (.iconst 2, 1) := by decide +kernel
theorem dX7_day_58 : decode cX7_day 58 = .ok (.if_icmp .ne 11, 3) := by decide +kernel
theorem dX7_day_61 : decode cX7_day 61 = .ok (.aload_n 0, 1) := by decide +kernel
theorem dX7_day_62 : decode cX7_day 62 = .ok (.iload_n 3, 1) := by decide +kernel
theorem dX7_day_63 : decode cX7_day 63 = .ok (.invokevirtual 301, 3) := by decide +kernel
theorem dX7_day_66 : decode cX7_day 66 = .ok (.goto 39, 3) := by decide +kernel
theorem dX7_day_69 : decode cX7_day 69 = .ok (.aload_n 0, 1) := by decide +kernel
theorem dX7_day_70 : decode cX7_day 70 = .ok (.getfield 34, 3) := by decide +kernel
theorem dX7_day_73 : decode cX7_day 73 = .ok (.iload_n 3, 1) := by decide +kernel
theorem dX7_day_74 : decode cX7_day 74 = .ok (.iaload, 1) := by decide +kernel
theorem dX7_day_75 : decode cX7_day 75 = .ok (.iconst 1, 1) := by decide +kernel
theorem dX7_day_76 : decode cX7_day 76 = .ok (.if_icmp .ne 29, 3) := by decide +kernel
theorem dX7_day_79 : decode cX7_day 79 = .ok (.aload_n 0, 1) := by decide +kernel
theorem dX7_day_80 : decode cX7_day 80 = .ok (.getfield 40, 3) := by decide +kernel
theorem dX7_day_83 : decode cX7_day 83 = .ok (.iload_n 3, 1) := by decide +kernel
theorem dX7_day_84 : decode cX7_day 84 = .ok (.iaload, 1) := by decide +kernel
theorem dX7_day_85 : decode cX7_day 85 = .ok (.aload_n 0, 1) := by decide +kernel
theorem dX7_day_86 : decode cX7_day 86 = .ok (.getfield 165, 3) := by decide +kernel
theorem dX7_day_89 : decode cX7_day 89 = .ok (.if_icmp .ge 16, 3) := by decide +kernel
theorem dX7_day_92 : decode cX7_day 92 = .ok (.aload_n 0, 1) := by decide +kernel
theorem dX7_day_93 : decode cX7_day 93 = .ok (.iload_n 3, 1) := by decide +kernel
theorem dX7_day_94 : decode cX7_day 94 = .ok (.invokevirtual 304, 3) := by decide +kernel
theorem dX7_day_97 : decode cX7_day 97 = .ok (.ifCond .eq 8, 3) := by decide +kernel
theorem dX7_day_100 : decode cX7_day 100 = .ok (.aload_n 0, 1) := by decide +kernel
theorem dX7_day_101 : decode cX7_day 101 = .ok (.iload_n 3, 1) := by decide +kernel
theorem dX7_day_102 : decode cX7_day 102 = .ok (.invokevirtual 307, 3) := by decide +kernel
theorem dX7_day_105 : decode cX7_day 105 = .ok (.iinc 3 1, 3) := by decide +kernel
theorem dX7_day_108 : decode cX7_day 108 = .ok (.goto (-65), 3) := by decide +kernel
theorem dX7_day_111 : decode cX7_day 111 = .ok (.iinc 2 1, 3) := by decide +kernel
theorem dX7_day_114 : decode cX7_day 114 = .ok (.goto (-88), 3) := by decide +kernel
theorem dX7_day_117 : decode cX7_day 117 = .ok (.aload_n 0, 1) := by decide +kernel
theorem dX7_day_118 : decode cX7_day 118 = .ok (.getfield 165, 3) := by decide +kernel
theorem dX7_day_121 : decode cX7_day 121 = .ok (.ireturn, 1) := by decide +kernel
theorem dX7_sails_0 : decode cX7_sails 0 = .ok (.aload_n 0, 1) := by decide +kernel
theorem dX7_sails_1 : decode cX7_sails 1 = .ok (.getfield 28, 3) := by decide +kernel
theorem dX7_sails_4 : decode cX7_sails 4 = .ok (.iload_n 1, 1) := by decide +kernel
theorem dX7_sails_5 : decode cX7_sails 5 = .ok (.iaload, 1) := by decide +kernel
theorem dX7_sails_6 : decode cX7_sails 6 = .ok (.aload_n 0, 1) := by decide +kernel
theorem dX7_sails_7 : decode cX7_sails 7 = .ok (.getfield 19, 3) := by decide +kernel
theorem dX7_sails_10 : decode cX7_sails 10 = .ok (.aload_n 0, 1) := by decide +kernel
theorem dX7_sails_11 : decode cX7_sails 11 = .ok (.getfield 165, 3) := by decide +kernel
theorem dX7_sails_14 : decode cX7_sails 14 = .ok (.bipush 30, 2) := by decide +kernel
theorem dX7_sails_16 : decode cX7_sails 16 = .ok (.irem, 1) := by decide +kernel
theorem dX7_sails_17 : decode cX7_sails 17 = .ok (.iaload, 1) := by decide +kernel
theorem dX7_sails_18 : decode cX7_sails 18 = .ok (.iadd, 1) := by decide +kernel
theorem dX7_sails_19 : decode cX7_sails 19 = .ok (.istore_n 2, 1) := by decide +kernel
theorem dX7_sails_20 : decode cX7_sails 20 = .ok (.aload_n 0, 1) := by decide +kernel
theorem dX7_sails_21 : decode cX7_sails 21 = .ok (.getfield 43, 3) := by decide +kernel
theorem dX7_sails_24 : decode cX7_sails 24 = .ok (.iload_n 1, 1) := by decide +kernel
theorem dX7_sails_25 : decode cX7_sails 25 = .ok (.dup2, 1) := by decide +kernel
theorem dX7_sails_26 : decode cX7_sails 26 = .ok (.iaload, 1) := by decide +kernel
theorem dX7_sails_27 : decode cX7_sails 27 = .ok (.iload_n 2, 1) := by decide +kernel
theorem dX7_sails_28 : decode cX7_sails 28 = .ok (.iconst 1, 1) := by decide +kernel
theorem dX7_sails_29 : decode cX7_sails 29 = .ok (.if_icmp .ge 7, 3) := by decide +kernel
theorem dX7_sails_32 : decode cX7_sails 32 = .ok (.iconst 1, 1) := by decide +kernel
theorem dX7_sails_33 : decode cX7_sails 33 = .ok (.goto 4, 3) := by decide +kernel
theorem dX7_sails_36 : decode cX7_sails 36 = .ok (.iload_n 2, 1) := by decide +kernel
theorem dX7_sails_37 : decode cX7_sails 37 = .ok (.iadd, 1) := by decide +kernel
theorem dX7_sails_38 : decode cX7_sails 38 = .ok (.iastore, 1) := by decide +kernel
theorem dX7_sails_39 : decode cX7_sails 39 = .ok (.aload_n 0, 1) := by decide +kernel
theorem dX7_sails_40 : decode cX7_sails 40 = .ok (.getfield 37, 3) := by decide +kernel
theorem dX7_sails_43 : decode cX7_sails 43 = .ok (.iload_n 1, 1) := by decide +kernel
theorem dX7_sails_44 : decode cX7_sails 44 = .ok (.iaload, 1) := by decide +kernel
theorem dX7_sails_45 : decode cX7_sails 45 = .ok (.istore_n 3, 1) := by decide +kernel
theorem dX7_sails_46 : decode cX7_sails 46 = .ok (.aload_n 0, 1) := by decide +kernel
theorem dX7_sails_47 : decode cX7_sails 47 = .ok (.getfield 43, 3) := by decide +kernel
theorem dX7_sails_50 : decode cX7_sails 50 = .ok (.iload_n 1, 1) := by decide +kernel
theorem dX7_sails_51 : decode cX7_sails 51 = .ok (.iaload, 1) := by decide +kernel
theorem dX7_sails_52 : decode cX7_sails 52 = .ok (.bipush 10, 2) := by decide +kernel
theorem dX7_sails_54 : decode cX7_sails 54 = .ok (.aload_n 0, 1) := by decide +kernel
theorem dX7_sails_55 : decode cX7_sails 55 = .ok (.getfield 13, 3) := by decide +kernel
theorem dX7_sails_58 : decode cX7_sails 58 = .ok (.iload_n 3, 1) := by decide +kernel
theorem dX7_sails_59 : decode cX7_sails 59 = .ok (.iaload, 1) := by decide +kernel
theorem dX7_sails_60 : decode cX7_sails 60 = .ok (.imul, 1) := by decide +kernel
theorem dX7_sails_61 : decode cX7_sails 61 = .ok (.if_icmp .ge 4, 3) := by decide +kernel
theorem dX7_sails_64 : decode cX7_sails 64 = .ok (.return_, 1) := by decide +kernel
theorem dX7_sails_65 : decode cX7_sails 65 = .ok (.aload_n 0, 1) := by decide +kernel
theorem dX7_sails_66 : decode cX7_sails 66 = .ok (.getfield 34, 3) := by decide +kernel
theorem dX7_sails_69 : decode cX7_sails 69 = .ok (.iload_n 1, 1) := by decide +kernel
theorem dX7_sails_70 : decode cX7_sails 70 = .ok (.iconst 1, 1) := by decide +kernel
theorem dX7_sails_71 : decode cX7_sails 71 = .ok (.iastore, 1) := by decide +kernel
theorem dX7_sails_72 : decode cX7_sails 72 = .ok (.aload_n 0, 1) := by decide +kernel
theorem dX7_sails_73 : decode cX7_sails 73 = .ok (.getfield 43, 3) := by decide +kernel
theorem dX7_sails_76 : decode cX7_sails 76 = .ok (.iload_n 1, 1) := by decide +kernel
theorem dX7_sails_77 : decode cX7_sails 77 = .ok (.iconst 0, 1) := by decide +kernel
theorem dX7_sails_78 : decode cX7_sails 78 = .ok (.iastore, 1) := by decide +kernel
theorem dX7_sails_79 : decode cX7_sails 79 = .ok (.aload_n 0, 1) := by decide +kernel
theorem dX7_sails_80 : decode cX7_sails 80 = .ok (.getfield 40, 3) := by decide +kernel
theorem dX7_sails_83 : decode cX7_sails 83 = .ok (.iload_n 1, 1) := by decide +kernel
theorem dX7_sails_84 : decode cX7_sails 84 = .ok (.aload_n 0, 1) := by decide +kernel
theorem dX7_sails_85 : decode cX7_sails 85 = .ok (.getfield 165, 3) := by decide +kernel
theorem dX7_sails_88 : decode cX7_sails 88 = .ok (.iastore, 1) := by decide +kernel
theorem dX7_sails_89 : decode cX7_sails 89 = .ok (.iconst 0, 1) := by decide +kernel
theorem dX7_sails_90 : decode cX7_sails 90 = .ok (.istore 4, 2) := by decide +kernel
theorem dX7_sails_92 : decode cX7_sails 92 = .ok (.iload 4, 2) := by decide +kernel
theorem dX7_sails_94 : decode cX7_sails 94 = .ok (.aload_n 0, 1) := by decide +kernel
theorem dX7_sails_95 : decode cX7_sails 95 = .ok (.getfield 143, 3) := by decide +kernel
theorem dX7_sails_98 : decode cX7_sails 98 = .ok (.if_icmp .ge 37, 3) := by decide +kernel
theorem dX7_sails_101 : decode cX7_sails 101 = .ok (.aload_n 0, 1) := by decide +kernel
theorem dX7_sails_102 : decode cX7_sails 102 = .ok (.iload 4, 2) := by decide +kernel
theorem dX7_sails_104 : decode cX7_sails 104 = .ok (.iload_n 1, 1) := by decide +kernel
theorem dX7_sails_105 : decode cX7_sails 105 = .ok (.invokevirtual 171, 3) := by decide +kernel
theorem dX7_sails_108 : decode cX7_sails 108 = .ok (.ifCond .eq 21, 3) := by decide +kernel
theorem dX7_sails_111 : decode cX7_sails 111 = .ok (.aload_n 0, 1) := by decide +kernel
theorem dX7_sails_112 : decode cX7_sails 112 = .ok (.getfield 68, 3) := by decide +kernel
theorem dX7_sails_115 : decode cX7_sails 115 = .ok (.iload 4, 2) := by decide +kernel
theorem dX7_sails_117 : decode cX7_sails 117 = .ok (.iaload, 1) := by decide +kernel
theorem dX7_sails_118 : decode cX7_sails 118 = .ok (.iload_n 3, 1) := by decide +kernel
theorem dX7_sails_119 : decode cX7_sails 119 = .ok (.if_icmp .ne 10, 3) := by decide +kernel
theorem dX7_sails_122 : decode cX7_sails 122 = .ok (.aload_n 0, 1) := by decide +kernel
theorem dX7_sails_123 : decode cX7_sails 123 = .ok (.iload 4, 2) := by decide +kernel
theorem dX7_sails_125 : decode cX7_sails 125 = .ok (.iload_n 1, 1) := by decide +kernel
theorem dX7_sails_126 : decode cX7_sails 126 = .ok (.invokevirtual 310, 3) := by decide +kernel
theorem dX7_sails_129 : decode cX7_sails 129 = .ok (.iinc 4 1, 3) := by decide +kernel
theorem dX7_sails_132 : decode cX7_sails 132 = .ok (.goto (-40), 3) := by decide +kernel
theorem dX7_sails_135 : decode cX7_sails 135 = .ok (.return_, 1) := by decide +kernel
theorem dX7_givesOut_0 : decode cX7_givesOut 0 = .ok (.aload_n 0, 1) := by decide +kernel
theorem dX7_givesOut_1 : decode cX7_givesOut 1 = .ok (.iload_n 1, 1) := by decide +kernel
theorem dX7_givesOut_2 : decode cX7_givesOut 2 = .ok (.iconst 2, 1) := by decide +kernel
theorem dX7_givesOut_3 : decode cX7_givesOut 3 = .ok (.invokevirtual 313, 3) := by decide +kernel
theorem dX7_givesOut_6 : decode cX7_givesOut 6 = .ok (.aload_n 0, 1) := by decide +kernel
theorem dX7_givesOut_7 : decode cX7_givesOut 7 = .ok (.getfield 83, 3) := by decide +kernel
theorem dX7_givesOut_10 : decode cX7_givesOut 10 = .ok (.iload_n 1, 1) := by decide +kernel
theorem dX7_givesOut_11 : decode cX7_givesOut 11 = .ok (.iaload, 1) := by decide +kernel
theorem dX7_givesOut_12 : decode cX7_givesOut 12 = .ok (.istore_n 3, 1) := by decide +kernel
theorem dX7_givesOut_13 : decode cX7_givesOut 13 = .ok (.aload_n 0, 1) := by decide +kernel
theorem dX7_givesOut_14 : decode cX7_givesOut 14 = .ok (.getfield 7, 3) := by decide +kernel
theorem dX7_givesOut_17 : decode cX7_givesOut 17 = .ok (.aload_n 0, 1) := by decide +kernel
theorem dX7_givesOut_18 : decode cX7_givesOut 18 = .ok (.getfield 62, 3) := by decide +kernel
theorem dX7_givesOut_21 : decode cX7_givesOut 21 = .ok (.iload_n 1, 1) := by decide +kernel
theorem dX7_givesOut_22 : decode cX7_givesOut 22 = .ok (.iaload, 1) := by decide +kernel
theorem dX7_givesOut_23 : decode cX7_givesOut 23 = .ok (.dup2, 1) := by decide +kernel
theorem dX7_givesOut_24 : decode cX7_givesOut 24 = .ok (.iaload, 1) := by decide +kernel
theorem dX7_givesOut_25 : decode cX7_givesOut 25 = .ok (.iload_n 3, 1) := by decide +kernel
theorem dX7_givesOut_26 : decode cX7_givesOut 26 = .ok (.isub, 1) := by decide +kernel
theorem dX7_givesOut_27 : decode cX7_givesOut 27 = .ok (.iastore, 1) := by decide +kernel
theorem dX7_givesOut_28 : decode cX7_givesOut 28 = .ok (.aload_n 0, 1) := by decide +kernel
theorem dX7_givesOut_29 : decode cX7_givesOut 29 = .ok (.getfield 46, 3) := by decide +kernel
theorem dX7_givesOut_32 : decode cX7_givesOut 32 = .ok (.iload_n 2, 1) := by decide +kernel
theorem dX7_givesOut_33 : decode cX7_givesOut 33 = .ok (.dup2, 1) := by decide +kernel
theorem dX7_givesOut_34 : decode cX7_givesOut 34 = .ok (.iaload, 1) := by decide +kernel
theorem dX7_givesOut_35 : decode cX7_givesOut 35 = .ok (.iload_n 3, 1) := by decide +kernel
theorem dX7_givesOut_36 : decode cX7_givesOut 36 = .ok (.iadd, 1) := by decide +kernel
theorem dX7_givesOut_37 : decode cX7_givesOut 37 = .ok (.iastore, 1) := by decide +kernel
theorem dX7_givesOut_38 : decode cX7_givesOut 38 = .ok (.iload_n 3, 1) := by decide +kernel
theorem dX7_givesOut_39 : decode cX7_givesOut 39 = .ok (.istore 4, 2) := by decide +kernel
theorem dX7_givesOut_41 : decode cX7_givesOut 41 = .ok (.iconst 0, 1) := by decide +kernel
theorem dX7_givesOut_42 : decode cX7_givesOut 42 = .ok (.istore 5, 2) := by decide +kernel
theorem dX7_givesOut_44 : decode cX7_givesOut 44 = .ok (.iload 5, 2) := by decide +kernel
theorem dX7_givesOut_46 : decode cX7_givesOut 46 = .ok (.bipush 10, 2) := by decide +kernel
theorem dX7_givesOut_48 : decode cX7_givesOut 48 = .ok (.if_icmp .ge 47, 3) := by decide +kernel
theorem dX7_givesOut_51 : decode cX7_givesOut 51 = .ok (.iload_n 3, 1) := by decide +kernel
theorem dX7_givesOut_52 : decode cX7_givesOut 52 = .ok (.aload_n 0, 1) := by decide +kernel
theorem dX7_givesOut_53 : decode cX7_givesOut 53 = .ok (.getfield 59, 3) := by decide +kernel
theorem dX7_givesOut_56 : decode cX7_givesOut 56 = .ok (.bipush 10, 2) := by decide +kernel
theorem dX7_givesOut_58 : decode cX7_givesOut 58 = .ok (.iload_n 2, 1) := by decide +kernel
theorem dX7_givesOut_59 : decode cX7_givesOut 59 = .ok (.imul, 1) := by decide +kernel
theorem dX7_givesOut_60 : decode cX7_givesOut 60 = .ok (.iload 5, 2) := by decide +kernel
theorem dX7_givesOut_62 : decode cX7_givesOut 62 = .ok (.iadd, 1) := by decide +kernel
theorem dX7_givesOut_63 : decode cX7_givesOut 63 = .ok (.iaload, 1) := by decide +kernel
theorem dX7_givesOut_64 : decode cX7_givesOut 64 = .ok (.imul, 1) := by decide +kernel
theorem dX7_givesOut_65 : decode cX7_givesOut 65 = .ok (.bipush 24, 2) := by decide +kernel
theorem dX7_givesOut_67 : decode cX7_givesOut 67 = .ok (.idiv, 1) := by decide +kernel
theorem dX7_givesOut_68 : decode cX7_givesOut 68 = .ok (.istore 6, 2) := by decide +kernel
theorem dX7_givesOut_70 : decode cX7_givesOut 70 = .ok (.aload_n 0, 1) := by decide +kernel
theorem dX7_givesOut_71 : decode cX7_givesOut 71 = .ok (.getfield 7, 3) := by decide +kernel
theorem dX7_givesOut_74 : decode cX7_givesOut 74 = .ok (.iload 5, 2) := by decide +kernel
theorem dX7_givesOut_76 : decode cX7_givesOut 76 = .ok (.dup2, 1) := by decide +kernel
theorem dX7_givesOut_77 : decode cX7_givesOut 77 = .ok (.iaload, 1) := by decide +kernel
theorem dX7_givesOut_78 : decode cX7_givesOut 78 = .ok (.iload 6, 2) := by decide +kernel
theorem dX7_givesOut_80 : decode cX7_givesOut 80 = .ok (.iadd, 1) := by decide +kernel
theorem dX7_givesOut_81 : decode cX7_givesOut 81 = .ok (.iastore, 1) := by decide +kernel
theorem dX7_givesOut_82 : decode cX7_givesOut 82 = .ok (.iload 4, 2) := by decide +kernel
theorem dX7_givesOut_84 : decode cX7_givesOut 84 = .ok (.iload 6, 2) := by decide +kernel
theorem dX7_givesOut_86 : decode cX7_givesOut 86 = .ok (.isub, 1) := by decide +kernel
theorem dX7_givesOut_87 : decode cX7_givesOut 87 = .ok (.istore 4, 2) := by decide +kernel
theorem dX7_givesOut_89 : decode cX7_givesOut 89 = .ok (.iinc 5 1, 3) := by decide +kernel
theorem dX7_givesOut_92 : decode cX7_givesOut 92 = .ok (.goto (-48), 3) := by decide +kernel
theorem dX7_givesOut_95 : decode cX7_givesOut 95 = .ok (.aload_n 0, 1) := by decide +kernel
theorem dX7_givesOut_96 : decode cX7_givesOut 96 = .ok (.dup, 1) := by decide +kernel
theorem dX7_givesOut_97 : decode cX7_givesOut 97 = .ok (.getfield 159, 3) := by decide +kernel
theorem dX7_givesOut_100 : decode cX7_givesOut 100 = .ok (.iload 4, 2) := by decide +kernel
theorem dX7_givesOut_102 : decode cX7_givesOut 102 = .ok (.iadd, 1) := by decide +kernel
theorem dX7_givesOut_103 : decode cX7_givesOut 103 = .ok (.putfield 159, 3) := by decide +kernel
theorem dX7_givesOut_106 : decode cX7_givesOut 106 = .ok (.return_, 1) := by decide +kernel
theorem dX7_leaves_0 : decode cX7_leaves 0 = .ok (.aload_n 0, 1) := by decide +kernel
theorem dX7_leaves_1 : decode cX7_leaves 1 = .ok (.iconst 0, 1) := by decide +kernel
theorem dX7_leaves_2 : decode cX7_leaves 2 = .ok (.iload_n 1, 1) := by decide +kernel
theorem dX7_leaves_3 : decode cX7_leaves 3 = .ok (.iconst 0, 1) := by decide +kernel
theorem dX7_leaves_4 : decode cX7_leaves 4 = .ok (.invokevirtual 298, 3) := by decide +kernel
theorem dX7_leaves_7 : decode cX7_leaves 7 = .ok (.istore_n 2, 1) := by decide +kernel
theorem dX7_leaves_8 : decode cX7_leaves 8 = .ok (.iload_n 2, 1) := by decide +kernel
theorem dX7_leaves_9 : decode cX7_leaves 9 = .ok (.ifCond .ge 7, 3) := by decide +kernel
theorem dX7_leaves_12 : decode cX7_leaves 12 = .ok (.iconst 0, 1) := by decide +kernel
theorem dX7_leaves_13 : decode cX7_leaves 13 = .ok (.goto 15, 3) := by decide +kernel
theorem dX7_leaves_16 : decode cX7_leaves 16 = .ok (.iload_n 2, 1) := by decide +kernel
theorem dX7_leaves_17 : decode cX7_leaves 17 = .ok (.bipush 30, 2) := by decide +kernel
theorem dX7_leaves_19 : decode cX7_leaves 19 = .ok (.if_icmp .le 8, 3) := by decide +kernel
theorem dX7_leaves_22 : decode cX7_leaves 22 = .ok (.bipush 30, 2) := by decide +kernel
theorem dX7_leaves_24 : decode cX7_leaves 24 = .ok (.goto 4, 3) := by decide +kernel
theorem dX7_leaves_27 : decode cX7_leaves 27 = .ok (.iload_n 2, 1) := by decide +kernel
theorem dX7_leaves_28 : decode cX7_leaves 28 = .ok (.istore_n 2, 1) := by decide +kernel
theorem dX7_leaves_29 : decode cX7_leaves 29 = .ok (.aload_n 0, 1) := by decide +kernel
theorem dX7_leaves_30 : decode cX7_leaves 30 = .ok (.getfield 165, 3) := by decide +kernel
theorem dX7_leaves_33 : decode cX7_leaves 33 = .ok (.aload_n 0, 1) := by decide +kernel
theorem dX7_leaves_34 : decode cX7_leaves 34 = .ok (.getfield 40, 3) := by decide +kernel
theorem dX7_leaves_37 : decode cX7_leaves 37 = .ok (.iload_n 1, 1) := by decide +kernel
theorem dX7_leaves_38 : decode cX7_leaves 38 = .ok (.iaload, 1) := by decide +kernel
theorem dX7_leaves_39 : decode cX7_leaves 39 = .ok (.isub, 1) := by decide +kernel
theorem dX7_leaves_40 : decode cX7_leaves 40 = .ok (.iload_n 2, 1) := by decide +kernel
theorem dX7_leaves_41 : decode cX7_leaves 41 = .ok (.if_icmp .ge 5, 3) := by decide +kernel
theorem dX7_leaves_44 : decode cX7_leaves 44 = .ok (.iconst 0, 1) := by decide +kernel
theorem dX7_leaves_45 : decode cX7_leaves 45 = .ok (.ireturn, 1) := by decide +kernel
theorem dX7_leaves_46 : decode cX7_leaves 46 = .ok (.iconst 0, 1) := by decide +kernel
theorem dX7_leaves_47 : decode cX7_leaves 47 = .ok (.istore_n 3, 1) := by decide +kernel
theorem dX7_leaves_48 : decode cX7_leaves 48 = .ok (.iload_n 3, 1) := by decide +kernel
theorem dX7_leaves_49 : decode cX7_leaves 49 = .ok (.aload_n 0, 1) := by decide +kernel
theorem dX7_leaves_50 : decode cX7_leaves 50 = .ok (.getfield 140, 3) := by decide +kernel
theorem dX7_leaves_53 : decode cX7_leaves 53 = .ok (.if_icmp .ge 51, 3) := by decide +kernel
theorem dX7_leaves_56 : decode cX7_leaves 56 = .ok (.iload_n 3, 1) := by decide +kernel
theorem dX7_leaves_57 : decode cX7_leaves 57 = .ok (.iload_n 1, 1) := by decide +kernel
theorem dX7_leaves_58 : decode cX7_leaves 58 = .ok (.if_icmp .eq 40, 3) := by decide +kernel
theorem dX7_leaves_61 : decode cX7_leaves 61 = .ok (.aload_n 0, 1) := by decide +kernel
theorem dX7_leaves_62 : decode cX7_leaves 62 = .ok (.getfield 34, 3) := by decide +kernel
theorem dX7_leaves_65 : decode cX7_leaves 65 = .ok (.iload_n 3, 1) := by decide +kernel
theorem dX7_leaves_66 : decode cX7_leaves 66 = .ok (.iaload, 1) := by decide +kernel
theorem dX7_leaves_67 : decode cX7_leaves 67 = .ok (.iconst 2, 1) := by decide +kernel
theorem dX7_leaves_68 : decode cX7_leaves 68 = .ok (.if_icmp .ne 30, 3) := by decide +kernel
theorem dX7_leaves_71 : decode cX7_leaves 71 = .ok (.aload_n 0, 1) := by decide +kernel
theorem dX7_leaves_72 : decode cX7_leaves 72 = .ok (.getfield 37, 3) := by decide +kernel
theorem dX7_leaves_75 : decode cX7_leaves 75 = .ok (.iload_n 3, 1) := by decide +kernel
theorem dX7_leaves_76 : decode cX7_leaves 76 = .ok (.iaload, 1) := by decide +kernel
theorem dX7_leaves_77 : decode cX7_leaves 77 = .ok (.aload_n 0, 1) := by decide +kernel
theorem dX7_leaves_78 : decode cX7_leaves 78 = .ok (.getfield 37, 3) := by decide +kernel
theorem dX7_leaves_81 : decode cX7_leaves 81 = .ok (.iload_n 1, 1) := by decide +kernel
theorem dX7_leaves_82 : decode cX7_leaves 82 = .ok (.iaload, 1) := by decide +kernel
theorem dX7_leaves_83 : decode cX7_leaves 83 = .ok (.if_icmp .ne 15, 3) := by decide +kernel
theorem dX7_leaves_86 : decode cX7_leaves 86 = .ok (.aload_n 0, 1) := by decide +kernel
theorem dX7_leaves_87 : decode cX7_leaves 87 = .ok (.iconst 2, 1) := by decide +kernel
theorem dX7_leaves_88 : decode cX7_leaves 88 = .ok (.iload_n 1, 1) := by decide +kernel
theorem dX7_leaves_89 : decode cX7_leaves 89 = .ok (.iload_n 3, 1) := by decide +kernel
theorem dX7_leaves_90 : decode cX7_leaves 90 = .ok (.invokevirtual 298, 3) := by decide +kernel
theorem dX7_leaves_93 : decode cX7_leaves 93 = .ok (.ifCond .le 5, 3) := by decide +kernel
theorem dX7_leaves_96 : decode cX7_leaves 96 = .ok (.iconst 0, 1) := by decide +kernel
theorem dX7_leaves_97 : decode cX7_leaves 97 = .ok (.ireturn, 1) := by decide +kernel
theorem dX7_leaves_98 : decode cX7_leaves 98 = .ok (.iinc 3 1, 3) := by decide +kernel
theorem dX7_leaves_101 : decode cX7_leaves 101 = .ok (.goto (-53), 3) := by decide +kernel
theorem dX7_leaves_104 : decode cX7_leaves 104 = .ok (.iconst 1, 1) := by decide +kernel
theorem dX7_leaves_105 : decode cX7_leaves 105 = .ok (.ireturn, 1) := by decide +kernel
theorem dX7_goes_0 : decode cX7_goes 0 = .ok (.aload_n 0, 1) := by decide +kernel
theorem dX7_goes_1 : decode cX7_goes 1 = .ok (.getfield 37, 3) := by decide +kernel
theorem dX7_goes_4 : decode cX7_goes 4 = .ok (.iload_n 1, 1) := by decide +kernel
theorem dX7_goes_5 : decode cX7_goes 5 = .ok (.iaload, 1) := by decide +kernel
theorem dX7_goes_6 : decode cX7_goes 6 = .ok (.istore_n 2, 1) := by decide +kernel
theorem dX7_goes_7 : decode cX7_goes 7 = .ok (.iload_n 2, 1) := by decide +kernel
theorem dX7_goes_8 : decode cX7_goes 8 = .ok (.aload_n 0, 1) := by decide +kernel
theorem dX7_goes_9 : decode cX7_goes 9 = .ok (.getfield 137, 3) := by decide +kernel
theorem dX7_goes_12 : decode cX7_goes 12 = .ok (.iconst 1, 1) := by decide +kernel
theorem dX7_goes_13 : decode cX7_goes 13 = .ok (.isub, 1) := by decide +kernel
theorem dX7_goes_14 : decode cX7_goes 14 = .ok (.if_icmp .ne 11, 3) := by decide +kernel
theorem dX7_goes_17 : decode cX7_goes 17 = .ok (.aload_n 0, 1) := by decide +kernel
theorem dX7_goes_18 : decode cX7_goes 18 = .ok (.getfield 34, 3) := by decide +kernel
theorem dX7_goes_21 : decode cX7_goes 21 = .ok (.iload_n 1, 1) := by decide +kernel
theorem dX7_goes_22 : decode cX7_goes 22 = .ok (.iconst 3, 1) := by decide +kernel
theorem dX7_goes_23 : decode cX7_goes 23 = .ok (.iastore, 1) := by decide +kernel
theorem dX7_goes_24 : decode cX7_goes 24 = .ok (.return_, 1) := by decide +kernel
theorem dX7_goes_25 : decode cX7_goes 25 = .ok (.iconst 0, 1) := by decide +kernel
theorem dX7_goes_26 : decode cX7_goes 26 = .ok (.istore_n 3, 1) := by decide +kernel
theorem dX7_goes_27 : decode cX7_goes 27 = .ok (.iload_n 3, 1) := by decide +kernel
theorem dX7_goes_28 : decode cX7_goes 28 = .ok (.aload_n 0, 1) := by decide +kernel
theorem dX7_goes_29 : decode cX7_goes 29 = .ok (.getfield 143, 3) := by decide +kernel
theorem dX7_goes_32 : decode cX7_goes 32 = .ok (.if_icmp .ge 77, 3) := by decide +kernel
theorem dX7_goes_35 : decode cX7_goes 35 = .ok (.aload_n 0, 1) := by decide +kernel
theorem dX7_goes_36 : decode cX7_goes 36 = .ok (.getfield 89, 3) := by decide +kernel
theorem dX7_goes_39 : decode cX7_goes 39 = .ok (.iload_n 3, 1) := by decide +kernel
theorem dX7_goes_40 : decode cX7_goes 40 = .ok (.iaload, 1) := by decide +kernel
theorem dX7_goes_41 : decode cX7_goes 41 = .ok (.ifCond .ne 17, 3) := by decide +kernel
theorem dX7_goes_44 : decode cX7_goes 44 = .ok (.aload_n 0, 1) := by decide +kernel
theorem dX7_goes_45 : decode cX7_goes 45 = .ok (.getfield 65, 3) := by decide +kernel
theorem dX7_goes_48 : decode cX7_goes 48 = .ok (.iload_n 3, 1) := by decide +kernel
theorem dX7_goes_49 : decode cX7_goes 49 = .ok (.iaload, 1) := by decide +kernel
theorem dX7_goes_50 : decode cX7_goes 50 = .ok (.iload_n 2, 1) := by decide +kernel
theorem dX7_goes_51 : decode cX7_goes 51 = .ok (.if_icmp .ne 7, 3) := by decide +kernel
theorem dX7_goes_54 : decode cX7_goes 54 = .ok (.iconst 1, 1) := by decide +kernel
theorem dX7_goes_55 : decode cX7_goes 55 = .ok (.goto 4, 3) := by decide +kernel
theorem dX7_goes_58 : decode cX7_goes 58 = .ok (.iconst 0, 1) := by decide +kernel
theorem dX7_goes_59 : decode cX7_goes 59 = .ok (.istore 4, 2) := by decide +kernel
theorem dX7_goes_61 : decode cX7_goes 61 = .ok (.aload_n 0, 1) := by decide +kernel
theorem dX7_goes_62 : decode cX7_goes 62 = .ok (.getfield 123, 3) := by decide +kernel
theorem dX7_goes_65 : decode cX7_goes 65 = .ok (.iload_n 3, 1) := by decide +kernel
theorem dX7_goes_66 : decode cX7_goes 66 = .ok (.iload 4, 2) := by decide +kernel
theorem dX7_goes_68 : decode cX7_goes 68 = .ok (.ifCond .eq 13, 3) := by decide +kernel
theorem dX7_goes_71 : decode cX7_goes 71 = .ok (.aload_n 0, 1) := by decide +kernel
theorem dX7_goes_72 : decode cX7_goes 72 = .ok (.iconst 1, 1) := by decide +kernel
theorem dX7_goes_73 : decode cX7_goes 73 = .ok (.iload_n 1, 1) := by decide +kernel
theorem dX7_goes_74 : decode cX7_goes 74 = .ok (.iload_n 3, 1) := by decide +kernel
theorem dX7_goes_75 : decode cX7_goes 75 = .ok (.invokevirtual 298, 3) := by decide +kernel
theorem dX7_goes_78 : decode cX7_goes 78 = .ok (.goto 4, 3) := by decide +kernel
theorem dX7_goes_81 : decode cX7_goes 81 = .ok (.iconst 0, 1) := by decide +kernel
theorem dX7_goes_82 : decode cX7_goes 82 = .ok (.iastore, 1) := by decide +kernel
theorem dX7_goes_83 : decode cX7_goes 83 = .ok (.aload_n 0, 1) := by decide +kernel
theorem dX7_goes_84 : decode cX7_goes 84 = .ok (.getfield 126, 3) := by decide +kernel
theorem dX7_goes_87 : decode cX7_goes 87 = .ok (.iload_n 3, 1) := by decide +kernel
theorem dX7_goes_88 : decode cX7_goes 88 = .ok (.aload_n 0, 1) := by decide +kernel
theorem dX7_goes_89 : decode cX7_goes 89 = .ok (.getfield 123, 3) := by decide +kernel
theorem dX7_goes_92 : decode cX7_goes 92 = .ok (.iload_n 3, 1) := by decide +kernel
theorem dX7_goes_93 : decode cX7_goes 93 = .ok (.iaload, 1) := by decide +kernel
theorem dX7_goes_94 : decode cX7_goes 94 = .ok (.ifCond .gt 7, 3) := by decide +kernel
theorem dX7_goes_97 : decode cX7_goes 97 = .ok (.iconst 1, 1) := by decide +kernel
theorem dX7_goes_98 : decode cX7_goes 98 = .ok (.goto 4, 3) := by decide +kernel
theorem dX7_goes_101 : decode cX7_goes 101 = .ok (.iconst 0, 1) := by decide +kernel
theorem dX7_goes_102 : decode cX7_goes 102 = .ok (.bastore, 1) := by decide +kernel
theorem dX7_goes_103 : decode cX7_goes 103 = .ok (.iinc 3 1, 3) := by decide +kernel
theorem dX7_goes_106 : decode cX7_goes 106 = .ok (.goto (-79), 3) := by decide +kernel
theorem dX7_goes_109 : decode cX7_goes 109 = .ok (.aload_n 0, 1) := by decide +kernel
theorem dX7_goes_110 : decode cX7_goes 110 = .ok (.invokevirtual 316, 3) := by decide +kernel
theorem dX7_goes_113 : decode cX7_goes 113 = .ok (.istore_n 3, 1) := by decide +kernel
theorem dX7_goes_114 : decode cX7_goes 114 = .ok (.iload_n 3, 1) := by decide +kernel
theorem dX7_goes_115 : decode cX7_goes 115 = .ok (.ifCond .lt 120, 3) := by decide +kernel
theorem dX7_goes_118 : decode cX7_goes 118 = .ok (.aload_n 0, 1) := by decide +kernel
theorem dX7_goes_119 : decode cX7_goes 119 = .ok (.getfield 126, 3) := by decide +kernel
theorem dX7_goes_122 : decode cX7_goes 122 = .ok (.iload_n 3, 1) := by decide +kernel
theorem dX7_goes_123 : decode cX7_goes 123 = .ok (.iconst 1, 1) := by decide +kernel
theorem dX7_goes_124 : decode cX7_goes 124 = .ok (.bastore, 1) := by decide +kernel
theorem dX7_goes_125 : decode cX7_goes 125 = .ok (.aload_n 0, 1) := by decide +kernel
theorem dX7_goes_126 : decode cX7_goes 126 = .ok (.iload_n 1, 1) := by decide +kernel
theorem dX7_goes_127 : decode cX7_goes 127 = .ok (.invokevirtual 319, 3) := by decide +kernel
theorem dX7_goes_130 : decode cX7_goes 130 = .ok (.aload_n 0, 1) := by decide +kernel
theorem dX7_goes_131 : decode cX7_goes 131 = .ok (.getfield 74, 3) := by decide +kernel
theorem dX7_goes_134 : decode cX7_goes 134 = .ok (.iload_n 3, 1) := by decide +kernel
theorem dX7_goes_135 : decode cX7_goes 135 = .ok (.iaload, 1) := by decide +kernel
theorem dX7_goes_136 : decode cX7_goes 136 = .ok (.iadd, 1) := by decide +kernel
theorem dX7_goes_137 : decode cX7_goes 137 = .ok (.aload_n 0, 1) := by decide +kernel
theorem dX7_goes_138 : decode cX7_goes 138 = .ok (.getfield 22, 3) := by decide +kernel
theorem dX7_goes_141 : decode cX7_goes 141 = .ok (.iload_n 1, 1) := by decide +kernel
theorem dX7_goes_142 : decode cX7_goes 142 = .ok (.iaload, 1) := by decide +kernel
theorem dX7_goes_143 : decode cX7_goes 143 = .ok (.if_icmp .gt 29, 3) := by decide +kernel
theorem dX7_goes_146 : decode cX7_goes 146 = .ok (.aload_n 0, 1) := by decide +kernel
theorem dX7_goes_147 : decode cX7_goes 147 = .ok (.iload_n 1, 1) := by decide +kernel
theorem dX7_goes_148 : decode cX7_goes 148 = .ok (.iconst 0, 1) := by decide +kernel
theorem dX7_goes_149 : decode cX7_goes 149 = .ok (.invokevirtual 283, 3) := by decide +kernel
theorem dX7_goes_152 : decode cX7_goes 152 = .ok (.aload_n 0, 1) := by decide +kernel
theorem dX7_goes_153 : decode cX7_goes 153 = .ok (.getfield 77, 3) := by decide +kernel
theorem dX7_goes_156 : decode cX7_goes 156 = .ok (.iload_n 3, 1) := by decide +kernel
theorem dX7_goes_157 : decode cX7_goes 157 = .ok (.iaload, 1) := by decide +kernel
theorem dX7_goes_158 : decode cX7_goes 158 = .ok (.iadd, 1) := by decide +kernel
theorem dX7_goes_159 : decode cX7_goes 159 = .ok (.aload_n 0, 1) := by decide +kernel
theorem dX7_goes_160 : decode cX7_goes 160 = .ok (.getfield 25, 3) := by decide +kernel
theorem dX7_goes_163 : decode cX7_goes 163 = .ok (.iload_n 1, 1) := by decide +kernel
theorem dX7_goes_164 : decode cX7_goes 164 = .ok (.iaload, 1) := by decide +kernel
theorem dX7_goes_165 : decode cX7_goes 165 = .ok (.if_icmp .gt 7, 3) := by decide +kernel
theorem dX7_goes_168 : decode cX7_goes 168 = .ok (.iconst 1, 1) := by decide +kernel
theorem dX7_goes_169 : decode cX7_goes 169 = .ok (.goto 4, 3) := by decide +kernel
theorem dX7_goes_172 : decode cX7_goes 172 = .ok (.iconst 0, 1) := by decide +kernel
theorem dX7_goes_173 : decode cX7_goes 173 = .ok (.istore 4, 2) := by decide +kernel
theorem dX7_goes_175 : decode cX7_goes 175 = .ok (.iload 4, 2) := by decide +kernel
theorem dX7_goes_177 : decode cX7_goes 177 = .ok (.ifCond .eq 50, 3) := by decide +kernel
theorem dX7_goes_180 : decode cX7_goes 180 = .ok (.aload_n 0, 1) := by decide +kernel
theorem dX7_goes_181 : decode cX7_goes 181 = .ok (.getfield 71, 3) := by decide +kernel
theorem dX7_goes_184 : decode cX7_goes 184 = .ok (.iload_n 3, 1) := by decide +kernel
theorem dX7_goes_185 : decode cX7_goes 185 = .ok (.iaload, 1) := by decide +kernel
theorem dX7_goes_186 : decode cX7_goes 186 = .ok (.iconst 1, 1) := by decide +kernel
theorem dX7_goes_187 : decode cX7_goes 187 = .ok (.if_icmp .ne 27, 3) := by decide +kernel
theorem dX7_goes_190 : decode cX7_goes 190 = .ok (.aload_n 0, 1) := by decide +kernel
theorem dX7_goes_191 : decode cX7_goes 191 = .ok (.iload_n 1, 1) := by decide +kernel
theorem dX7_goes_192 : decode cX7_goes 192 = .ok (.iconst 1, 1) := by decide +kernel
theorem dX7_goes_193 : decode cX7_goes 193 = .ok (.invokevirtual 283, 3) := by decide +kernel
theorem dX7_goes_196 : decode cX7_goes 196 = .ok (.aload_n 0, 1) := by decide +kernel
theorem dX7_goes_197 : decode cX7_goes 197 = .ok (.getfield 77, 3) := by decide +kernel
theorem dX7_goes_200 : decode cX7_goes 200 = .ok (.iload_n 3, 1) := by decide +kernel
theorem dX7_goes_201 : decode cX7_goes 201 = .ok (.iaload, 1) := by decide +kernel
theorem dX7_goes_202 : decode cX7_goes 202 = .ok (.iadd, 1) := by decide +kernel
theorem dX7_goes_203 : decode cX7_goes 203 = .ok (.aload_n 0, 1) := by decide +kernel
theorem dX7_goes_204 : decode cX7_goes 204 = .ok (.getfield 25, 3) := by decide +kernel
theorem dX7_goes_207 : decode cX7_goes 207 = .ok (.iload_n 1, 1) := by decide +kernel
theorem dX7_goes_208 : decode cX7_goes 208 = .ok (.iaload, 1) := by decide +kernel
theorem dX7_goes_209 : decode cX7_goes 209 = .ok (.iconst 2, 1) := by decide +kernel
theorem dX7_goes_210 : decode cX7_goes 210 = .ok (.idiv, 1) := by decide +kernel
theorem dX7_goes_211 : decode cX7_goes 211 = .ok (.if_icmp .gt 16, 3) := by decide +kernel
theorem dX7_goes_214 : decode cX7_goes 214 = .ok (.aload_n 0, 1) := by decide +kernel
theorem dX7_goes_215 : decode cX7_goes 215 = .ok (.iload_n 3, 1) := by decide +kernel
theorem dX7_goes_216 : decode cX7_goes 216 = .ok (.iconst 1, 1) := by decide +kernel
theorem dX7_goes_217 : decode cX7_goes 217 = .ok (.invokevirtual 313, 3) := by decide +kernel
theorem dX7_goes_220 : decode cX7_goes 220 = .ok (.aload_n 0, 1) := by decide +kernel
theorem dX7_goes_221 : decode cX7_goes 221 = .ok (.getfield 92, 3) := by decide +kernel
theorem dX7_goes_224 : decode cX7_goes 224 = .ok (.iload_n 3, 1) := by decide +kernel
theorem dX7_goes_225 : decode cX7_goes 225 = .ok (.iload_n 1, 1) := by decide +kernel
theorem dX7_goes_226 : decode cX7_goes 226 = .ok (.iastore, 1) := by decide +kernel
theorem dX7_goes_227 : decode cX7_goes 227 = .ok (.aload_n 0, 1) := by decide +kernel
theorem dX7_goes_228 : decode cX7_goes 228 = .ok (.invokevirtual 316, 3) := by decide +kernel
theorem dX7_goes_231 : decode cX7_goes 231 = .ok (.istore_n 3, 1) := by decide +kernel
theorem dX7_goes_232 : decode cX7_goes 232 = .ok (.goto (-118), 3) := by decide +kernel
theorem dX7_goes_235 : decode cX7_goes 235 = .ok (.aload_n 0, 1) := by decide +kernel
theorem dX7_goes_236 : decode cX7_goes 236 = .ok (.getfield 34, 3) := by decide +kernel
theorem dX7_goes_239 : decode cX7_goes 239 = .ok (.iload_n 1, 1) := by decide +kernel
theorem dX7_goes_240 : decode cX7_goes 240 = .ok (.iconst 2, 1) := by decide +kernel
theorem dX7_goes_241 : decode cX7_goes 241 = .ok (.iastore, 1) := by decide +kernel
theorem dX7_goes_242 : decode cX7_goes 242 = .ok (.aload_n 0, 1) := by decide +kernel
theorem dX7_goes_243 : decode cX7_goes 243 = .ok (.getfield 37, 3) := by decide +kernel
theorem dX7_goes_246 : decode cX7_goes 246 = .ok (.iload_n 1, 1) := by decide +kernel
theorem dX7_goes_247 : decode cX7_goes 247 = .ok (.iload_n 2, 1) := by decide +kernel
theorem dX7_goes_248 : decode cX7_goes 248 = .ok (.iconst 1, 1) := by decide +kernel
theorem dX7_goes_249 : decode cX7_goes 249 = .ok (.iadd, 1) := by decide +kernel
theorem dX7_goes_250 : decode cX7_goes 250 = .ok (.iastore, 1) := by decide +kernel
theorem dX7_goes_251 : decode cX7_goes 251 = .ok (.aload_n 0, 1) := by decide +kernel
theorem dX7_goes_252 : decode cX7_goes 252 = .ok (.getfield 40, 3) := by decide +kernel
theorem dX7_goes_255 : decode cX7_goes 255 = .ok (.iload_n 1, 1) := by decide +kernel
theorem dX7_goes_256 : decode cX7_goes 256 = .ok (.aload_n 0, 1) := by decide +kernel
theorem dX7_goes_257 : decode cX7_goes 257 = .ok (.getfield 165, 3) := by decide +kernel
theorem dX7_goes_260 : decode cX7_goes 260 = .ok (.iastore, 1) := by decide +kernel
theorem dX7_goes_261 : decode cX7_goes 261 = .ok (.aload_n 0, 1) := by decide +kernel
theorem dX7_goes_262 : decode cX7_goes 262 = .ok (.getfield 43, 3) := by decide +kernel
theorem dX7_goes_265 : decode cX7_goes 265 = .ok (.iload_n 1, 1) := by decide +kernel
theorem dX7_goes_266 : decode cX7_goes 266 = .ok (.iconst 0, 1) := by decide +kernel
theorem dX7_goes_267 : decode cX7_goes 267 = .ok (.iastore, 1) := by decide +kernel
theorem dX7_goes_268 : decode cX7_goes 268 = .ok (.return_, 1) := by decide +kernel
theorem dX7_nextBale_0 : decode cX7_nextBale 0 = .ok (.iconst (-1), 1) := by decide +kernel
theorem dX7_nextBale_1 : decode cX7_nextBale 1 = .ok (.istore_n 1, 1) := by decide +kernel
theorem dX7_nextBale_2 : decode cX7_nextBale 2 = .ok (.iconst 0, 1) := by decide +kernel
theorem dX7_nextBale_3 : decode cX7_nextBale 3 = .ok (.istore_n 2, 1) := by decide +kernel
theorem dX7_nextBale_4 : decode cX7_nextBale 4 = .ok (.iload_n 2, 1) := by decide +kernel
theorem dX7_nextBale_5 : decode cX7_nextBale 5 = .ok (.aload_n 0, 1) := by decide +kernel
theorem dX7_nextBale_6 : decode cX7_nextBale 6 = .ok (.getfield 143, 3) := by decide +kernel
theorem dX7_nextBale_9 : decode cX7_nextBale 9 = .ok (.if_icmp .ge 39, 3) := by decide +kernel
theorem dX7_nextBale_12 : decode cX7_nextBale 12 = .ok (.aload_n 0, 1) := by decide +kernel
theorem dX7_nextBale_13 : decode cX7_nextBale 13 = .ok (.getfield 126, 3) := by decide +kernel
theorem dX7_nextBale_16 : decode cX7_nextBale 16 = .ok (.iload_n 2, 1) := by decide +kernel
theorem dX7_nextBale_17 : decode cX7_nextBale 17 = .ok (.baload, 1) := by decide +kernel
theorem dX7_nextBale_18 : decode cX7_nextBale 18 = .ok (.ifCond .ne 24, 3) := by decide +kernel
theorem dX7_nextBale_21 : decode cX7_nextBale 21 = .ok (.iload_n 1, 1) := by decide +kernel
theorem dX7_nextBale_22 : decode cX7_nextBale 22 = .ok (.ifCond .lt 18, 3) := by decide +kernel
theorem dX7_nextBale_25 : decode cX7_nextBale 25 = .ok (.aload_n 0, 1) := by decide +kernel
theorem dX7_nextBale_26 : decode cX7_nextBale 26 = .ok (.getfield 123, 3) := by decide +kernel
theorem dX7_nextBale_29 : decode cX7_nextBale 29 = .ok (.iload_n 2, 1) := by decide +kernel
theorem dX7_nextBale_30 : decode cX7_nextBale 30 = .ok (.iaload, 1) := by decide +kernel
theorem dX7_nextBale_31 : decode cX7_nextBale 31 = .ok (.aload_n 0, 1) := by decide +kernel
theorem dX7_nextBale_32 : decode cX7_nextBale 32 = .ok (.getfield 123, 3) := by decide +kernel
theorem dX7_nextBale_35 : decode cX7_nextBale 35 = .ok (.iload_n 1, 1) := by decide +kernel
theorem dX7_nextBale_36 : decode cX7_nextBale 36 = .ok (.iaload, 1) := by decide +kernel
theorem dX7_nextBale_37 : decode cX7_nextBale 37 = .ok (.if_icmp .le 5, 3) := by decide +kernel
theorem dX7_nextBale_40 : decode cX7_nextBale 40 = .ok (.iload_n 2, 1) := by decide +kernel
theorem dX7_nextBale_41 : decode cX7_nextBale 41 = .ok (.istore_n 1, 1) := by decide +kernel
theorem dX7_nextBale_42 : decode cX7_nextBale 42 = .ok (.iinc 2 1, 3) := by decide +kernel
theorem dX7_nextBale_45 : decode cX7_nextBale 45 = .ok (.goto (-41), 3) := by decide +kernel
theorem dX7_nextBale_48 : decode cX7_nextBale 48 = .ok (.iload_n 1, 1) := by decide +kernel
theorem dX7_nextBale_49 : decode cX7_nextBale 49 = .ok (.ireturn, 1) := by decide +kernel
theorem dX7_toss_0 : decode cX7_toss 0 = .ok (.aload_n 0, 1) := by decide +kernel
theorem dX7_toss_1 : decode cX7_toss 1 = .ok (.iload_n 1, 1) := by decide +kernel
theorem dX7_toss_2 : decode cX7_toss 2 = .ok (.invokevirtual 155, 3) := by decide +kernel
theorem dX7_toss_5 : decode cX7_toss 5 = .ok (.ifCond .eq 13, 3) := by decide +kernel
theorem dX7_toss_8 : decode cX7_toss 8 = .ok (.iload_n 2, 1) := by decide +kernel
theorem dX7_toss_9 : decode cX7_toss 9 = .ok (.iconst 1, 1) := by decide +kernel
theorem dX7_toss_10 : decode cX7_toss 10 = .ok (.ldc 150, 2) := by decide +kernel
theorem dX7_toss_12 : decode cX7_toss 12 = .ok (.invokestatic 133, 3) := by decide +kernel
theorem dX7_toss_15 : decode cX7_toss 15 = .ok (.ifCond .ne 5, 3) := by decide +kernel
theorem dX7_toss_18 : decode cX7_toss 18 = .ok (.iconst (-1), 1) := by decide +kernel
theorem dX7_toss_19 : decode cX7_toss 19 = .ok (.ireturn, 1) := by decide +kernel
theorem dX7_toss_20 : decode cX7_toss 20 = .ok (.aload_n 0, 1) := by decide +kernel
theorem dX7_toss_21 : decode cX7_toss 21 = .ok (.getfield 34, 3) := by decide +kernel
theorem dX7_toss_24 : decode cX7_toss 24 = .ok (.iload_n 1, 1) := by decide +kernel
theorem dX7_toss_25 : decode cX7_toss 25 = .ok (.iaload, 1) := by decide +kernel
theorem dX7_toss_26 : decode cX7_toss 26 = .ok (.iconst 2, 1) := by decide +kernel
theorem dX7_toss_27 : decode cX7_toss 27 = .ok (.if_icmp .ne 11, 3) := by decide +kernel
theorem dX7_toss_30 : decode cX7_toss 30 = .ok (.aload_n 0, 1) := by decide +kernel
theorem dX7_toss_31 : decode cX7_toss 31 = .ok (.iload_n 1, 1) := by decide +kernel
theorem dX7_toss_32 : decode cX7_toss 32 = .ok (.invokevirtual 322, 3) := by decide +kernel
theorem dX7_toss_35 : decode cX7_toss 35 = .ok (.ifCond .ne 6, 3) := by decide +kernel
theorem dX7_toss_38 : decode cX7_toss 38 = .ok (.bipush (-2), 2) := by decide +kernel
theorem dX7_toss_40 : decode cX7_toss 40 = .ok (.ireturn, 1) := by decide +kernel
theorem dX7_toss_41 : decode cX7_toss 41 = .ok (.aload_n 0, 1) := by decide +kernel
theorem dX7_toss_42 : decode cX7_toss 42 = .ok (.getfield 31, 3) := by decide +kernel
theorem dX7_toss_45 : decode cX7_toss 45 = .ok (.iload_n 1, 1) := by decide +kernel
theorem dX7_toss_46 : decode cX7_toss 46 = .ok (.iaload, 1) := by decide +kernel
theorem dX7_toss_47 : decode cX7_toss 47 = .ok (.i2l, 1) := by decide +kernel
theorem dX7_toss_48 : decode cX7_toss 48 = .ok (.lstore_n 3, 1) := by decide +kernel
theorem dX7_toss_49 : decode cX7_toss 49 = .ok (.iconst 0, 1) := by decide +kernel
theorem dX7_toss_50 : decode cX7_toss 50 = .ok (.istore 5, 2) := by decide +kernel
theorem dX7_toss_52 : decode cX7_toss 52 = .ok (.iload 5, 2) := by decide +kernel
theorem dX7_toss_54 : decode cX7_toss 54 = .ok (.aload_n 0, 1) := by decide +kernel
theorem dX7_toss_55 : decode cX7_toss 55 = .ok (.getfield 143, 3) := by decide +kernel
theorem dX7_toss_58 : decode cX7_toss 58 = .ok (.if_icmp .ge 48, 3) := by decide +kernel
theorem dX7_toss_61 : decode cX7_toss 61 = .ok (.aload_n 0, 1) := by decide +kernel
theorem dX7_toss_62 : decode cX7_toss 62 = .ok (.getfield 126, 3) := by decide +kernel
theorem dX7_toss_65 : decode cX7_toss 65 = .ok (.iload 5, 2) := by decide +kernel
theorem dX7_toss_67 : decode cX7_toss 67 = .ok (.aload_n 0, 1) := by decide +kernel
theorem dX7_toss_68 : decode cX7_toss 68 = .ok (.iload 5, 2) := by decide +kernel
theorem dX7_toss_70 : decode cX7_toss 70 = .ok (.iload_n 1, 1) := by decide +kernel
theorem dX7_toss_71 : decode cX7_toss 71 = .ok (.invokevirtual 171, 3) := by decide +kernel
theorem dX7_toss_74 : decode cX7_toss 74 = .ok (.bastore, 1) := by decide +kernel
theorem dX7_toss_75 : decode cX7_toss 75 = .ok (.lload_n 3, 1) := by decide +kernel
theorem dX7_toss_76 : decode cX7_toss 76 = .ok (.aload_n 0, 1) := by decide +kernel
theorem dX7_toss_77 : decode cX7_toss 77 = .ok (.getfield 126, 3) := by decide +kernel
theorem dX7_toss_80 : decode cX7_toss 80 = .ok (.iload 5, 2) := by decide +kernel
theorem dX7_toss_82 : decode cX7_toss 82 = .ok (.baload, 1) := by decide +kernel
theorem dX7_toss_83 : decode cX7_toss 83 = .ok (.ifCond .eq 14, 3) := by decide +kernel
theorem dX7_toss_86 : decode cX7_toss 86 = .ok (.aload_n 0, 1) := by decide +kernel
theorem dX7_toss_87 : decode cX7_toss 87 = .ok (.getfield 80, 3) := by decide +kernel
theorem dX7_toss_90 : decode cX7_toss 90 = .ok (.iload 5, 2) := by decide +kernel
theorem dX7_toss_92 : decode cX7_toss 92 = .ok (.iaload, 1) := by decide +kernel
theorem dX7_toss_93 : decode cX7_toss 93 = .ok (.i2l, 1) := by decide +kernel
theorem dX7_toss_94 : decode cX7_toss 94 = .ok (.goto 4, 3) := by decide +kernel
theorem dX7_toss_97 : decode cX7_toss 97 = .ok (.lconst 0, 1) := by decide +kernel
theorem dX7_toss_98 : decode cX7_toss 98 = .ok (.ladd, 1) := by decide +kernel
theorem dX7_toss_99 : decode cX7_toss 99 = .ok (.lstore_n 3, 1) := by decide +kernel
theorem dX7_toss_100 : decode cX7_toss 100 = .ok (.iinc 5 1, 3) := by decide +kernel
theorem dX7_toss_103 : decode cX7_toss 103 = .ok (.goto (-51), 3) := by decide +kernel
theorem dX7_toss_106 : decode cX7_toss 106 = .ok (.iconst 0, 1) := by decide +kernel
theorem dX7_toss_107 : decode cX7_toss 107 = .ok (.istore 5, 2) := by decide +kernel
theorem dX7_toss_109 : decode cX7_toss 109 = .ok (.iconst 0, 1) := by decide +kernel
theorem dX7_toss_110 : decode cX7_toss 110 = .ok (.istore 6, 2) := by decide +kernel
theorem dX7_toss_112 : decode cX7_toss 112 = .ok (.aload_n 0, 1) := by decide +kernel
theorem dX7_toss_113 : decode cX7_toss 113 = .ok (.iload_n 1, 1) := by decide +kernel
theorem dX7_toss_114 : decode cX7_toss 114 = .ok (.invokevirtual 325, 3) := by decide +kernel
theorem dX7_toss_117 : decode cX7_toss 117 = .ok (.istore 7, 2) := by decide +kernel
theorem dX7_toss_119 : decode cX7_toss 119 = .ok (.iload 6, 2) := by decide +kernel
theorem dX7_toss_121 : decode cX7_toss 121 = .ok (.iload_n 2, 1) := by decide +kernel
theorem dX7_toss_122 : decode cX7_toss 122 = .ok (.if_icmp .ge 71, 3) := by decide +kernel
theorem dX7_toss_125 : decode cX7_toss 125 = .ok (.iload 7, 2) := by decide +kernel
theorem dX7_toss_127 : decode cX7_toss 127 = .ok (.ifCond .lt 66, 3) := by decide +kernel
theorem dX7_toss_130 : decode cX7_toss 130 = .ok (.aload_n 0, 1) := by decide +kernel
theorem dX7_toss_131 : decode cX7_toss 131 = .ok (.iload 7, 2) := by decide +kernel
theorem dX7_toss_133 : decode cX7_toss 133 = .ok (.iconst 3, 1) := by decide +kernel
theorem dX7_toss_134 : decode cX7_toss 134 = .ok (.invokevirtual 313, 3) := by decide +kernel
theorem dX7_toss_137 : decode cX7_toss 137 = .ok (.iload 5, 2) := by decide +kernel
theorem dX7_toss_139 : decode cX7_toss 139 = .ok (.aload_n 0, 1) := by decide +kernel
theorem dX7_toss_140 : decode cX7_toss 140 = .ok (.getfield 80, 3) := by decide +kernel
theorem dX7_toss_143 : decode cX7_toss 143 = .ok (.iload 7, 2) := by decide +kernel
theorem dX7_toss_145 : decode cX7_toss 145 = .ok (.iaload, 1) := by decide +kernel
theorem dX7_toss_146 : decode cX7_toss 146 = .ok (.iadd, 1) := by decide +kernel
theorem dX7_toss_147 : decode cX7_toss 147 = .ok (.istore 5, 2) := by decide +kernel
theorem dX7_toss_149 : decode cX7_toss 149 = .ok (.iload 6, 2) := by decide +kernel
theorem dX7_toss_151 : decode cX7_toss 151 = .ok (.aload_n 0, 1) := by decide +kernel
theorem dX7_toss_152 : decode cX7_toss 152 = .ok (.getfield 77, 3) := by decide +kernel
theorem dX7_toss_155 : decode cX7_toss 155 = .ok (.iload 7, 2) := by decide +kernel
theorem dX7_toss_157 : decode cX7_toss 157 = .ok (.iaload, 1) := by decide +kernel
theorem dX7_toss_158 : decode cX7_toss 158 = .ok (.iadd, 1) := by decide +kernel
theorem dX7_toss_159 : decode cX7_toss 159 = .ok (.istore 6, 2) := by decide +kernel
theorem dX7_toss_161 : decode cX7_toss 161 = .ok (.aload_n 0, 1) := by decide +kernel
theorem dX7_toss_162 : decode cX7_toss 162 = .ok (.getfield 7, 3) := by decide +kernel
theorem dX7_toss_165 : decode cX7_toss 165 = .ok (.aload_n 0, 1) := by decide +kernel
theorem dX7_toss_166 : decode cX7_toss 166 = .ok (.getfield 62, 3) := by decide +kernel
theorem dX7_toss_169 : decode cX7_toss 169 = .ok (.iload 7, 2) := by decide +kernel
theorem dX7_toss_171 : decode cX7_toss 171 = .ok (.iaload, 1) := by decide +kernel
theorem dX7_toss_172 : decode cX7_toss 172 = .ok (.dup2, 1) := by decide +kernel
theorem dX7_toss_173 : decode cX7_toss 173 = .ok (.iaload, 1) := by decide +kernel
theorem dX7_toss_174 : decode cX7_toss 174 = .ok (.aload_n 0, 1) := by decide +kernel
theorem dX7_toss_175 : decode cX7_toss 175 = .ok (.getfield 80, 3) := by decide +kernel
theorem dX7_toss_178 : decode cX7_toss 178 = .ok (.iload 7, 2) := by decide +kernel
theorem dX7_toss_180 : decode cX7_toss 180 = .ok (.iaload, 1) := by decide +kernel
theorem dX7_toss_181 : decode cX7_toss 181 = .ok (.iadd, 1) := by decide +kernel
theorem dX7_toss_182 : decode cX7_toss 182 = .ok (.iastore, 1) := by decide +kernel
theorem dX7_toss_183 : decode cX7_toss 183 = .ok (.aload_n 0, 1) := by decide +kernel
theorem dX7_toss_184 : decode cX7_toss 184 = .ok (.iload_n 1, 1) := by decide +kernel
theorem dX7_toss_185 : decode cX7_toss 185 = .ok (.invokevirtual 325, 3) := by decide +kernel
theorem dX7_toss_188 : decode cX7_toss 188 = .ok (.istore 7, 2) := by decide +kernel
theorem dX7_toss_190 : decode cX7_toss 190 = .ok (.goto (-71), 3) := by decide +kernel
theorem dX7_toss_193 : decode cX7_toss 193 = .ok (.iload 5, 2) := by decide +kernel
theorem dX7_toss_195 : decode cX7_toss 195 = .ok (.istore 8, 2) := by decide +kernel
theorem dX7_toss_197 : decode cX7_toss 197 = .ok (.iconst 0, 1) := by decide +kernel
theorem dX7_toss_198 : decode cX7_toss 198 = .ok (.istore 9, 2) := by decide +kernel
theorem dX7_toss_200 : decode cX7_toss 200 = .ok (.iload 9, 2) := by decide +kernel
theorem dX7_toss_202 : decode cX7_toss 202 = .ok (.aload_n 0, 1) := by decide +kernel
theorem dX7_toss_203 : decode cX7_toss 203 = .ok (.getfield 143, 3) := by decide +kernel
theorem dX7_toss_206 : decode cX7_toss 206 = .ok (.if_icmp .ge 63, 3) := by decide +kernel
theorem dX7_toss_209 : decode cX7_toss 209 = .ok (.aload_n 0, 1) := by decide +kernel
theorem dX7_toss_210 : decode cX7_toss 210 = .ok (.getfield 126, 3) := by decide +kernel
theorem dX7_toss_213 : decode cX7_toss 213 = .ok (.iload 9, 2) := by decide +kernel
theorem dX7_toss_215 : decode cX7_toss 215 = .ok (.baload, 1) := by decide +kernel
theorem dX7_toss_216 : decode cX7_toss 216 = .ok (.ifCond .ne 6, 3) := by decide +kernel
theorem dX7_toss_219 : decode cX7_toss 219 = .ok (.goto 44, 3) := by decide +kernel
theorem dX7_toss_222 : decode cX7_toss 222 = .ok (.iload 5, 2) := by decide +kernel
theorem dX7_toss_224 : decode cX7_toss 224 = .ok (.i2l, 1) := by decide +kernel
theorem dX7_toss_225 : decode cX7_toss 225 = .ok (.aload_n 0, 1) := by decide +kernel
theorem dX7_toss_226 : decode cX7_toss 226 = .ok (.getfield 80, 3) := by decide +kernel
theorem dX7_toss_229 : decode cX7_toss 229 = .ok (.iload 9, 2) := by decide +kernel
theorem dX7_toss_231 : decode cX7_toss 231 = .ok (.iaload, 1) := by decide +kernel
theorem dX7_toss_232 : decode cX7_toss 232 = .ok (.i2l, 1) := by decide +kernel
theorem dX7_toss_233 : decode cX7_toss 233 = .ok (.lmul, 1) := by decide +kernel
theorem dX7_toss_234 : decode cX7_toss 234 = .ok (.lload_n 3, 1) := by decide +kernel
theorem dX7_toss_235 : decode cX7_toss 235 = .ok (.ldiv, 1) := by decide +kernel
theorem dX7_toss_236 : decode cX7_toss 236 = .ok (.l2i, 1) := by decide +kernel
theorem dX7_toss_237 : decode cX7_toss 237 = .ok (.istore 10, 2) := by decide +kernel
theorem dX7_toss_239 : decode cX7_toss 239 = .ok (.aload_n 0, 1) := by decide +kernel
theorem dX7_toss_240 : decode cX7_toss 240 = .ok (.getfield 7, 3) := by decide +kernel
theorem dX7_toss_243 : decode cX7_toss 243 = .ok (.aload_n 0, 1) := by decide +kernel
theorem dX7_toss_244 : decode cX7_toss 244 = .ok (.getfield 62, 3) := by decide +kernel
theorem dX7_toss_247 : decode cX7_toss 247 = .ok (.iload 9, 2) := by decide +kernel
theorem dX7_toss_249 : decode cX7_toss 249 = .ok (.iaload, 1) := by decide +kernel
theorem dX7_toss_250 : decode cX7_toss 250 = .ok (.dup2, 1) := by decide +kernel
theorem dX7_toss_251 : decode cX7_toss 251 = .ok (.iaload, 1) := by decide +kernel
theorem dX7_toss_252 : decode cX7_toss 252 = .ok (.iload 10, 2) := by decide +kernel
theorem dX7_toss_254 : decode cX7_toss 254 = .ok (.isub, 1) := by decide +kernel
theorem dX7_toss_255 : decode cX7_toss 255 = .ok (.iastore, 1) := by decide +kernel
theorem dX7_toss_256 : decode cX7_toss 256 = .ok (.iload 8, 2) := by decide +kernel
theorem dX7_toss_258 : decode cX7_toss 258 = .ok (.iload 10, 2) := by decide +kernel
theorem dX7_toss_260 : decode cX7_toss 260 = .ok (.isub, 1) := by decide +kernel
theorem dX7_toss_261 : decode cX7_toss 261 = .ok (.istore 8, 2) := by decide +kernel
theorem dX7_toss_263 : decode cX7_toss 263 = .ok (.iinc 9 1, 3) := by decide +kernel
theorem dX7_toss_266 : decode cX7_toss 266 = .ok (.goto (-66), 3) := by decide +kernel
theorem dX7_toss_269 : decode cX7_toss 269 = .ok (.aload_n 0, 1) := by decide +kernel
theorem dX7_toss_270 : decode cX7_toss 270 = .ok (.dup, 1) := by decide +kernel
theorem dX7_toss_271 : decode cX7_toss 271 = .ok (.getfield 159, 3) := by decide +kernel
theorem dX7_toss_274 : decode cX7_toss 274 = .ok (.iload 8, 2) := by decide +kernel
theorem dX7_toss_276 : decode cX7_toss 276 = .ok (.isub, 1) := by decide +kernel
theorem dX7_toss_277 : decode cX7_toss 277 = .ok (.putfield 159, 3) := by decide +kernel
theorem dX7_toss_280 : decode cX7_toss 280 = .ok (.iload 5, 2) := by decide +kernel
theorem dX7_toss_282 : decode cX7_toss 282 = .ok (.ireturn, 1) := by decide +kernel
theorem dX7_heaviest_0 : decode cX7_heaviest 0 = .ok (.iconst (-1), 1) := by decide +kernel
theorem dX7_heaviest_1 : decode cX7_heaviest 1 = .ok (.istore_n 2, 1) := by decide +kernel
theorem dX7_heaviest_2 : decode cX7_heaviest 2 = .ok (.iconst 0, 1) := by decide +kernel
theorem dX7_heaviest_3 : decode cX7_heaviest 3 = .ok (.istore_n 3, 1) := by decide +kernel
theorem dX7_heaviest_4 : decode cX7_heaviest 4 = .ok (.iload_n 3, 1) := by decide +kernel
theorem dX7_heaviest_5 : decode cX7_heaviest 5 = .ok (.aload_n 0, 1) := by decide +kernel
theorem dX7_heaviest_6 : decode cX7_heaviest 6 = .ok (.getfield 143, 3) := by decide +kernel
theorem dX7_heaviest_9 : decode cX7_heaviest 9 = .ok (.if_icmp .ge 39, 3) := by decide +kernel
theorem dX7_heaviest_12 : decode cX7_heaviest 12 = .ok (.aload_n 0, 1) := by decide +kernel
theorem dX7_heaviest_13 : decode cX7_heaviest 13 = .ok (.iload_n 3, 1) := by decide +kernel
theorem dX7_heaviest_14 : decode cX7_heaviest 14 = .ok (.iload_n 1, 1) := by decide +kernel
theorem dX7_heaviest_15 : decode cX7_heaviest 15 = .ok (.invokevirtual 171, 3) := by decide +kernel
theorem dX7_heaviest_18 : decode cX7_heaviest 18 = .ok (.ifCond .eq 24, 3) := by decide +kernel
theorem dX7_heaviest_21 : decode cX7_heaviest 21 = .ok (.iload_n 2, 1) := by decide +kernel
theorem dX7_heaviest_22 : decode cX7_heaviest 22 = .ok (.ifCond .lt 18, 3) := by decide +kernel
theorem dX7_heaviest_25 : decode cX7_heaviest 25 = .ok (.aload_n 0, 1) := by decide +kernel
theorem dX7_heaviest_26 : decode cX7_heaviest 26 = .ok (.getfield 77, 3) := by decide +kernel
theorem dX7_heaviest_29 : decode cX7_heaviest 29 = .ok (.iload_n 3, 1) := by decide +kernel
theorem dX7_heaviest_30 : decode cX7_heaviest 30 = .ok (.iaload, 1) := by decide +kernel
theorem dX7_heaviest_31 : decode cX7_heaviest 31 = .ok (.aload_n 0, 1) := by decide +kernel
theorem dX7_heaviest_32 : decode cX7_heaviest 32 = .ok (.getfield 77, 3) := by decide +kernel
theorem dX7_heaviest_35 : decode cX7_heaviest 35 = .ok (.iload_n 2, 1) := by decide +kernel
theorem dX7_heaviest_36 : decode cX7_heaviest 36 = .ok (.iaload, 1) := by decide +kernel
theorem dX7_heaviest_37 : decode cX7_heaviest 37 = .ok (.if_icmp .le 5, 3) := by decide +kernel
theorem dX7_heaviest_40 : decode cX7_heaviest 40 = .ok (.iload_n 3, 1) := by decide +kernel
theorem dX7_heaviest_41 : decode cX7_heaviest 41 = .ok (.istore_n 2, 1) := by decide +kernel
theorem dX7_heaviest_42 : decode cX7_heaviest 42 = .ok (.iinc 3 1, 3) := by decide +kernel
theorem dX7_heaviest_45 : decode cX7_heaviest 45 = .ok (.goto (-41), 3) := by decide +kernel
theorem dX7_heaviest_48 : decode cX7_heaviest 48 = .ok (.iload_n 2, 1) := by decide +kernel
theorem dX7_heaviest_49 : decode cX7_heaviest 49 = .ok (.ireturn, 1) := by decide +kernel
theorem dX7_ship_0 : decode cX7_ship 0 = .ok (.aload_n 0, 1) := by decide +kernel
theorem dX7_ship_1 : decode cX7_ship 1 = .ok (.iload_n 1, 1) := by decide +kernel
theorem dX7_ship_2 : decode cX7_ship 2 = .ok (.invokevirtual 155, 3) := by decide +kernel
theorem dX7_ship_5 : decode cX7_ship 5 = .ok (.ifCond .ne 6, 3) := by decide +kernel
theorem dX7_ship_8 : decode cX7_ship 8 = .ok (.bipush (-2), 2) := by decide +kernel
theorem dX7_ship_10 : decode cX7_ship 10 = .ok (.ireturn, 1) := by decide +kernel
theorem dX7_ship_11 : decode cX7_ship 11 = .ok (.iload_n 2, 1) := by decide +kernel
theorem dX7_ship_12 : decode cX7_ship 12 = .ok (.tableswitch 132 0 9 #[56, 63, 70, 77, 84, 90, 96, 103, 110, 117], 56) := by decide +kernel
theorem dX7_ship_68 : decode cX7_ship 68 = .ok (.aload_n 0, 1) := by decide +kernel
theorem dX7_ship_69 : decode cX7_ship 69 = .ok (.getfield 34, 3) := by decide +kernel
theorem dX7_ship_72 : decode cX7_ship 72 = .ok (.iload_n 1, 1) := by decide +kernel
theorem dX7_ship_73 : decode cX7_ship 73 = .ok (.iaload, 1) := by decide +kernel
theorem dX7_ship_74 : decode cX7_ship 74 = .ok (.ireturn, 1) := by decide +kernel
theorem dX7_ship_75 : decode cX7_ship 75 = .ok (.aload_n 0, 1) := by decide +kernel
theorem dX7_ship_76 : decode cX7_ship 76 = .ok (.getfield 37, 3) := by decide +kernel
theorem dX7_ship_79 : decode cX7_ship 79 = .ok (.iload_n 1, 1) := by decide +kernel
theorem dX7_ship_80 : decode cX7_ship 80 = .ok (.iaload, 1) := by decide +kernel
theorem dX7_ship_81 : decode cX7_ship 81 = .ok (.ireturn, 1) := by decide +kernel
theorem dX7_ship_82 : decode cX7_ship 82 = .ok (.aload_n 0, 1) := by decide +kernel
theorem dX7_ship_83 : decode cX7_ship 83 = .ok (.getfield 40, 3) := by decide +kernel
theorem dX7_ship_86 : decode cX7_ship 86 = .ok (.iload_n 1, 1) := by decide +kernel
theorem dX7_ship_87 : decode cX7_ship 87 = .ok (.iaload, 1) := by decide +kernel
theorem dX7_ship_88 : decode cX7_ship 88 = .ok (.ireturn, 1) := by decide +kernel
theorem dX7_ship_89 : decode cX7_ship 89 = .ok (.aload_n 0, 1) := by decide +kernel
theorem dX7_ship_90 : decode cX7_ship 90 = .ok (.getfield 43, 3) := by decide +kernel
theorem dX7_ship_93 : decode cX7_ship 93 = .ok (.iload_n 1, 1) := by decide +kernel
theorem dX7_ship_94 : decode cX7_ship 94 = .ok (.iaload, 1) := by decide +kernel
theorem dX7_ship_95 : decode cX7_ship 95 = .ok (.ireturn, 1) := by decide +kernel
theorem dX7_ship_96 : decode cX7_ship 96 = .ok (.aload_n 0, 1) := by decide +kernel
theorem dX7_ship_97 : decode cX7_ship 97 = .ok (.iload_n 1, 1) := by decide +kernel
theorem dX7_ship_98 : decode cX7_ship 98 = .ok (.invokevirtual 322, 3) := by decide +kernel
theorem dX7_ship_101 : decode cX7_ship 101 = .ok (.ireturn, 1) := by decide +kernel
theorem dX7_ship_102 : decode cX7_ship 102 = .ok (.aload_n 0, 1) := by decide +kernel
theorem dX7_ship_103 : decode cX7_ship 103 = .ok (.iload_n 1, 1) := by decide +kernel
theorem dX7_ship_104 : decode cX7_ship 104 = .ok (.invokevirtual 319, 3) := by decide +kernel
theorem dX7_ship_107 : decode cX7_ship 107 = .ok (.ireturn, 1) := by decide +kernel
theorem dX7_ship_108 : decode cX7_ship 108 = .ok (.aload_n 0, 1) := by decide +kernel
theorem dX7_ship_109 : decode cX7_ship 109 = .ok (.iload_n 1, 1) := by decide +kernel
theorem dX7_ship_110 : decode cX7_ship 110 = .ok (.iconst 0, 1) := by decide +kernel
theorem dX7_ship_111 : decode cX7_ship 111 = .ok (.invokevirtual 283, 3) := by decide +kernel
theorem dX7_ship_114 : decode cX7_ship 114 = .ok (.ireturn, 1) := by decide +kernel
theorem dX7_ship_115 : decode cX7_ship 115 = .ok (.aload_n 0, 1) := by decide +kernel
theorem dX7_ship_116 : decode cX7_ship 116 = .ok (.getfield 46, 3) := by decide +kernel
theorem dX7_ship_119 : decode cX7_ship 119 = .ok (.iload_n 1, 1) := by decide +kernel
theorem dX7_ship_120 : decode cX7_ship 120 = .ok (.iaload, 1) := by decide +kernel
theorem dX7_ship_121 : decode cX7_ship 121 = .ok (.ireturn, 1) := by decide +kernel
theorem dX7_ship_122 : decode cX7_ship 122 = .ok (.aload_n 0, 1) := by decide +kernel
theorem dX7_ship_123 : decode cX7_ship 123 = .ok (.getfield 49, 3) := by decide +kernel
theorem dX7_ship_126 : decode cX7_ship 126 = .ok (.iload_n 1, 1) := by decide +kernel
theorem dX7_ship_127 : decode cX7_ship 127 = .ok (.iaload, 1) := by decide +kernel
theorem dX7_ship_128 : decode cX7_ship 128 = .ok (.ireturn, 1) := by decide +kernel
theorem dX7_ship_129 : decode cX7_ship 129 = .ok (.aload_n 0, 1) := by decide +kernel
theorem dX7_ship_130 : decode cX7_ship 130 = .ok (.getfield 55, 3) := by decide +kernel
theorem dX7_ship_133 : decode cX7_ship 133 = .ok (.iload_n 1, 1) := by decide +kernel
theorem dX7_ship_134 : decode cX7_ship 134 = .ok (.baload, 1) := by decide +kernel
theorem dX7_ship_135 : decode cX7_ship 135 = .ok (.ifCond .eq 7, 3) := by decide +kernel
theorem dX7_ship_138 : decode cX7_ship 138 = .ok (.iconst 1, 1) := by decide +kernel
theorem dX7_ship_139 : decode cX7_ship 139 = .ok (.goto 4, 3) := by decide +kernel
theorem dX7_ship_142 : decode cX7_ship 142 = .ok (.iconst 0, 1) := by decide +kernel
theorem dX7_ship_143 : decode cX7_ship 143 = .ok (.ireturn, 1) := by decide +kernel
theorem dX7_ship_144 : decode cX7_ship 144 = .ok (.bipush (-2), 2) := by decide +kernel
theorem dX7_ship_146 : decode cX7_ship 146 = .ok (.ireturn, 1) := by decide +kernel
theorem dX7_balesAs_0 : decode cX7_balesAs 0 = .ok (.iconst 0, 1) := by decide +kernel
theorem dX7_balesAs_1 : decode cX7_balesAs 1 = .ok (.istore_n 2, 1) := by decide +kernel
theorem dX7_balesAs_2 : decode cX7_balesAs 2 = .ok (.iconst 0, 1) := by decide +kernel
theorem dX7_balesAs_3 : decode cX7_balesAs 3 = .ok (.istore_n 3, 1) := by decide +kernel
theorem dX7_balesAs_4 : decode cX7_balesAs 4 = .ok (.iload_n 3, 1) := by decide +kernel
theorem dX7_balesAs_5 : decode cX7_balesAs 5 = .ok (.aload_n 0, 1) := by decide +kernel
theorem dX7_balesAs_6 : decode cX7_balesAs 6 = .ok (.getfield 143, 3) := by decide +kernel
theorem dX7_balesAs_9 : decode cX7_balesAs 9 = .ok (.if_icmp .ge 27, 3) := by decide +kernel
theorem dX7_balesAs_12 : decode cX7_balesAs 12 = .ok (.iload_n 2, 1) := by decide +kernel
theorem dX7_balesAs_13 : decode cX7_balesAs 13 = .ok (.aload_n 0, 1) := by decide +kernel
theorem dX7_balesAs_14 : decode cX7_balesAs 14 = .ok (.getfield 89, 3) := by decide +kernel
theorem dX7_balesAs_17 : decode cX7_balesAs 17 = .ok (.iload_n 3, 1) := by decide +kernel
theorem dX7_balesAs_18 : decode cX7_balesAs 18 = .ok (.iaload, 1) := by decide +kernel
theorem dX7_balesAs_19 : decode cX7_balesAs 19 = .ok (.iload_n 1, 1) := by decide +kernel
theorem dX7_balesAs_20 : decode cX7_balesAs 20 = .ok (.if_icmp .ne 7, 3) := by decide +kernel
theorem dX7_balesAs_23 : decode cX7_balesAs 23 = .ok (.iconst 1, 1) := by decide +kernel
theorem dX7_balesAs_24 : decode cX7_balesAs 24 = .ok (.goto 4, 3) := by decide +kernel
theorem dX7_balesAs_27 : decode cX7_balesAs 27 = .ok (.iconst 0, 1) := by decide +kernel
theorem dX7_balesAs_28 : decode cX7_balesAs 28 = .ok (.iadd, 1) := by decide +kernel
theorem dX7_balesAs_29 : decode cX7_balesAs 29 = .ok (.istore_n 2, 1) := by decide +kernel
theorem dX7_balesAs_30 : decode cX7_balesAs 30 = .ok (.iinc 3 1, 3) := by decide +kernel
theorem dX7_balesAs_33 : decode cX7_balesAs 33 = .ok (.goto (-29), 3) := by decide +kernel
theorem dX7_balesAs_36 : decode cX7_balesAs 36 = .ok (.iload_n 2, 1) := by decide +kernel
theorem dX7_balesAs_37 : decode cX7_balesAs 37 = .ok (.ireturn, 1) := by decide +kernel
theorem dX7_count_0 : decode cX7_count 0 = .ok (.iload_n 1, 1) := by decide +kernel
theorem dX7_count_1 : decode cX7_count 1 = .ok (.tableswitch 93 0 9 #[55, 60, 65, 70, 75, 80, 80, 80, 80, 88], 55) := by decide +kernel
theorem dX7_count_56 : decode cX7_count 56 = .ok (.aload_n 0, 1) := by decide +kernel
theorem dX7_count_57 : decode cX7_count 57 = .ok (.getfield 137, 3) := by decide +kernel
theorem dX7_count_60 : decode cX7_count 60 = .ok (.ireturn, 1) := by decide +kernel
theorem dX7_count_61 : decode cX7_count 61 = .ok (.aload_n 0, 1) := by decide +kernel
theorem dX7_count_62 : decode cX7_count 62 = .ok (.getfield 140, 3) := by decide +kernel
theorem dX7_count_65 : decode cX7_count 65 = .ok (.ireturn, 1) := by decide +kernel
theorem dX7_count_66 : decode cX7_count 66 = .ok (.aload_n 0, 1) := by decide +kernel
theorem dX7_count_67 : decode cX7_count 67 = .ok (.getfield 143, 3) := by decide +kernel
theorem dX7_count_70 : decode cX7_count 70 = .ok (.ireturn, 1) := by decide +kernel
theorem dX7_count_71 : decode cX7_count 71 = .ok (.aload_n 0, 1) := by decide +kernel
theorem dX7_count_72 : decode cX7_count 72 = .ok (.getfield 256, 3) := by decide +kernel
theorem dX7_count_75 : decode cX7_count 75 = .ok (.ireturn, 1) := by decide +kernel
theorem dX7_count_76 : decode cX7_count 76 = .ok (.aload_n 0, 1) := by decide +kernel
theorem dX7_count_77 : decode cX7_count 77 = .ok (.getfield 165, 3) := by decide +kernel
theorem dX7_count_80 : decode cX7_count 80 = .ok (.ireturn, 1) := by decide +kernel
theorem dX7_count_81 : decode cX7_count 81 = .ok (.aload_n 0, 1) := by decide +kernel
theorem dX7_count_82 : decode cX7_count 82 = .ok (.iload_n 1, 1) := by decide +kernel
theorem dX7_count_83 : decode cX7_count 83 = .ok (.iconst 5, 1) := by decide +kernel
theorem dX7_count_84 : decode cX7_count 84 = .ok (.isub, 1) := by decide +kernel
theorem dX7_count_85 : decode cX7_count 85 = .ok (.invokevirtual 328, 3) := by decide +kernel
theorem dX7_count_88 : decode cX7_count 88 = .ok (.ireturn, 1) := by decide +kernel
theorem dX7_count_89 : decode cX7_count 89 = .ok (.aload_n 0, 1) := by decide +kernel
theorem dX7_count_90 : decode cX7_count 90 = .ok (.getfield 175, 3) := by decide +kernel
theorem dX7_count_93 : decode cX7_count 93 = .ok (.ireturn, 1) := by decide +kernel
theorem dX7_count_94 : decode cX7_count 94 = .ok (.iconst (-1), 1) := by decide +kernel
theorem dX7_count_95 : decode cX7_count 95 = .ok (.ireturn, 1) := by decide +kernel
theorem dX7_coins_0 : decode cX7_coins 0 = .ok (.iload_n 1, 1) := by decide +kernel
theorem dX7_coins_1 : decode cX7_coins 1 = .ok (.invokestatic 146, 3) := by decide +kernel
theorem dX7_coins_4 : decode cX7_coins 4 = .ok (.ifCond .eq 12, 3) := by decide +kernel
theorem dX7_coins_7 : decode cX7_coins 7 = .ok (.aload_n 0, 1) := by decide +kernel
theorem dX7_coins_8 : decode cX7_coins 8 = .ok (.getfield 7, 3) := by decide +kernel
theorem dX7_coins_11 : decode cX7_coins 11 = .ok (.iload_n 1, 1) := by decide +kernel
theorem dX7_coins_12 : decode cX7_coins 12 = .ok (.iaload, 1) := by decide +kernel
theorem dX7_coins_13 : decode cX7_coins 13 = .ok (.goto 31, 3) := by decide +kernel
theorem dX7_coins_16 : decode cX7_coins 16 = .ok (.iload_n 1, 1) := by decide +kernel
theorem dX7_coins_17 : decode cX7_coins 17 = .ok (.bipush 10, 2) := by decide +kernel
theorem dX7_coins_19 : decode cX7_coins 19 = .ok (.if_icmp .ne 10, 3) := by decide +kernel
theorem dX7_coins_22 : decode cX7_coins 22 = .ok (.aload_n 0, 1) := by decide +kernel
theorem dX7_coins_23 : decode cX7_coins 23 = .ok (.getfield 159, 3) := by decide +kernel
theorem dX7_coins_26 : decode cX7_coins 26 = .ok (.goto 18, 3) := by decide +kernel
theorem dX7_coins_29 : decode cX7_coins 29 = .ok (.iload_n 1, 1) := by decide +kernel
theorem dX7_coins_30 : decode cX7_coins 30 = .ok (.bipush 11, 2) := by decide +kernel
theorem dX7_coins_32 : decode cX7_coins 32 = .ok (.if_icmp .ne 10, 3) := by decide +kernel
theorem dX7_coins_35 : decode cX7_coins 35 = .ok (.aload_n 0, 1) := by decide +kernel
theorem dX7_coins_36 : decode cX7_coins 36 = .ok (.getfield 152, 3) := by decide +kernel
theorem dX7_coins_39 : decode cX7_coins 39 = .ok (.goto 5, 3) := by decide +kernel
theorem dX7_coins_42 : decode cX7_coins 42 = .ok (.ldc 151, 2) := by decide +kernel
theorem dX7_coins_44 : decode cX7_coins 44 = .ok (.ireturn, 1) := by decide +kernel
