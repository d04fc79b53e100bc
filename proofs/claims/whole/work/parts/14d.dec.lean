theorem dX11_init_0 : decode cX11_init 0 = .ok (.aload_n 0, 1) := by decide +kernel
theorem dX11_init_1 : decode cX11_init 1 = .ok (.invokespecial 1, 3) := by decide +kernel
theorem dX11_init_4 : decode cX11_init 4 = .ok (.aload_n 0, 1) := by decide +kernel
theorem dX11_init_5 : decode cX11_init 5 = .ok (.bipush 16, 2) := by decide +kernel
theorem dX11_init_7 : decode cX11_init 7 = .ok (.newarray .int, 2) := by decide +kernel
theorem dX11_init_9 : decode cX11_init 9 = .ok (.putfield 7, 3) := by decide +kernel
theorem dX11_init_12 : decode cX11_init 12 = .ok (.aload_n 0, 1) := by decide +kernel
theorem dX11_init_13 : decode cX11_init 13 = .ok (.bipush 16, 2) := by decide +kernel
theorem dX11_init_15 : decode cX11_init 15 = .ok (.newarray .int, 2) := by decide +kernel
theorem dX11_init_17 : decode cX11_init 17 = .ok (.putfield 13, 3) := by decide +kernel
theorem dX11_init_20 : decode cX11_init 20 = .ok (.aload_n 0, 1) := by decide +kernel
theorem dX11_init_21 : decode cX11_init 21 = .ok (.bipush 16, 2) := by decide +kernel
theorem dX11_init_23 : decode cX11_init 23 = .ok (.newarray .int, 2) := by decide +kernel
theorem dX11_init_25 : decode cX11_init 25 = .ok (.putfield 16, 3) := by decide +kernel
theorem dX11_init_28 : decode cX11_init 28 = .ok (.aload_n 0, 1) := by decide +kernel
theorem dX11_init_29 : decode cX11_init 29 = .ok (.bipush 16, 2) := by decide +kernel
theorem dX11_init_31 : decode cX11_init 31 = .ok (.newarray .boolean, 2) := by decide +kernel
theorem dX11_init_33 : decode cX11_init 33 = .ok (.putfield 19, 3) := by decide +kernel
theorem dX11_init_36 : decode cX11_init 36 = .ok (.aload_n 0, 1) := by decide +kernel
theorem dX11_init_37 : decode cX11_init 37 = .ok (.bipush 12, 2) := by decide +kernel
theorem dX11_init_39 : decode cX11_init 39 = .ok (.newarray .int, 2) := by decide +kernel
theorem dX11_init_41 : decode cX11_init 41 = .ok (.putfield 23, 3) := by decide +kernel
theorem dX11_init_44 : decode cX11_init 44 = .ok (.aload_n 0, 1) := by decide +kernel
theorem dX11_init_45 : decode cX11_init 45 = .ok (.bipush 36, 2) := by decide +kernel
theorem dX11_init_47 : decode cX11_init 47 = .ok (.newarray .int, 2) := by decide +kernel
theorem dX11_init_49 : decode cX11_init 49 = .ok (.putfield 26, 3) := by decide +kernel
theorem dX11_init_52 : decode cX11_init 52 = .ok (.aload_n 0, 1) := by decide +kernel
theorem dX11_init_53 : decode cX11_init 53 = .ok (.bipush 36, 2) := by decide +kernel
theorem dX11_init_55 : decode cX11_init 55 = .ok (.newarray .int, 2) := by decide +kernel
theorem dX11_init_57 : decode cX11_init 57 = .ok (.putfield 29, 3) := by decide +kernel
theorem dX11_init_60 : decode cX11_init 60 = .ok (.aload_n 0, 1) := by decide +kernel
theorem dX11_init_61 : decode cX11_init 61 = .ok (.sipush 216, 3) := by decide +kernel
theorem dX11_init_64 : decode cX11_init 64 = .ok (.newarray .int, 2) := by decide +kernel
theorem dX11_init_66 : decode cX11_init 66 = .ok (.putfield 32, 3) := by decide +kernel
theorem dX11_init_69 : decode cX11_init 69 = .ok (.aload_n 0, 1) := by decide +kernel
theorem dX11_init_70 : decode cX11_init 70 = .ok (.bipush 6, 2) := by decide +kernel
theorem dX11_init_72 : decode cX11_init 72 = .ok (.newarray .int, 2) := by decide +kernel
theorem dX11_init_74 : decode cX11_init 74 = .ok (.dup, 1) := by decide +kernel
theorem dX11_init_75 : decode cX11_init 75 = .ok (.iconst 0, 1) := by decide +kernel
theorem dX11_init_76 : decode cX11_init 76 = .ok (.iconst 2, 1) := by decide +kernel
theorem dX11_init_77 : decode cX11_init 77 = .ok (.iastore, 1) := by decide +kernel
theorem dX11_init_78 : decode cX11_init 78 = .ok (.dup, 1) := by decide +kernel
theorem dX11_init_79 : decode cX11_init 79 = .ok (.iconst 1, 1) := by decide +kernel
theorem dX11_init_80 : decode cX11_init 80 = .ok (.iconst 3, 1) := by decide +kernel
theorem dX11_init_81 : decode cX11_init 81 = .ok (.iastore, 1) := by decide +kernel
theorem dX11_init_82 : decode cX11_init 82 = .ok (.dup, 1) := by decide +kernel
theorem dX11_init_83 : decode cX11_init 83 = .ok (.iconst 2, 1) := by decide +kernel
theorem dX11_init_84 : decode cX11_init 84 = .ok (.iconst 5, 1) := by decide +kernel
theorem dX11_init_85 : decode cX11_init 85 = .ok (.iastore, 1) := by decide +kernel
theorem dX11_init_86 : decode cX11_init 86 = .ok (.dup, 1) := by decide +kernel
theorem dX11_init_87 : decode cX11_init 87 = .ok (.iconst 3, 1) := by decide +kernel
theorem dX11_init_88 : decode cX11_init 88 = .ok (.bipush 7, 2) := by decide +kernel
theorem dX11_init_90 : decode cX11_init 90 = .ok (.iastore, 1) := by decide +kernel
theorem dX11_init_91 : decode cX11_init 91 = .ok (.dup, 1) := by decide +kernel
theorem dX11_init_92 : decode cX11_init 92 = .ok (.iconst 4, 1) := by decide +kernel
theorem dX11_init_93 : decode cX11_init 93 = .ok (.bipush 11, 2) := by decide +kernel
theorem dX11_init_95 : decode cX11_init 95 = .ok (.iastore, 1) := by decide +kernel
theorem dX11_init_96 : decode cX11_init 96 = .ok (.dup, 1) := by decide +kernel
theorem dX11_init_97 : decode cX11_init 97 = .ok (.iconst 5, 1) := by decide +kernel
theorem dX11_init_98 : decode cX11_init 98 = .ok (.bipush 13, 2) := by decide +kernel
theorem dX11_init_100 : decode cX11_init 100 = .ok (.iastore, 1) := by decide +kernel
theorem dX11_init_101 : decode cX11_init 101 = .ok (.putfield 35, 3) := by decide +kernel
theorem dX11_init_104 : decode cX11_init 104 = .ok (.aload_n 0, 1) := by decide +kernel
theorem dX11_init_105 : decode cX11_init 105 = .ok (.bipush 6, 2) := by decide +kernel
theorem dX11_init_107 : decode cX11_init 107 = .ok (.newarray .int, 2) := by decide +kernel
theorem dX11_init_109 : decode cX11_init 109 = .ok (.dup, 1) := by decide +kernel
theorem dX11_init_110 : decode cX11_init 110 = .ok (.iconst 0, 1) := by decide +kernel
theorem dX11_init_111 : decode cX11_init 111 = .ok (.ldc 38, 2) := by decide +kernel
theorem dX11_init_113 : decode cX11_init 113 = .ok (.iastore, 1) := by decide +kernel
theorem dX11_init_114 : decode cX11_init 114 = .ok (.dup, 1) := by decide +kernel
theorem dX11_init_115 : decode cX11_init 115 = .ok (.iconst 1, 1) := by decide +kernel
theorem dX11_init_116 : decode cX11_init 116 = .ok (.ldc 39, 2) := by decide +kernel
theorem dX11_init_118 : decode cX11_init 118 = .ok (.iastore, 1) := by decide +kernel
theorem dX11_init_119 : decode cX11_init 119 = .ok (.dup, 1) := by decide +kernel
theorem dX11_init_120 : decode cX11_init 120 = .ok (.iconst 2, 1) := by decide +kernel
theorem dX11_init_121 : decode cX11_init 121 = .ok (.ldc 40, 2) := by decide +kernel
theorem dX11_init_123 : decode cX11_init 123 = .ok (.iastore, 1) := by decide +kernel
theorem dX11_init_124 : decode cX11_init 124 = .ok (.dup, 1) := by decide +kernel
theorem dX11_init_125 : decode cX11_init 125 = .ok (.iconst 3, 1) := by decide +kernel
theorem dX11_init_126 : decode cX11_init 126 = .ok (.ldc 41, 2) := by decide +kernel
theorem dX11_init_128 : decode cX11_init 128 = .ok (.iastore, 1) := by decide +kernel
theorem dX11_init_129 : decode cX11_init 129 = .ok (.dup, 1) := by decide +kernel
theorem dX11_init_130 : decode cX11_init 130 = .ok (.iconst 4, 1) := by decide +kernel
theorem dX11_init_131 : decode cX11_init 131 = .ok (.ldc 42, 2) := by decide +kernel
theorem dX11_init_133 : decode cX11_init 133 = .ok (.iastore, 1) := by decide +kernel
theorem dX11_init_134 : decode cX11_init 134 = .ok (.dup, 1) := by decide +kernel
theorem dX11_init_135 : decode cX11_init 135 = .ok (.iconst 5, 1) := by decide +kernel
theorem dX11_init_136 : decode cX11_init 136 = .ok (.ldc 43, 2) := by decide +kernel
theorem dX11_init_138 : decode cX11_init 138 = .ok (.iastore, 1) := by decide +kernel
theorem dX11_init_139 : decode cX11_init 139 = .ok (.putfield 44, 3) := by decide +kernel
theorem dX11_init_142 : decode cX11_init 142 = .ok (.aload_n 0, 1) := by decide +kernel
theorem dX11_init_143 : decode cX11_init 143 = .ok (.iconst 5, 1) := by decide +kernel
theorem dX11_init_144 : decode cX11_init 144 = .ok (.newarray .int, 2) := by decide +kernel
theorem dX11_init_146 : decode cX11_init 146 = .ok (.dup, 1) := by decide +kernel
theorem dX11_init_147 : decode cX11_init 147 = .ok (.iconst 0, 1) := by decide +kernel
theorem dX11_init_148 : decode cX11_init 148 = .ok (.ldc 47, 2) := by decide +kernel
theorem dX11_init_150 : decode cX11_init 150 = .ok (.iastore, 1) := by decide +kernel
theorem dX11_init_151 : decode cX11_init 151 = .ok (.dup, 1) := by decide +kernel
theorem dX11_init_152 : decode cX11_init 152 = .ok (.iconst 1, 1) := by decide +kernel
theorem dX11_init_153 : decode cX11_init 153 = .ok (.iconst 1, 1) := by decide +kernel
theorem dX11_init_154 : decode cX11_init 154 = .ok (.iastore, 1) := by decide +kernel
theorem dX11_init_155 : decode cX11_init 155 = .ok (.dup, 1) := by decide +kernel
theorem dX11_init_156 : decode cX11_init 156 = .ok (.iconst 2, 1) := by decide +kernel
theorem dX11_init_157 : decode cX11_init 157 = .ok (.iconst 4, 1) := by decide +kernel
theorem dX11_init_158 : decode cX11_init 158 = .ok (.iastore, 1) := by decide +kernel
theorem dX11_init_159 : decode cX11_init 159 = .ok (.dup, 1) := by decide +kernel
theorem dX11_init_160 : decode cX11_init 160 = .ok (.iconst 3, 1) := by decide +kernel
theorem dX11_init_161 : decode cX11_init 161 = .ok (.iconst 2, 1) := by decide +kernel
theorem dX11_init_162 : decode cX11_init 162 = .ok (.iastore, 1) := by decide +kernel
theorem dX11_init_163 : decode cX11_init 163 = .ok (.dup, 1) := by decide +kernel
theorem dX11_init_164 : decode cX11_init 164 = .ok (.iconst 4, 1) := by decide +kernel
theorem dX11_init_165 : decode cX11_init 165 = .ok (.iconst 1, 1) := by decide +kernel
theorem dX11_init_166 : decode cX11_init 166 = .ok (.iastore, 1) := by decide +kernel
theorem dX11_init_167 : decode cX11_init 167 = .ok (.putfield 48, 3) := by decide +kernel
theorem dX11_init_170 : decode cX11_init 170 = .ok (.aload_n 0, 1) := by decide +kernel
theorem dX11_init_171 : decode cX11_init 171 = .ok (.bipush 32, 2) := by decide +kernel
theorem dX11_init_173 : decode cX11_init 173 = .ok (.newarray .int, 2) := by decide +kernel
theorem dX11_init_175 : decode cX11_init 175 = .ok (.putfield 51, 3) := by decide +kernel
theorem dX11_init_178 : decode cX11_init 178 = .ok (.aload_n 0, 1) := by decide +kernel
theorem dX11_init_179 : decode cX11_init 179 = .ok (.bipush 32, 2) := by decide +kernel
theorem dX11_init_181 : decode cX11_init 181 = .ok (.newarray .int, 2) := by decide +kernel
theorem dX11_init_183 : decode cX11_init 183 = .ok (.putfield 54, 3) := by decide +kernel
theorem dX11_init_186 : decode cX11_init 186 = .ok (.aload_n 0, 1) := by decide +kernel
theorem dX11_init_187 : decode cX11_init 187 = .ok (.bipush 32, 2) := by decide +kernel
theorem dX11_init_189 : decode cX11_init 189 = .ok (.newarray .int, 2) := by decide +kernel
theorem dX11_init_191 : decode cX11_init 191 = .ok (.putfield 57, 3) := by decide +kernel
theorem dX11_init_194 : decode cX11_init 194 = .ok (.aload_n 0, 1) := by decide +kernel
theorem dX11_init_195 : decode cX11_init 195 = .ok (.bipush 32, 2) := by decide +kernel
theorem dX11_init_197 : decode cX11_init 197 = .ok (.newarray .int, 2) := by decide +kernel
theorem dX11_init_199 : decode cX11_init 199 = .ok (.putfield 60, 3) := by decide +kernel
theorem dX11_init_202 : decode cX11_init 202 = .ok (.aload_n 0, 1) := by decide +kernel
theorem dX11_init_203 : decode cX11_init 203 = .ok (.bipush 32, 2) := by decide +kernel
theorem dX11_init_205 : decode cX11_init 205 = .ok (.newarray .int, 2) := by decide +kernel
theorem dX11_init_207 : decode cX11_init 207 = .ok (.putfield 63, 3) := by decide +kernel
theorem dX11_init_210 : decode cX11_init 210 = .ok (.aload_n 0, 1) := by decide +kernel
theorem dX11_init_211 : decode cX11_init 211 = .ok (.bipush 32, 2) := by decide +kernel
theorem dX11_init_213 : decode cX11_init 213 = .ok (.newarray .int, 2) := by decide +kernel
theorem dX11_init_215 : decode cX11_init 215 = .ok (.putfield 66, 3) := by decide +kernel
theorem dX11_init_218 : decode cX11_init 218 = .ok (.aload_n 0, 1) := by decide +kernel
theorem dX11_init_219 : decode cX11_init 219 = .ok (.sipush 512, 3) := by decide +kernel
theorem dX11_init_222 : decode cX11_init 222 = .ok (.newarray .int, 2) := by decide +kernel
theorem dX11_init_224 : decode cX11_init 224 = .ok (.putfield 69, 3) := by decide +kernel
theorem dX11_init_227 : decode cX11_init 227 = .ok (.aload_n 0, 1) := by decide +kernel
theorem dX11_init_228 : decode cX11_init 228 = .ok (.bipush 32, 2) := by decide +kernel
theorem dX11_init_230 : decode cX11_init 230 = .ok (.newarray .int, 2) := by decide +kernel
theorem dX11_init_232 : decode cX11_init 232 = .ok (.putfield 72, 3) := by decide +kernel
theorem dX11_init_235 : decode cX11_init 235 = .ok (.aload_n 0, 1) := by decide +kernel
theorem dX11_init_236 : decode cX11_init 236 = .ok (.bipush 32, 2) := by decide +kernel
theorem dX11_init_238 : decode cX11_init 238 = .ok (.newarray .int, 2) := by decide +kernel
theorem dX11_init_240 : decode cX11_init 240 = .ok (.putfield 75, 3) := by decide +kernel
theorem dX11_init_243 : decode cX11_init 243 = .ok (.aload_n 0, 1) := by decide +kernel
theorem dX11_init_244 : decode cX11_init 244 = .ok (.sipush 2048, 3) := by decide +kernel
theorem dX11_init_247 : decode cX11_init 247 = .ok (.newarray .long, 2) := by decide +kernel
theorem dX11_init_249 : decode cX11_init 249 = .ok (.putfield 78, 3) := by decide +kernel
theorem dX11_init_252 : decode cX11_init 252 = .ok (.aload_n 0, 1) := by decide +kernel
theorem dX11_init_253 : decode cX11_init 253 = .ok (.ldc 82, 2) := by decide +kernel
theorem dX11_init_255 : decode cX11_init 255 = .ok (.newarray .int, 2) := by decide +kernel
theorem dX11_init_257 : decode cX11_init 257 = .ok (.putfield 83, 3) := by decide +kernel
theorem dX11_init_260 : decode cX11_init 260 = .ok (.aload_n 0, 1) := by decide +kernel
theorem dX11_init_261 : decode cX11_init 261 = .ok (.sipush 400, 3) := by decide +kernel
theorem dX11_init_264 : decode cX11_init 264 = .ok (.newarray .long, 2) := by decide +kernel
theorem dX11_init_266 : decode cX11_init 266 = .ok (.putfield 86, 3) := by decide +kernel
theorem dX11_init_269 : decode cX11_init 269 = .ok (.aload_n 0, 1) := by decide +kernel
theorem dX11_init_270 : decode cX11_init 270 = .ok (.bipush 20, 2) := by decide +kernel
theorem dX11_init_272 : decode cX11_init 272 = .ok (.newarray .long, 2) := by decide +kernel
theorem dX11_init_274 : decode cX11_init 274 = .ok (.putfield 89, 3) := by decide +kernel
theorem dX11_init_277 : decode cX11_init 277 = .ok (.aload_n 0, 1) := by decide +kernel
theorem dX11_init_278 : decode cX11_init 278 = .ok (.bipush 20, 2) := by decide +kernel
theorem dX11_init_280 : decode cX11_init 280 = .ok (.newarray .int, 2) := by decide +kernel
theorem dX11_init_282 : decode cX11_init 282 = .ok (.putfield 92, 3) := by decide +kernel
theorem dX11_init_285 : decode cX11_init 285 = .ok (.aload_n 0, 1) := by decide +kernel
theorem dX11_init_286 : decode cX11_init 286 = .ok (.bipush 20, 2) := by decide +kernel
theorem dX11_init_288 : decode cX11_init 288 = .ok (.newarray .int, 2) := by decide +kernel
theorem dX11_init_290 : decode cX11_init 290 = .ok (.putfield 95, 3) := by decide +kernel
theorem dX11_init_293 : decode cX11_init 293 = .ok (.aload_n 0, 1) := by decide +kernel
theorem dX11_init_294 : decode cX11_init 294 = .ok (.bipush 20, 2) := by decide +kernel
theorem dX11_init_296 : decode cX11_init 296 = .ok (.newarray .boolean, 2) := by decide +kernel
theorem dX11_init_298 : decode cX11_init 298 = .ok (.putfield 98, 3) := by decide +kernel
theorem dX11_init_301 : decode cX11_init 301 = .ok (.aload_n 0, 1) := by decide +kernel
theorem dX11_init_302 : decode cX11_init 302 = .ok (.bipush 40, 2) := by decide +kernel
theorem dX11_init_304 : decode cX11_init 304 = .ok (.newarray .long, 2) := by decide +kernel
theorem dX11_init_306 : decode cX11_init 306 = .ok (.putfield 101, 3) := by decide +kernel
theorem dX11_init_309 : decode cX11_init 309 = .ok (.aload_n 0, 1) := by decide +kernel
theorem dX11_init_310 : decode cX11_init 310 = .ok (.bipush 14, 2) := by decide +kernel
theorem dX11_init_312 : decode cX11_init 312 = .ok (.newarray .long, 2) := by decide +kernel
theorem dX11_init_314 : decode cX11_init 314 = .ok (.putfield 104, 3) := by decide +kernel
theorem dX11_init_317 : decode cX11_init 317 = .ok (.aload_n 0, 1) := by decide +kernel
theorem dX11_init_318 : decode cX11_init 318 = .ok (.sipush 308, 3) := by decide +kernel
theorem dX11_init_321 : decode cX11_init 321 = .ok (.newarray .long, 2) := by decide +kernel
theorem dX11_init_323 : decode cX11_init 323 = .ok (.putfield 107, 3) := by decide +kernel
theorem dX11_init_326 : decode cX11_init 326 = .ok (.aload_n 0, 1) := by decide +kernel
theorem dX11_init_327 : decode cX11_init 327 = .ok (.sipush 420, 3) := by decide +kernel
theorem dX11_init_330 : decode cX11_init 330 = .ok (.newarray .long, 2) := by decide +kernel
theorem dX11_init_332 : decode cX11_init 332 = .ok (.putfield 110, 3) := by decide +kernel
theorem dX11_init_335 : decode cX11_init 335 = .ok (.aload_n 0, 1) := by decide +kernel
theorem dX11_init_336 : decode cX11_init 336 = .ok (.sipush 216, 3) := by decide +kernel
theorem dX11_init_339 : decode cX11_init 339 = .ok (.newarray .long, 2) := by decide +kernel
theorem dX11_init_341 : decode cX11_init 341 = .ok (.putfield 113, 3) := by decide +kernel
theorem dX11_init_344 : decode cX11_init 344 = .ok (.aload_n 0, 1) := by decide +kernel
theorem dX11_init_345 : decode cX11_init 345 = .ok (.bipush 14, 2) := by decide +kernel
theorem dX11_init_347 : decode cX11_init 347 = .ok (.newarray .long, 2) := by decide +kernel
theorem dX11_init_349 : decode cX11_init 349 = .ok (.putfield 116, 3) := by decide +kernel
theorem dX11_init_352 : decode cX11_init 352 = .ok (.aload_n 0, 1) := by decide +kernel
theorem dX11_init_353 : decode cX11_init 353 = .ok (.sipush 400, 3) := by decide +kernel
theorem dX11_init_356 : decode cX11_init 356 = .ok (.newarray .byte, 2) := by decide +kernel
theorem dX11_init_358 : decode cX11_init 358 = .ok (.putfield 119, 3) := by decide +kernel
theorem dX11_init_361 : decode cX11_init 361 = .ok (.aload_n 0, 1) := by decide +kernel
theorem dX11_init_362 : decode cX11_init 362 = .ok (.sipush 192, 3) := by decide +kernel
theorem dX11_init_365 : decode cX11_init 365 = .ok (.newarray .int, 2) := by decide +kernel
theorem dX11_init_367 : decode cX11_init 367 = .ok (.putfield 123, 3) := by decide +kernel
theorem dX11_init_370 : decode cX11_init 370 = .ok (.aload_n 0, 1) := by decide +kernel
theorem dX11_init_371 : decode cX11_init 371 = .ok (.bipush 32, 2) := by decide +kernel
theorem dX11_init_373 : decode cX11_init 373 = .ok (.newarray .int, 2) := by decide +kernel
theorem dX11_init_375 : decode cX11_init 375 = .ok (.putfield 126, 3) := by decide +kernel
theorem dX11_init_378 : decode cX11_init 378 = .ok (.aload_n 0, 1) := by decide +kernel
theorem dX11_init_379 : decode cX11_init 379 = .ok (.bipush 32, 2) := by decide +kernel
theorem dX11_init_381 : decode cX11_init 381 = .ok (.newarray .int, 2) := by decide +kernel
theorem dX11_init_383 : decode cX11_init 383 = .ok (.putfield 129, 3) := by decide +kernel
theorem dX11_init_386 : decode cX11_init 386 = .ok (.bipush 24, 2) := by decide +kernel
theorem dX11_init_388 : decode cX11_init 388 = .ok (.newarray .int, 2) := by decide +kernel
theorem dX11_init_390 : decode cX11_init 390 = .ok (.dup, 1) := by decide +kernel
theorem dX11_init_391 : decode cX11_init 391 = .ok (.iconst 0, 1) := by decide +kernel
theorem dX11_init_392 : decode cX11_init 392 = .ok (.iconst 1, 1) := by decide +kernel
theorem dX11_init_393 : decode cX11_init 393 = .ok (.iastore, 1) := by decide +kernel
theorem dX11_init_394 : decode cX11_init 394 = .ok (.dup, 1) := by decide +kernel
theorem dX11_init_395 : decode cX11_init 395 = .ok (.iconst 1, 1) := by decide +kernel
theorem dX11_init_396 : decode cX11_init 396 = .ok (.iconst 1, 1) := by decide +kernel
theorem dX11_init_397 : decode cX11_init 397 = .ok (.iastore, 1) := by decide +kernel
theorem dX11_init_398 : decode cX11_init 398 = .ok (.dup, 1) := by decide +kernel
theorem dX11_init_399 : decode cX11_init 399 = .ok (.iconst 2, 1) := by decide +kernel
theorem dX11_init_400 : decode cX11_init 400 = .ok (.bipush 16, 2) := by decide +kernel
theorem dX11_init_402 : decode cX11_init 402 = .ok (.iastore, 1) := by decide +kernel
theorem dX11_init_403 : decode cX11_init 403 = .ok (.dup, 1) := by decide +kernel
theorem dX11_init_404 : decode cX11_init 404 = .ok (.iconst 3, 1) := by decide +kernel
theorem dX11_init_405 : decode cX11_init 405 = .ok (.bipush 15, 2) := by decide +kernel
theorem dX11_init_407 : decode cX11_init 407 = .ok (.iastore, 1) := by decide +kernel
theorem dX11_init_408 : decode cX11_init 408 = .ok (.dup, 1) := by decide +kernel
theorem dX11_init_409 : decode cX11_init 409 = .ok (.iconst 4, 1) := by decide +kernel
theorem dX11_init_410 : decode cX11_init 410 = .ok (.bipush 9, 2) := by decide +kernel
theorem dX11_init_412 : decode cX11_init 412 = .ok (.iastore, 1) := by decide +kernel
theorem dX11_init_413 : decode cX11_init 413 = .ok (.dup, 1) := by decide +kernel
theorem dX11_init_414 : decode cX11_init 414 = .ok (.iconst 5, 1) := by decide +kernel
theorem dX11_init_415 : decode cX11_init 415 = .ok (.bipush 8, 2) := by decide +kernel
theorem dX11_init_417 : decode cX11_init 417 = .ok (.iastore, 1) := by decide +kernel
theorem dX11_init_418 : decode cX11_init 418 = .ok (.dup, 1) := by decide +kernel
theorem dX11_init_419 : decode cX11_init 419 = .ok (.bipush 6, 2) := by decide +kernel
theorem dX11_init_421 : decode cX11_init 421 = .ok (.bipush 6, 2) := by decide +kernel
theorem dX11_init_423 : decode cX11_init 423 = .ok (.iastore, 1) := by decide +kernel
theorem dX11_init_424 : decode cX11_init 424 = .ok (.dup, 1) := by decide +kernel
theorem dX11_init_425 : decode cX11_init 425 = .ok (.bipush 7, 2) := by decide +kernel
theorem dX11_init_427 : decode cX11_init 427 = .ok (.iconst 5, 1) := by decide +kernel
theorem dX11_init_428 : decode cX11_init 428 = .ok (.iastore, 1) := by decide +kernel
theorem dX11_init_429 : decode cX11_init 429 = .ok (.dup, 1) := by decide +kernel
theorem dX11_init_430 : decode cX11_init 430 = .ok (.bipush 8, 2) := by decide +kernel
theorem dX11_init_432 : decode cX11_init 432 = .ok (.iconst 5, 1) := by decide +kernel
theorem dX11_init_433 : decode cX11_init 433 = .ok (.iastore, 1) := by decide +kernel
theorem dX11_init_434 : decode cX11_init 434 = .ok (.dup, 1) := by decide +kernel
theorem dX11_init_435 : decode cX11_init 435 = .ok (.bipush 9, 2) := by decide +kernel
theorem dX11_init_437 : decode cX11_init 437 = .ok (.iconst 4, 1) := by decide +kernel
theorem dX11_init_438 : decode cX11_init 438 = .ok (.iastore, 1) := by decide +kernel
theorem dX11_init_439 : decode cX11_init 439 = .ok (.dup, 1) := by decide +kernel
theorem dX11_init_440 : decode cX11_init 440 = .ok (.bipush 10, 2) := by decide +kernel
theorem dX11_init_442 : decode cX11_init 442 = .ok (.iconst 4, 1) := by decide +kernel
theorem dX11_init_443 : decode cX11_init 443 = .ok (.iastore, 1) := by decide +kernel
theorem dX11_init_444 : decode cX11_init 444 = .ok (.dup, 1) := by decide +kernel
theorem dX11_init_445 : decode cX11_init 445 = .ok (.bipush 11, 2) := by decide +kernel
theorem dX11_init_447 : decode cX11_init 447 = .ok (.iconst 3, 1) := by decide +kernel
theorem dX11_init_448 : decode cX11_init 448 = .ok (.iastore, 1) := by decide +kernel
theorem dX11_init_449 : decode cX11_init 449 = .ok (.dup, 1) := by decide +kernel
theorem dX11_init_450 : decode cX11_init 450 = .ok (.bipush 12, 2) := by decide +kernel
theorem dX11_init_452 : decode cX11_init 452 = .ok (.bipush 45, 2) := by decide +kernel
theorem dX11_init_454 : decode cX11_init 454 = .ok (.iastore, 1) := by decide +kernel
theorem dX11_init_455 : decode cX11_init 455 = .ok (.dup, 1) := by decide +kernel
theorem dX11_init_456 : decode cX11_init 456 = .ok (.bipush 13, 2) := by decide +kernel
theorem dX11_init_458 : decode cX11_init 458 = .ok (.bipush 32, 2) := by decide +kernel
theorem dX11_init_460 : decode cX11_init 460 = .ok (.iastore, 1) := by decide +kernel
theorem dX11_init_461 : decode cX11_init 461 = .ok (.dup, 1) := by decide +kernel
theorem dX11_init_462 : decode cX11_init 462 = .ok (.bipush 14, 2) := by decide +kernel
theorem dX11_init_464 : decode cX11_init 464 = .ok (.iconst 3, 1) := by decide +kernel
theorem dX11_init_465 : decode cX11_init 465 = .ok (.iastore, 1) := by decide +kernel
theorem dX11_init_466 : decode cX11_init 466 = .ok (.dup, 1) := by decide +kernel
theorem dX11_init_467 : decode cX11_init 467 = .ok (.bipush 15, 2) := by decide +kernel
theorem dX11_init_469 : decode cX11_init 469 = .ok (.iconst 2, 1) := by decide +kernel
theorem dX11_init_470 : decode cX11_init 470 = .ok (.iastore, 1) := by decide +kernel
theorem dX11_init_471 : decode cX11_init 471 = .ok (.dup, 1) := by decide +kernel
theorem dX11_init_472 : decode cX11_init 472 = .ok (.bipush 16, 2) := by decide +kernel
theorem dX11_init_474 : decode cX11_init 474 = .ok (.bipush 8, 2) := by decide +kernel
theorem dX11_init_476 : decode cX11_init 476 = .ok (.iastore, 1) := by decide +kernel
theorem dX11_init_477 : decode cX11_init 477 = .ok (.dup, 1) := by decide +kernel
theorem dX11_init_478 : decode cX11_init 478 = .ok (.bipush 17, 2) := by decide +kernel
theorem dX11_init_480 : decode cX11_init 480 = .ok (.iconst 5, 1) := by decide +kernel
theorem dX11_init_481 : decode cX11_init 481 = .ok (.iastore, 1) := by decide +kernel
theorem dX11_init_482 : decode cX11_init 482 = .ok (.dup, 1) := by decide +kernel
theorem dX11_init_483 : decode cX11_init 483 = .ok (.bipush 18, 2) := by decide +kernel
theorem dX11_init_485 : decode cX11_init 485 = .ok (.iconst 5, 1) := by decide +kernel
theorem dX11_init_486 : decode cX11_init 486 = .ok (.iastore, 1) := by decide +kernel
theorem dX11_init_487 : decode cX11_init 487 = .ok (.dup, 1) := by decide +kernel
theorem dX11_init_488 : decode cX11_init 488 = .ok (.bipush 19, 2) := by decide +kernel
theorem dX11_init_490 : decode cX11_init 490 = .ok (.iconst 3, 1) := by decide +kernel
theorem dX11_init_491 : decode cX11_init 491 = .ok (.iastore, 1) := by decide +kernel
theorem dX11_init_492 : decode cX11_init 492 = .ok (.dup, 1) := by decide +kernel
theorem dX11_init_493 : decode cX11_init 493 = .ok (.bipush 20, 2) := by decide +kernel
theorem dX11_init_495 : decode cX11_init 495 = .ok (.bipush 9, 2) := by decide +kernel
theorem dX11_init_497 : decode cX11_init 497 = .ok (.iastore, 1) := by decide +kernel
theorem dX11_init_498 : decode cX11_init 498 = .ok (.dup, 1) := by decide +kernel
theorem dX11_init_499 : decode cX11_init 499 = .ok (.bipush 21, 2) := by decide +kernel
theorem dX11_init_501 : decode cX11_init 501 = .ok (.iconst 5, 1) := by decide +kernel
theorem dX11_init_502 : decode cX11_init 502 = .ok (.iastore, 1) := by decide +kernel
theorem dX11_init_503 : decode cX11_init 503 = .ok (.dup, 1) := by decide +kernel
theorem dX11_init_504 : decode cX11_init 504 = .ok (.bipush 22, 2) := by decide +kernel
theorem dX11_init_506 : decode cX11_init 506 = .ok (.bipush 15, 2) := by decide +kernel
theorem dX11_init_508 : decode cX11_init 508 = .ok (.iastore, 1) := by decide +kernel
theorem dX11_init_509 : decode cX11_init 509 = .ok (.dup, 1) := by decide +kernel
theorem dX11_init_510 : decode cX11_init 510 = .ok (.bipush 23, 2) := by decide +kernel
theorem dX11_init_512 : decode cX11_init 512 = .ok (.bipush 8, 2) := by decide +kernel
theorem dX11_init_514 : decode cX11_init 514 = .ok (.iastore, 1) := by decide +kernel
theorem dX11_init_515 : decode cX11_init 515 = .ok (.astore_n 1, 1) := by decide +kernel
theorem dX11_init_516 : decode cX11_init 516 = .ok (.iconst 0, 1) := by decide +kernel
theorem dX11_init_517 : decode cX11_init 517 = .ok (.istore_n 2, 1) := by decide +kernel
theorem dX11_init_518 : decode cX11_init 518 = .ok (.iload_n 2, 1) := by decide +kernel
theorem dX11_init_519 : decode cX11_init 519 = .ok (.bipush 12, 2) := by decide +kernel
theorem dX11_init_521 : decode cX11_init 521 = .ok (.if_icmp .ge 26, 3) := by decide +kernel
theorem dX11_init_524 : decode cX11_init 524 = .ok (.aload_n 0, 1) := by decide +kernel
theorem dX11_init_525 : decode cX11_init 525 = .ok (.iload_n 2, 1) := by decide +kernel
theorem dX11_init_526 : decode cX11_init 526 = .ok (.aload_n 1, 1) := by decide +kernel
theorem dX11_init_527 : decode cX11_init 527 = .ok (.iconst 2, 1) := by decide +kernel
theorem dX11_init_528 : decode cX11_init 528 = .ok (.iload_n 2, 1) := by decide +kernel
theorem dX11_init_529 : decode cX11_init 529 = .ok (.imul, 1) := by decide +kernel
theorem dX11_init_530 : decode cX11_init 530 = .ok (.iaload, 1) := by decide +kernel
theorem dX11_init_531 : decode cX11_init 531 = .ok (.aload_n 1, 1) := by decide +kernel
theorem dX11_init_532 : decode cX11_init 532 = .ok (.iconst 2, 1) := by decide +kernel
theorem dX11_init_533 : decode cX11_init 533 = .ok (.iload_n 2, 1) := by decide +kernel
theorem dX11_init_534 : decode cX11_init 534 = .ok (.imul, 1) := by decide +kernel
theorem dX11_init_535 : decode cX11_init 535 = .ok (.iconst 1, 1) := by decide +kernel
theorem dX11_init_536 : decode cX11_init 536 = .ok (.iadd, 1) := by decide +kernel
theorem dX11_init_537 : decode cX11_init 537 = .ok (.iaload, 1) := by decide +kernel
theorem dX11_init_538 : decode cX11_init 538 = .ok (.invokevirtual 132, 3) := by decide +kernel
theorem dX11_init_541 : decode cX11_init 541 = .ok (.iinc 2 1, 3) := by decide +kernel
theorem dX11_init_544 : decode cX11_init 544 = .ok (.goto (-26), 3) := by decide +kernel
theorem dX11_init_547 : decode cX11_init 547 = .ok (.aload_n 0, 1) := by decide +kernel
theorem dX11_init_548 : decode cX11_init 548 = .ok (.invokevirtual 136, 3) := by decide +kernel
theorem dX11_init_551 : decode cX11_init 551 = .ok (.return_, 1) := by decide +kernel
theorem dX11_put_0 : decode cX11_put 0 = .ok (.iconst 3, 1) := by decide +kernel
theorem dX11_put_1 : decode cX11_put 1 = .ok (.iload_n 1, 1) := by decide +kernel
theorem dX11_put_2 : decode cX11_put 2 = .ok (.imul, 1) := by decide +kernel
theorem dX11_put_3 : decode cX11_put 3 = .ok (.aload_n 0, 1) := by decide +kernel
theorem dX11_put_4 : decode cX11_put 4 = .ok (.getfield 23, 3) := by decide +kernel
theorem dX11_put_7 : decode cX11_put 7 = .ok (.iload_n 1, 1) := by decide +kernel
theorem dX11_put_8 : decode cX11_put 8 = .ok (.iaload, 1) := by decide +kernel
theorem dX11_put_9 : decode cX11_put 9 = .ok (.iadd, 1) := by decide +kernel
theorem dX11_put_10 : decode cX11_put 10 = .ok (.istore 4, 2) := by decide +kernel
theorem dX11_put_12 : decode cX11_put 12 = .ok (.aload_n 0, 1) := by decide +kernel
theorem dX11_put_13 : decode cX11_put 13 = .ok (.getfield 26, 3) := by decide +kernel
theorem dX11_put_16 : decode cX11_put 16 = .ok (.iload 4, 2) := by decide +kernel
theorem dX11_put_18 : decode cX11_put 18 = .ok (.iload_n 2, 1) := by decide +kernel
theorem dX11_put_19 : decode cX11_put 19 = .ok (.iastore, 1) := by decide +kernel
theorem dX11_put_20 : decode cX11_put 20 = .ok (.aload_n 0, 1) := by decide +kernel
theorem dX11_put_21 : decode cX11_put 21 = .ok (.getfield 29, 3) := by decide +kernel
theorem dX11_put_24 : decode cX11_put 24 = .ok (.iload 4, 2) := by decide +kernel
theorem dX11_put_26 : decode cX11_put 26 = .ok (.iload_n 3, 1) := by decide +kernel
theorem dX11_put_27 : decode cX11_put 27 = .ok (.iastore, 1) := by decide +kernel
theorem dX11_put_28 : decode cX11_put 28 = .ok (.iconst 0, 1) := by decide +kernel
theorem dX11_put_29 : decode cX11_put 29 = .ok (.istore 5, 2) := by decide +kernel
theorem dX11_put_31 : decode cX11_put 31 = .ok (.iload 5, 2) := by decide +kernel
theorem dX11_put_33 : decode cX11_put 33 = .ok (.bipush 6, 2) := by decide +kernel
theorem dX11_put_35 : decode cX11_put 35 = .ok (.if_icmp .ge 47, 3) := by decide +kernel
theorem dX11_put_38 : decode cX11_put 38 = .ok (.aload_n 0, 1) := by decide +kernel
theorem dX11_put_39 : decode cX11_put 39 = .ok (.getfield 32, 3) := by decide +kernel
theorem dX11_put_42 : decode cX11_put 42 = .ok (.bipush 6, 2) := by decide +kernel
theorem dX11_put_44 : decode cX11_put 44 = .ok (.iload 4, 2) := by decide +kernel
theorem dX11_put_46 : decode cX11_put 46 = .ok (.imul, 1) := by decide +kernel
theorem dX11_put_47 : decode cX11_put 47 = .ok (.iload 5, 2) := by decide +kernel
theorem dX11_put_49 : decode cX11_put 49 = .ok (.iadd, 1) := by decide +kernel
theorem dX11_put_50 : decode cX11_put 50 = .ok (.aload_n 0, 1) := by decide +kernel
theorem dX11_put_51 : decode cX11_put 51 = .ok (.iload_n 2, 1) := by decide +kernel
theorem dX11_put_52 : decode cX11_put 52 = .ok (.aload_n 0, 1) := by decide +kernel
theorem dX11_put_53 : decode cX11_put 53 = .ok (.getfield 35, 3) := by decide +kernel
theorem dX11_put_56 : decode cX11_put 56 = .ok (.iload 5, 2) := by decide +kernel
theorem dX11_put_58 : decode cX11_put 58 = .ok (.iaload, 1) := by decide +kernel
theorem dX11_put_59 : decode cX11_put 59 = .ok (.invokevirtual 139, 3) := by decide +kernel
theorem dX11_put_62 : decode cX11_put 62 = .ok (.aload_n 0, 1) := by decide +kernel
theorem dX11_put_63 : decode cX11_put 63 = .ok (.iload_n 3, 1) := by decide +kernel
theorem dX11_put_64 : decode cX11_put 64 = .ok (.aload_n 0, 1) := by decide +kernel
theorem dX11_put_65 : decode cX11_put 65 = .ok (.getfield 35, 3) := by decide +kernel
theorem dX11_put_68 : decode cX11_put 68 = .ok (.iload 5, 2) := by decide +kernel
theorem dX11_put_70 : decode cX11_put 70 = .ok (.iaload, 1) := by decide +kernel
theorem dX11_put_71 : decode cX11_put 71 = .ok (.invokevirtual 139, 3) := by decide +kernel
theorem dX11_put_74 : decode cX11_put 74 = .ok (.isub, 1) := by decide +kernel
theorem dX11_put_75 : decode cX11_put 75 = .ok (.iastore, 1) := by decide +kernel
theorem dX11_put_76 : decode cX11_put 76 = .ok (.iinc 5 1, 3) := by decide +kernel
theorem dX11_put_79 : decode cX11_put 79 = .ok (.goto (-48), 3) := by decide +kernel
theorem dX11_put_82 : decode cX11_put 82 = .ok (.aload_n 0, 1) := by decide +kernel
theorem dX11_put_83 : decode cX11_put 83 = .ok (.getfield 23, 3) := by decide +kernel
theorem dX11_put_86 : decode cX11_put 86 = .ok (.iload_n 1, 1) := by decide +kernel
theorem dX11_put_87 : decode cX11_put 87 = .ok (.dup2, 1) := by decide +kernel
theorem dX11_put_88 : decode cX11_put 88 = .ok (.iaload, 1) := by decide +kernel
theorem dX11_put_89 : decode cX11_put 89 = .ok (.iconst 1, 1) := by decide +kernel
theorem dX11_put_90 : decode cX11_put 90 = .ok (.iadd, 1) := by decide +kernel
theorem dX11_put_91 : decode cX11_put 91 = .ok (.iastore, 1) := by decide +kernel
theorem dX11_put_92 : decode cX11_put 92 = .ok (.return_, 1) := by decide +kernel
theorem dX11_powerOf_0 : decode cX11_powerOf 0 = .ok (.iconst 0, 1) := by decide +kernel
theorem dX11_powerOf_1 : decode cX11_powerOf 1 = .ok (.istore_n 3, 1) := by decide +kernel
theorem dX11_powerOf_2 : decode cX11_powerOf 2 = .ok (.iload_n 1, 1) := by decide +kernel
theorem dX11_powerOf_3 : decode cX11_powerOf 3 = .ok (.istore 4, 2) := by decide +kernel
theorem dX11_powerOf_5 : decode cX11_powerOf 5 = .ok (.iload 4, 2) := by decide +kernel
theorem dX11_powerOf_7 : decode cX11_powerOf 7 = .ok (.iload_n 2, 1) := by decide +kernel
theorem dX11_powerOf_8 : decode cX11_powerOf 8 = .ok (.irem, 1) := by decide +kernel
theorem dX11_powerOf_9 : decode cX11_powerOf 9 = .ok (.ifCond .ne 15, 3) := by decide +kernel
theorem dX11_powerOf_12 : decode cX11_powerOf 12 = .ok (.iload 4, 2) := by decide +kernel
theorem dX11_powerOf_14 : decode cX11_powerOf 14 = .ok (.iload_n 2, 1) := by decide +kernel
theorem dX11_powerOf_15 : decode cX11_powerOf 15 = .ok (.idiv, 1) := by decide +kernel
theorem dX11_powerOf_16 : decode cX11_powerOf 16 = .ok (.istore 4, 2) := by decide +kernel
theorem dX11_powerOf_18 : decode cX11_powerOf 18 = .ok (.iinc 3 1, 3) := by decide +kernel
theorem dX11_powerOf_21 : decode cX11_powerOf 21 = .ok (.goto (-16), 3) := by decide +kernel
theorem dX11_powerOf_24 : decode cX11_powerOf 24 = .ok (.iload_n 3, 1) := by decide +kernel
theorem dX11_powerOf_25 : decode cX11_powerOf 25 = .ok (.ireturn, 1) := by decide +kernel
theorem dX11_divide_0 : decode cX11_divide 0 = .ok (.aload_n 0, 1) := by decide +kernel
theorem dX11_divide_1 : decode cX11_divide 1 = .ok (.iconst 0, 1) := by decide +kernel
theorem dX11_divide_2 : decode cX11_divide 2 = .ok (.putfield 143, 3) := by decide +kernel
theorem dX11_divide_5 : decode cX11_divide 5 = .ok (.aload_n 0, 1) := by decide +kernel
theorem dX11_divide_6 : decode cX11_divide 6 = .ok (.iconst 0, 1) := by decide +kernel
theorem dX11_divide_7 : decode cX11_divide 7 = .ok (.putfield 147, 3) := by decide +kernel
theorem dX11_divide_10 : decode cX11_divide 10 = .ok (.iconst 0, 1) := by decide +kernel
theorem dX11_divide_11 : decode cX11_divide 11 = .ok (.istore_n 1, 1) := by decide +kernel
theorem dX11_divide_12 : decode cX11_divide 12 = .ok (.iconst 0, 1) := by decide +kernel
theorem dX11_divide_13 : decode cX11_divide 13 = .ok (.istore_n 2, 1) := by decide +kernel
theorem dX11_divide_14 : decode cX11_divide 14 = .ok (.iload_n 2, 1) := by decide +kernel
theorem dX11_divide_15 : decode cX11_divide 15 = .ok (.iconst 2, 1) := by decide +kernel
theorem dX11_divide_16 : decode cX11_divide 16 = .ok (.aload_n 0, 1) := by decide +kernel
theorem dX11_divide_17 : decode cX11_divide 17 = .ok (.getfield 150, 3) := by decide +kernel
theorem dX11_divide_20 : decode cX11_divide 20 = .ok (.imul, 1) := by decide +kernel
theorem dX11_divide_21 : decode cX11_divide 21 = .ok (.if_icmp .ge 121, 3) := by decide +kernel
theorem dX11_divide_24 : decode cX11_divide 24 = .ok (.iload_n 2, 1) := by decide +kernel
theorem dX11_divide_25 : decode cX11_divide 25 = .ok (.iconst 2, 1) := by decide +kernel
theorem dX11_divide_26 : decode cX11_divide 26 = .ok (.irem, 1) := by decide +kernel
theorem dX11_divide_27 : decode cX11_divide 27 = .ok (.ifCond .ne 14, 3) := by decide +kernel
theorem dX11_divide_30 : decode cX11_divide 30 = .ok (.aload_n 0, 1) := by decide +kernel
theorem dX11_divide_31 : decode cX11_divide 31 = .ok (.getfield 13, 3) := by decide +kernel
theorem dX11_divide_34 : decode cX11_divide 34 = .ok (.iload_n 2, 1) := by decide +kernel
theorem dX11_divide_35 : decode cX11_divide 35 = .ok (.iconst 2, 1) := by decide +kernel
theorem dX11_divide_36 : decode cX11_divide 36 = .ok (.idiv, 1) := by decide +kernel
theorem dX11_divide_37 : decode cX11_divide 37 = .ok (.iaload, 1) := by decide +kernel
theorem dX11_divide_38 : decode cX11_divide 38 = .ok (.goto 11, 3) := by decide +kernel
theorem dX11_divide_41 : decode cX11_divide 41 = .ok (.aload_n 0, 1) := by decide +kernel
theorem dX11_divide_42 : decode cX11_divide 42 = .ok (.getfield 16, 3) := by decide +kernel
theorem dX11_divide_45 : decode cX11_divide 45 = .ok (.iload_n 2, 1) := by decide +kernel
theorem dX11_divide_46 : decode cX11_divide 46 = .ok (.iconst 2, 1) := by decide +kernel
theorem dX11_divide_47 : decode cX11_divide 47 = .ok (.idiv, 1) := by decide +kernel
theorem dX11_divide_48 : decode cX11_divide 48 = .ok (.iaload, 1) := by decide +kernel
theorem dX11_divide_49 : decode cX11_divide 49 = .ok (.istore_n 3, 1) := by decide +kernel
theorem dX11_divide_50 : decode cX11_divide 50 = .ok (.iconst 0, 1) := by decide +kernel
theorem dX11_divide_51 : decode cX11_divide 51 = .ok (.istore 4, 2) := by decide +kernel
theorem dX11_divide_53 : decode cX11_divide 53 = .ok (.iload 4, 2) := by decide +kernel
theorem dX11_divide_55 : decode cX11_divide 55 = .ok (.iload_n 1, 1) := by decide +kernel
theorem dX11_divide_56 : decode cX11_divide 56 = .ok (.if_icmp .ge 20, 3) := by decide +kernel
theorem dX11_divide_59 : decode cX11_divide 59 = .ok (.aload_n 0, 1) := by decide +kernel
theorem dX11_divide_60 : decode cX11_divide 60 = .ok (.getfield 72, 3) := by decide +kernel
theorem dX11_divide_63 : decode cX11_divide 63 = .ok (.iload 4, 2) := by decide +kernel
theorem dX11_divide_65 : decode cX11_divide 65 = .ok (.iaload, 1) := by decide +kernel
theorem dX11_divide_66 : decode cX11_divide 66 = .ok (.iload_n 3, 1) := by decide +kernel
theorem dX11_divide_67 : decode cX11_divide 67 = .ok (.if_icmp .ge 9, 3) := by decide +kernel
theorem dX11_divide_70 : decode cX11_divide 70 = .ok (.iinc 4 1, 3) := by decide +kernel
theorem dX11_divide_73 : decode cX11_divide 73 = .ok (.goto (-20), 3) := by decide +kernel
theorem dX11_divide_76 : decode cX11_divide 76 = .ok (.iload 4, 2) := by decide +kernel
theorem dX11_divide_78 : decode cX11_divide 78 = .ok (.iload_n 1, 1) := by decide +kernel
theorem dX11_divide_79 : decode cX11_divide 79 = .ok (.if_icmp .eq 14, 3) := by decide +kernel
theorem dX11_divide_82 : decode cX11_divide 82 = .ok (.aload_n 0, 1) := by decide +kernel
theorem dX11_divide_83 : decode cX11_divide 83 = .ok (.getfield 72, 3) := by decide +kernel
theorem dX11_divide_86 : decode cX11_divide 86 = .ok (.iload 4, 2) := by decide +kernel
theorem dX11_divide_88 : decode cX11_divide 88 = .ok (.iaload, 1) := by decide +kernel
theorem dX11_divide_89 : decode cX11_divide 89 = .ok (.iload_n 3, 1) := by decide +kernel
theorem dX11_divide_90 : decode cX11_divide 90 = .ok (.if_icmp .eq 46, 3) := by decide +kernel
theorem dX11_divide_93 : decode cX11_divide 93 = .ok (.iload_n 1, 1) := by decide +kernel
theorem dX11_divide_94 : decode cX11_divide 94 = .ok (.istore 5, 2) := by decide +kernel
theorem dX11_divide_96 : decode cX11_divide 96 = .ok (.iload 5, 2) := by decide +kernel
theorem dX11_divide_98 : decode cX11_divide 98 = .ok (.iload 4, 2) := by decide +kernel
theorem dX11_divide_100 : decode cX11_divide 100 = .ok (.if_icmp .le 25, 3) := by decide +kernel
theorem dX11_divide_103 : decode cX11_divide 103 = .ok (.aload_n 0, 1) := by decide +kernel
theorem dX11_divide_104 : decode cX11_divide 104 = .ok (.getfield 72, 3) := by decide +kernel
theorem dX11_divide_107 : decode cX11_divide 107 = .ok (.iload 5, 2) := by decide +kernel
theorem dX11_divide_109 : decode cX11_divide 109 = .ok (.aload_n 0, 1) := by decide +kernel
theorem dX11_divide_110 : decode cX11_divide 110 = .ok (.getfield 72, 3) := by decide +kernel
theorem dX11_divide_113 : decode cX11_divide 113 = .ok (.iload 5, 2) := by decide +kernel
theorem dX11_divide_115 : decode cX11_divide 115 = .ok (.iconst 1, 1) := by decide +kernel
theorem dX11_divide_116 : decode cX11_divide 116 = .ok (.isub, 1) := by decide +kernel
theorem dX11_divide_117 : decode cX11_divide 117 = .ok (.iaload, 1) := by decide +kernel
theorem dX11_divide_118 : decode cX11_divide 118 = .ok (.iastore, 1) := by decide +kernel
theorem dX11_divide_119 : decode cX11_divide 119 = .ok (.iinc 5 (-1), 3) := by decide +kernel
theorem dX11_divide_122 : decode cX11_divide 122 = .ok (.goto (-26), 3) := by decide +kernel
theorem dX11_divide_125 : decode cX11_divide 125 = .ok (.aload_n 0, 1) := by decide +kernel
theorem dX11_divide_126 : decode cX11_divide 126 = .ok (.getfield 72, 3) := by decide +kernel
theorem dX11_divide_129 : decode cX11_divide 129 = .ok (.iload 4, 2) := by decide +kernel
theorem dX11_divide_131 : decode cX11_divide 131 = .ok (.iload_n 3, 1) := by decide +kernel
theorem dX11_divide_132 : decode cX11_divide 132 = .ok (.iastore, 1) := by decide +kernel
theorem dX11_divide_133 : decode cX11_divide 133 = .ok (.iinc 1 1, 3) := by decide +kernel
theorem dX11_divide_136 : decode cX11_divide 136 = .ok (.iinc 2 1, 3) := by decide +kernel
theorem dX11_divide_139 : decode cX11_divide 139 = .ok (.goto (-125), 3) := by decide +kernel
theorem dX11_divide_142 : decode cX11_divide 142 = .ok (.aload_n 0, 1) := by decide +kernel
theorem dX11_divide_143 : decode cX11_divide 143 = .ok (.iconst 0, 1) := by decide +kernel
theorem dX11_divide_144 : decode cX11_divide 144 = .ok (.putfield 154, 3) := by decide +kernel
theorem dX11_divide_147 : decode cX11_divide 147 = .ok (.iconst 0, 1) := by decide +kernel
theorem dX11_divide_148 : decode cX11_divide 148 = .ok (.istore_n 2, 1) := by decide +kernel
theorem dX11_divide_149 : decode cX11_divide 149 = .ok (.iload_n 2, 1) := by decide +kernel
theorem dX11_divide_150 : decode cX11_divide 150 = .ok (.iconst 1, 1) := by decide +kernel
theorem dX11_divide_151 : decode cX11_divide 151 = .ok (.iadd, 1) := by decide +kernel
theorem dX11_divide_152 : decode cX11_divide 152 = .ok (.iload_n 1, 1) := by decide +kernel
theorem dX11_divide_153 : decode cX11_divide 153 = .ok (.if_icmp .ge 189, 3) := by decide +kernel
theorem dX11_divide_156 : decode cX11_divide 156 = .ok (.iconst 0, 1) := by decide +kernel
theorem dX11_divide_157 : decode cX11_divide 157 = .ok (.istore_n 3, 1) := by decide +kernel
theorem dX11_divide_158 : decode cX11_divide 158 = .ok (.iconst 0, 1) := by decide +kernel
theorem dX11_divide_159 : decode cX11_divide 159 = .ok (.istore 4, 2) := by decide +kernel
theorem dX11_divide_161 : decode cX11_divide 161 = .ok (.bipush (-9), 2) := by decide +kernel
theorem dX11_divide_163 : decode cX11_divide 163 = .ok (.istore 5, 2) := by decide +kernel
theorem dX11_divide_165 : decode cX11_divide 165 = .ok (.iconst 0, 1) := by decide +kernel
theorem dX11_divide_166 : decode cX11_divide 166 = .ok (.istore 6, 2) := by decide +kernel
theorem dX11_divide_168 : decode cX11_divide 168 = .ok (.iload 6, 2) := by decide +kernel
theorem dX11_divide_170 : decode cX11_divide 170 = .ok (.aload_n 0, 1) := by decide +kernel
theorem dX11_divide_171 : decode cX11_divide 171 = .ok (.getfield 150, 3) := by decide +kernel
theorem dX11_divide_174 : decode cX11_divide 174 = .ok (.if_icmp .ge 84, 3) := by decide +kernel
theorem dX11_divide_177 : decode cX11_divide 177 = .ok (.aload_n 0, 1) := by decide +kernel
theorem dX11_divide_178 : decode cX11_divide 178 = .ok (.getfield 13, 3) := by decide +kernel
theorem dX11_divide_181 : decode cX11_divide 181 = .ok (.iload 6, 2) := by decide +kernel
theorem dX11_divide_183 : decode cX11_divide 183 = .ok (.iaload, 1) := by decide +kernel
theorem dX11_divide_184 : decode cX11_divide 184 = .ok (.aload_n 0, 1) := by decide +kernel
theorem dX11_divide_185 : decode cX11_divide 185 = .ok (.getfield 72, 3) := by decide +kernel
theorem dX11_divide_188 : decode cX11_divide 188 = .ok (.iload_n 2, 1) := by decide +kernel
theorem dX11_divide_189 : decode cX11_divide 189 = .ok (.iaload, 1) := by decide +kernel
theorem dX11_divide_190 : decode cX11_divide 190 = .ok (.if_icmp .gt 62, 3) := by decide +kernel
theorem dX11_divide_193 : decode cX11_divide 193 = .ok (.aload_n 0, 1) := by decide +kernel
theorem dX11_divide_194 : decode cX11_divide 194 = .ok (.getfield 16, 3) := by decide +kernel
theorem dX11_divide_197 : decode cX11_divide 197 = .ok (.iload 6, 2) := by decide +kernel
theorem dX11_divide_199 : decode cX11_divide 199 = .ok (.iaload, 1) := by decide +kernel
theorem dX11_divide_200 : decode cX11_divide 200 = .ok (.aload_n 0, 1) := by decide +kernel
theorem dX11_divide_201 : decode cX11_divide 201 = .ok (.getfield 72, 3) := by decide +kernel
theorem dX11_divide_204 : decode cX11_divide 204 = .ok (.iload_n 2, 1) := by decide +kernel
theorem dX11_divide_205 : decode cX11_divide 205 = .ok (.iaload, 1) := by decide +kernel
theorem dX11_divide_206 : decode cX11_divide 206 = .ok (.if_icmp .le 46, 3) := by decide +kernel
theorem dX11_divide_209 : decode cX11_divide 209 = .ok (.iload_n 3, 1) := by decide +kernel
theorem dX11_divide_210 : decode cX11_divide 210 = .ok (.iconst 1, 1) := by decide +kernel
theorem dX11_divide_211 : decode cX11_divide 211 = .ok (.iload 6, 2) := by decide +kernel
theorem dX11_divide_213 : decode cX11_divide 213 = .ok (.ishl, 1) := by decide +kernel
theorem dX11_divide_214 : decode cX11_divide 214 = .ok (.ior, 1) := by decide +kernel
theorem dX11_divide_215 : decode cX11_divide 215 = .ok (.istore_n 3, 1) := by decide +kernel
theorem dX11_divide_216 : decode cX11_divide 216 = .ok (.iinc 4 1, 3) := by decide +kernel
theorem dX11_divide_219 : decode cX11_divide 219 = .ok (.iload 5, 2) := by decide +kernel
theorem dX11_divide_221 : decode cX11_divide 221 = .ok (.bipush (-9), 2) := by decide +kernel
theorem dX11_divide_223 : decode cX11_divide 223 = .ok (.if_icmp .eq 20, 3) := by decide +kernel
theorem dX11_divide_226 : decode cX11_divide 226 = .ok (.aload_n 0, 1) := by decide +kernel
theorem dX11_divide_227 : decode cX11_divide 227 = .ok (.getfield 7, 3) := by decide +kernel
theorem dX11_divide_230 : decode cX11_divide 230 = .ok (.iload 6, 2) := by decide +kernel
theorem dX11_divide_232 : decode cX11_divide 232 = .ok (.iaload, 1) := by decide +kernel
theorem dX11_divide_233 : decode cX11_divide 233 = .ok (.aload_n 0, 1) := by decide +kernel
theorem dX11_divide_234 : decode cX11_divide 234 = .ok (.getfield 7, 3) := by decide +kernel
theorem dX11_divide_237 : decode cX11_divide 237 = .ok (.iload 5, 2) := by decide +kernel
theorem dX11_divide_239 : decode cX11_divide 239 = .ok (.iaload, 1) := by decide +kernel
theorem dX11_divide_240 : decode cX11_divide 240 = .ok (.if_icmp .ge 8, 3) := by decide +kernel
theorem dX11_divide_243 : decode cX11_divide 243 = .ok (.iload 6, 2) := by decide +kernel
theorem dX11_divide_245 : decode cX11_divide 245 = .ok (.goto 5, 3) := by decide +kernel
theorem dX11_divide_248 : decode cX11_divide 248 = .ok (.iload 5, 2) := by decide +kernel
theorem dX11_divide_250 : decode cX11_divide 250 = .ok (.istore 5, 2) := by decide +kernel
theorem dX11_divide_252 : decode cX11_divide 252 = .ok (.iinc 6 1, 3) := by decide +kernel
theorem dX11_divide_255 : decode cX11_divide 255 = .ok (.goto (-87), 3) := by decide +kernel
theorem dX11_divide_258 : decode cX11_divide 258 = .ok (.iload_n 3, 1) := by decide +kernel
theorem dX11_divide_259 : decode cX11_divide 259 = .ok (.ifCond .eq 77, 3) := by decide +kernel
theorem dX11_divide_262 : decode cX11_divide 262 = .ok (.aload_n 0, 1) := by decide +kernel
theorem dX11_divide_263 : decode cX11_divide 263 = .ok (.getfield 51, 3) := by decide +kernel
theorem dX11_divide_266 : decode cX11_divide 266 = .ok (.aload_n 0, 1) := by decide +kernel
theorem dX11_divide_267 : decode cX11_divide 267 = .ok (.getfield 154, 3) := by decide +kernel
theorem dX11_divide_270 : decode cX11_divide 270 = .ok (.aload_n 0, 1) := by decide +kernel
theorem dX11_divide_271 : decode cX11_divide 271 = .ok (.getfield 72, 3) := by decide +kernel
theorem dX11_divide_274 : decode cX11_divide 274 = .ok (.iload_n 2, 1) := by decide +kernel
theorem dX11_divide_275 : decode cX11_divide 275 = .ok (.iaload, 1) := by decide +kernel
theorem dX11_divide_276 : decode cX11_divide 276 = .ok (.iastore, 1) := by decide +kernel
theorem dX11_divide_277 : decode cX11_divide 277 = .ok (.aload_n 0, 1) := by decide +kernel
theorem dX11_divide_278 : decode cX11_divide 278 = .ok (.getfield 54, 3) := by decide +kernel
theorem dX11_divide_281 : decode cX11_divide 281 = .ok (.aload_n 0, 1) := by decide +kernel
theorem dX11_divide_282 : decode cX11_divide 282 = .ok (.getfield 154, 3) := by decide +kernel
theorem dX11_divide_285 : decode cX11_divide 285 = .ok (.aload_n 0, 1) := by decide +kernel
theorem dX11_divide_286 : decode cX11_divide 286 = .ok (.getfield 72, 3) := by decide +kernel
theorem dX11_divide_289 : decode cX11_divide 289 = .ok (.iload_n 2, 1) := by decide +kernel
theorem dX11_divide_290 : decode cX11_divide 290 = .ok (.iconst 1, 1) := by decide +kernel
theorem dX11_divide_291 : decode cX11_divide 291 = .ok (.iadd, 1) := by decide +kernel
theorem dX11_divide_292 : decode cX11_divide 292 = .ok (.iaload, 1) := by decide +kernel
theorem dX11_divide_293 : decode cX11_divide 293 = .ok (.iastore, 1) := by decide +kernel
theorem dX11_divide_294 : decode cX11_divide 294 = .ok (.aload_n 0, 1) := by decide +kernel
theorem dX11_divide_295 : decode cX11_divide 295 = .ok (.getfield 57, 3) := by decide +kernel
theorem dX11_divide_298 : decode cX11_divide 298 = .ok (.aload_n 0, 1) := by decide +kernel
theorem dX11_divide_299 : decode cX11_divide 299 = .ok (.getfield 154, 3) := by decide +kernel
theorem dX11_divide_302 : decode cX11_divide 302 = .ok (.iload_n 3, 1) := by decide +kernel
theorem dX11_divide_303 : decode cX11_divide 303 = .ok (.iastore, 1) := by decide +kernel
theorem dX11_divide_304 : decode cX11_divide 304 = .ok (.aload_n 0, 1) := by decide +kernel
theorem dX11_divide_305 : decode cX11_divide 305 = .ok (.getfield 63, 3) := by decide +kernel
theorem dX11_divide_308 : decode cX11_divide 308 = .ok (.aload_n 0, 1) := by decide +kernel
theorem dX11_divide_309 : decode cX11_divide 309 = .ok (.getfield 154, 3) := by decide +kernel
theorem dX11_divide_312 : decode cX11_divide 312 = .ok (.iload 4, 2) := by decide +kernel
theorem dX11_divide_314 : decode cX11_divide 314 = .ok (.iastore, 1) := by decide +kernel
theorem dX11_divide_315 : decode cX11_divide 315 = .ok (.aload_n 0, 1) := by decide +kernel
theorem dX11_divide_316 : decode cX11_divide 316 = .ok (.getfield 60, 3) := by decide +kernel
theorem dX11_divide_319 : decode cX11_divide 319 = .ok (.aload_n 0, 1) := by decide +kernel
theorem dX11_divide_320 : decode cX11_divide 320 = .ok (.getfield 154, 3) := by decide +kernel
theorem dX11_divide_323 : decode cX11_divide 323 = .ok (.iload 5, 2) := by decide +kernel
theorem dX11_divide_325 : decode cX11_divide 325 = .ok (.iastore, 1) := by decide +kernel
theorem dX11_divide_326 : decode cX11_divide 326 = .ok (.aload_n 0, 1) := by decide +kernel
theorem dX11_divide_327 : decode cX11_divide 327 = .ok (.dup, 1) := by decide +kernel
theorem dX11_divide_328 : decode cX11_divide 328 = .ok (.getfield 154, 3) := by decide +kernel
theorem dX11_divide_331 : decode cX11_divide 331 = .ok (.iconst 1, 1) := by decide +kernel
theorem dX11_divide_332 : decode cX11_divide 332 = .ok (.iadd, 1) := by decide +kernel
theorem dX11_divide_333 : decode cX11_divide 333 = .ok (.putfield 154, 3) := by decide +kernel
theorem dX11_divide_336 : decode cX11_divide 336 = .ok (.iinc 2 1, 3) := by decide +kernel
theorem dX11_divide_339 : decode cX11_divide 339 = .ok (.goto (-190), 3) := by decide +kernel
theorem dX11_divide_342 : decode cX11_divide 342 = .ok (.aload_n 0, 1) := by decide +kernel
theorem dX11_divide_343 : decode cX11_divide 343 = .ok (.invokevirtual 157, 3) := by decide +kernel
theorem dX11_divide_346 : decode cX11_divide 346 = .ok (.return_, 1) := by decide +kernel
theorem dX11_count_0 : decode cX11_count 0 = .ok (.aload_n 0, 1) := by decide +kernel
theorem dX11_count_1 : decode cX11_count 1 = .ok (.iconst 0, 1) := by decide +kernel
theorem dX11_count_2 : decode cX11_count 2 = .ok (.putfield 160, 3) := by decide +kernel
theorem dX11_count_5 : decode cX11_count 5 = .ok (.iconst 0, 1) := by decide +kernel
theorem dX11_count_6 : decode cX11_count 6 = .ok (.istore_n 1, 1) := by decide +kernel
theorem dX11_count_7 : decode cX11_count 7 = .ok (.iload_n 1, 1) := by decide +kernel
theorem dX11_count_8 : decode cX11_count 8 = .ok (.aload_n 0, 1) := by decide +kernel
theorem dX11_count_9 : decode cX11_count 9 = .ok (.getfield 154, 3) := by decide +kernel
theorem dX11_count_12 : decode cX11_count 12 = .ok (.if_icmp .ge 157, 3) := by decide +kernel
theorem dX11_count_15 : decode cX11_count 15 = .ok (.iconst 1, 1) := by decide +kernel
theorem dX11_count_16 : decode cX11_count 16 = .ok (.istore_n 2, 1) := by decide +kernel
theorem dX11_count_17 : decode cX11_count 17 = .ok (.iconst 0, 1) := by decide +kernel
theorem dX11_count_18 : decode cX11_count 18 = .ok (.istore_n 3, 1) := by decide +kernel
theorem dX11_count_19 : decode cX11_count 19 = .ok (.iload_n 3, 1) := by decide +kernel
theorem dX11_count_20 : decode cX11_count 20 = .ok (.aload_n 0, 1) := by decide +kernel
theorem dX11_count_21 : decode cX11_count 21 = .ok (.getfield 150, 3) := by decide +kernel
theorem dX11_count_24 : decode cX11_count 24 = .ok (.if_icmp .ge 132, 3) := by decide +kernel
theorem dX11_count_27 : decode cX11_count 27 = .ok (.aload_n 0, 1) := by decide +kernel
theorem dX11_count_28 : decode cX11_count 28 = .ok (.iload_n 1, 1) := by decide +kernel
theorem dX11_count_29 : decode cX11_count 29 = .ok (.iload_n 3, 1) := by decide +kernel
theorem dX11_count_30 : decode cX11_count 30 = .ok (.invokevirtual 163, 3) := by decide +kernel
theorem dX11_count_33 : decode cX11_count 33 = .ok (.ifCond .eq 117, 3) := by decide +kernel
theorem dX11_count_36 : decode cX11_count 36 = .ok (.iload_n 2, 1) := by decide +kernel
theorem dX11_count_37 : decode cX11_count 37 = .ok (.iload_n 3, 1) := by decide +kernel
theorem dX11_count_38 : decode cX11_count 38 = .ok (.aload_n 0, 1) := by decide +kernel
theorem dX11_count_39 : decode cX11_count 39 = .ok (.getfield 60, 3) := by decide +kernel
theorem dX11_count_42 : decode cX11_count 42 = .ok (.iload_n 1, 1) := by decide +kernel
theorem dX11_count_43 : decode cX11_count 43 = .ok (.iaload, 1) := by decide +kernel
theorem dX11_count_44 : decode cX11_count 44 = .ok (.if_icmp .ne 7, 3) := by decide +kernel
theorem dX11_count_47 : decode cX11_count 47 = .ok (.iconst 1, 1) := by decide +kernel
theorem dX11_count_48 : decode cX11_count 48 = .ok (.goto 14, 3) := by decide +kernel
theorem dX11_count_51 : decode cX11_count 51 = .ok (.aload_n 0, 1) := by decide +kernel
theorem dX11_count_52 : decode cX11_count 52 = .ok (.getfield 23, 3) := by decide +kernel
theorem dX11_count_55 : decode cX11_count 55 = .ok (.aload_n 0, 1) := by decide +kernel
theorem dX11_count_56 : decode cX11_count 56 = .ok (.iload_n 1, 1) := by decide +kernel
theorem dX11_count_57 : decode cX11_count 57 = .ok (.iload_n 3, 1) := by decide +kernel
theorem dX11_count_58 : decode cX11_count 58 = .ok (.invokevirtual 167, 3) := by decide +kernel
theorem dX11_count_61 : decode cX11_count 61 = .ok (.iaload, 1) := by decide +kernel
theorem dX11_count_62 : decode cX11_count 62 = .ok (.imul, 1) := by decide +kernel
theorem dX11_count_63 : decode cX11_count 63 = .ok (.istore_n 2, 1) := by decide +kernel
theorem dX11_count_64 : decode cX11_count 64 = .ok (.aload_n 0, 1) := by decide +kernel
theorem dX11_count_65 : decode cX11_count 65 = .ok (.getfield 19, 3) := by decide +kernel
theorem dX11_count_68 : decode cX11_count 68 = .ok (.iload_n 3, 1) := by decide +kernel
theorem dX11_count_69 : decode cX11_count 69 = .ok (.baload, 1) := by decide +kernel
theorem dX11_count_70 : decode cX11_count 70 = .ok (.ifCond .eq 22, 3) := by decide +kernel
theorem dX11_count_73 : decode cX11_count 73 = .ok (.iload_n 1, 1) := by decide +kernel
theorem dX11_count_74 : decode cX11_count 74 = .ok (.ifCond .le 18, 3) := by decide +kernel
theorem dX11_count_77 : decode cX11_count 77 = .ok (.aload_n 0, 1) := by decide +kernel
theorem dX11_count_78 : decode cX11_count 78 = .ok (.iload_n 1, 1) := by decide +kernel
theorem dX11_count_79 : decode cX11_count 79 = .ok (.iconst 1, 1) := by decide +kernel
theorem dX11_count_80 : decode cX11_count 80 = .ok (.isub, 1) := by decide +kernel
theorem dX11_count_81 : decode cX11_count 81 = .ok (.iload_n 3, 1) := by decide +kernel
theorem dX11_count_82 : decode cX11_count 82 = .ok (.invokevirtual 163, 3) := by decide +kernel
theorem dX11_count_85 : decode cX11_count 85 = .ok (.ifCond .eq 7, 3) := by decide +kernel
theorem dX11_count_88 : decode cX11_count 88 = .ok (.iconst 1, 1) := by decide +kernel
theorem dX11_count_89 : decode cX11_count 89 = .ok (.goto 4, 3) := by decide +kernel
theorem dX11_count_92 : decode cX11_count 92 = .ok (.iconst 0, 1) := by decide +kernel
theorem dX11_count_93 : decode cX11_count 93 = .ok (.istore 4, 2) := by decide +kernel
theorem dX11_count_95 : decode cX11_count 95 = .ok (.aload_n 0, 1) := by decide +kernel
theorem dX11_count_96 : decode cX11_count 96 = .ok (.getfield 69, 3) := by decide +kernel
theorem dX11_count_99 : decode cX11_count 99 = .ok (.bipush 16, 2) := by decide +kernel
theorem dX11_count_101 : decode cX11_count 101 = .ok (.iload_n 1, 1) := by decide +kernel
theorem dX11_count_102 : decode cX11_count 102 = .ok (.imul, 1) := by decide +kernel
theorem dX11_count_103 : decode cX11_count 103 = .ok (.iload_n 3, 1) := by decide +kernel
theorem dX11_count_104 : decode cX11_count 104 = .ok (.iadd, 1) := by decide +kernel
theorem dX11_count_105 : decode cX11_count 105 = .ok (.iload 4, 2) := by decide +kernel
theorem dX11_count_107 : decode cX11_count 107 = .ok (.ifCond .eq 19, 3) := by decide +kernel
theorem dX11_count_110 : decode cX11_count 110 = .ok (.aload_n 0, 1) := by decide +kernel
theorem dX11_count_111 : decode cX11_count 111 = .ok (.getfield 69, 3) := by decide +kernel
theorem dX11_count_114 : decode cX11_count 114 = .ok (.bipush 16, 2) := by decide +kernel
theorem dX11_count_116 : decode cX11_count 116 = .ok (.iload_n 1, 1) := by decide +kernel
theorem dX11_count_117 : decode cX11_count 117 = .ok (.iconst 1, 1) := by decide +kernel
theorem dX11_count_118 : decode cX11_count 118 = .ok (.isub, 1) := by decide +kernel
theorem dX11_count_119 : decode cX11_count 119 = .ok (.imul, 1) := by decide +kernel
theorem dX11_count_120 : decode cX11_count 120 = .ok (.iload_n 3, 1) := by decide +kernel
theorem dX11_count_121 : decode cX11_count 121 = .ok (.iadd, 1) := by decide +kernel
theorem dX11_count_122 : decode cX11_count 122 = .ok (.iaload, 1) := by decide +kernel
theorem dX11_count_123 : decode cX11_count 123 = .ok (.goto 7, 3) := by decide +kernel
theorem dX11_count_126 : decode cX11_count 126 = .ok (.aload_n 0, 1) := by decide +kernel
theorem dX11_count_127 : decode cX11_count 127 = .ok (.getfield 160, 3) := by decide +kernel
theorem dX11_count_130 : decode cX11_count 130 = .ok (.iastore, 1) := by decide +kernel
theorem dX11_count_131 : decode cX11_count 131 = .ok (.aload_n 0, 1) := by decide +kernel
theorem dX11_count_132 : decode cX11_count 132 = .ok (.dup, 1) := by decide +kernel
theorem dX11_count_133 : decode cX11_count 133 = .ok (.getfield 160, 3) := by decide +kernel
theorem dX11_count_136 : decode cX11_count 136 = .ok (.iload 4, 2) := by decide +kernel
theorem dX11_count_138 : decode cX11_count 138 = .ok (.ifCond .eq 7, 3) := by decide +kernel
theorem dX11_count_141 : decode cX11_count 141 = .ok (.iconst 0, 1) := by decide +kernel
theorem dX11_count_142 : decode cX11_count 142 = .ok (.goto 4, 3) := by decide +kernel
theorem dX11_count_145 : decode cX11_count 145 = .ok (.iconst 1, 1) := by decide +kernel
theorem dX11_count_146 : decode cX11_count 146 = .ok (.iadd, 1) := by decide +kernel
theorem dX11_count_147 : decode cX11_count 147 = .ok (.putfield 160, 3) := by decide +kernel
theorem dX11_count_150 : decode cX11_count 150 = .ok (.iinc 3 1, 3) := by decide +kernel
theorem dX11_count_153 : decode cX11_count 153 = .ok (.goto (-134), 3) := by decide +kernel
theorem dX11_count_156 : decode cX11_count 156 = .ok (.aload_n 0, 1) := by decide +kernel
theorem dX11_count_157 : decode cX11_count 157 = .ok (.getfield 66, 3) := by decide +kernel
theorem dX11_count_160 : decode cX11_count 160 = .ok (.iload_n 1, 1) := by decide +kernel
theorem dX11_count_161 : decode cX11_count 161 = .ok (.iload_n 2, 1) := by decide +kernel
theorem dX11_count_162 : decode cX11_count 162 = .ok (.iastore, 1) := by decide +kernel
theorem dX11_count_163 : decode cX11_count 163 = .ok (.iinc 1 1, 3) := by decide +kernel
theorem dX11_count_166 : decode cX11_count 166 = .ok (.goto (-159), 3) := by decide +kernel
theorem dX11_count_169 : decode cX11_count 169 = .ok (.return_, 1) := by decide +kernel
theorem dX11_sounds0_0 : decode cX11_sounds0 0 = .ok (.aload_n 0, 1) := by decide +kernel
theorem dX11_sounds0_1 : decode cX11_sounds0 1 = .ok (.getfield 57, 3) := by decide +kernel
theorem dX11_sounds0_4 : decode cX11_sounds0 4 = .ok (.iload_n 1, 1) := by decide +kernel
theorem dX11_sounds0_5 : decode cX11_sounds0 5 = .ok (.iaload, 1) := by decide +kernel
theorem dX11_sounds0_6 : decode cX11_sounds0 6 = .ok (.iload_n 2, 1) := by decide +kernel
theorem dX11_sounds0_7 : decode cX11_sounds0 7 = .ok (.ishr, 1) := by decide +kernel
theorem dX11_sounds0_8 : decode cX11_sounds0 8 = .ok (.iconst 1, 1) := by decide +kernel
theorem dX11_sounds0_9 : decode cX11_sounds0 9 = .ok (.iand, 1) := by decide +kernel
theorem dX11_sounds0_10 : decode cX11_sounds0 10 = .ok (.iconst 1, 1) := by decide +kernel
theorem dX11_sounds0_11 : decode cX11_sounds0 11 = .ok (.if_icmp .ne 7, 3) := by decide +kernel
theorem dX11_sounds0_14 : decode cX11_sounds0 14 = .ok (.iconst 1, 1) := by decide +kernel
theorem dX11_sounds0_15 : decode cX11_sounds0 15 = .ok (.goto 4, 3) := by decide +kernel
theorem dX11_sounds0_18 : decode cX11_sounds0 18 = .ok (.iconst 0, 1) := by decide +kernel
theorem dX11_sounds0_19 : decode cX11_sounds0 19 = .ok (.ireturn, 1) := by decide +kernel
theorem dX11_typeOf_0 : decode cX11_typeOf 0 = .ok (.aload_n 0, 1) := by decide +kernel
theorem dX11_typeOf_1 : decode cX11_typeOf 1 = .ok (.getfield 7, 3) := by decide +kernel
theorem dX11_typeOf_4 : decode cX11_typeOf 4 = .ok (.iload_n 2, 1) := by decide +kernel
theorem dX11_typeOf_5 : decode cX11_typeOf 5 = .ok (.iaload, 1) := by decide +kernel
theorem dX11_typeOf_6 : decode cX11_typeOf 6 = .ok (.aload_n 0, 1) := by decide +kernel
theorem dX11_typeOf_7 : decode cX11_typeOf 7 = .ok (.getfield 7, 3) := by decide +kernel
theorem dX11_typeOf_10 : decode cX11_typeOf 10 = .ok (.aload_n 0, 1) := by decide +kernel
theorem dX11_typeOf_11 : decode cX11_typeOf 11 = .ok (.getfield 60, 3) := by decide +kernel
theorem dX11_typeOf_14 : decode cX11_typeOf 14 = .ok (.iload_n 1, 1) := by decide +kernel
theorem dX11_typeOf_15 : decode cX11_typeOf 15 = .ok (.iaload, 1) := by decide +kernel
theorem dX11_typeOf_16 : decode cX11_typeOf 16 = .ok (.iaload, 1) := by decide +kernel
theorem dX11_typeOf_17 : decode cX11_typeOf 17 = .ok (.isub, 1) := by decide +kernel
theorem dX11_typeOf_18 : decode cX11_typeOf 18 = .ok (.bipush 12, 2) := by decide +kernel
theorem dX11_typeOf_20 : decode cX11_typeOf 20 = .ok (.irem, 1) := by decide +kernel
theorem dX11_typeOf_21 : decode cX11_typeOf 21 = .ok (.ireturn, 1) := by decide +kernel
theorem dX11_octavesOf_0 : decode cX11_octavesOf 0 = .ok (.aload_n 0, 1) := by decide +kernel
theorem dX11_octavesOf_1 : decode cX11_octavesOf 1 = .ok (.getfield 7, 3) := by decide +kernel
theorem dX11_octavesOf_4 : decode cX11_octavesOf 4 = .ok (.iload_n 2, 1) := by decide +kernel
theorem dX11_octavesOf_5 : decode cX11_octavesOf 5 = .ok (.iaload, 1) := by decide +kernel
theorem dX11_octavesOf_6 : decode cX11_octavesOf 6 = .ok (.aload_n 0, 1) := by decide +kernel
theorem dX11_octavesOf_7 : decode cX11_octavesOf 7 = .ok (.getfield 7, 3) := by decide +kernel
theorem dX11_octavesOf_10 : decode cX11_octavesOf 10 = .ok (.aload_n 0, 1) := by decide +kernel
theorem dX11_octavesOf_11 : decode cX11_octavesOf 11 = .ok (.getfield 60, 3) := by decide +kernel
theorem dX11_octavesOf_14 : decode cX11_octavesOf 14 = .ok (.iload_n 1, 1) := by decide +kernel
theorem dX11_octavesOf_15 : decode cX11_octavesOf 15 = .ok (.iaload, 1) := by decide +kernel
theorem dX11_octavesOf_16 : decode cX11_octavesOf 16 = .ok (.iaload, 1) := by decide +kernel
theorem dX11_octavesOf_17 : decode cX11_octavesOf 17 = .ok (.isub, 1) := by decide +kernel
theorem dX11_octavesOf_18 : decode cX11_octavesOf 18 = .ok (.bipush 12, 2) := by decide +kernel
theorem dX11_octavesOf_20 : decode cX11_octavesOf 20 = .ok (.idiv, 1) := by decide +kernel
theorem dX11_octavesOf_21 : decode cX11_octavesOf 21 = .ok (.ireturn, 1) := by decide +kernel
theorem dX11_ratioOf_0 : decode cX11_ratioOf 0 = .ok (.iload_n 3, 1) := by decide +kernel
theorem dX11_ratioOf_1 : decode cX11_ratioOf 1 = .ok (.aload_n 0, 1) := by decide +kernel
theorem dX11_ratioOf_2 : decode cX11_ratioOf 2 = .ok (.getfield 60, 3) := by decide +kernel
theorem dX11_ratioOf_5 : decode cX11_ratioOf 5 = .ok (.iload_n 1, 1) := by decide +kernel
theorem dX11_ratioOf_6 : decode cX11_ratioOf 6 = .ok (.iaload, 1) := by decide +kernel
theorem dX11_ratioOf_7 : decode cX11_ratioOf 7 = .ok (.if_icmp .ne 6, 3) := by decide +kernel
theorem dX11_ratioOf_10 : decode cX11_ratioOf 10 = .ok (.bipush (-9), 2) := by decide +kernel
theorem dX11_ratioOf_12 : decode cX11_ratioOf 12 = .ok (.ireturn, 1) := by decide +kernel
theorem dX11_ratioOf_13 : decode cX11_ratioOf 13 = .ok (.iload_n 2, 1) := by decide +kernel
theorem dX11_ratioOf_14 : decode cX11_ratioOf 14 = .ok (.istore 4, 2) := by decide +kernel
theorem dX11_ratioOf_16 : decode cX11_ratioOf 16 = .ok (.aload_n 0, 1) := by decide +kernel
theorem dX11_ratioOf_17 : decode cX11_ratioOf 17 = .ok (.getfield 150, 3) := by decide +kernel
theorem dX11_ratioOf_20 : decode cX11_ratioOf 20 = .ok (.iconst 1, 1) := by decide +kernel
theorem dX11_ratioOf_21 : decode cX11_ratioOf 21 = .ok (.isub, 1) := by decide +kernel
theorem dX11_ratioOf_22 : decode cX11_ratioOf 22 = .ok (.istore 5, 2) := by decide +kernel
theorem dX11_ratioOf_24 : decode cX11_ratioOf 24 = .ok (.iload 5, 2) := by decide +kernel
theorem dX11_ratioOf_26 : decode cX11_ratioOf 26 = .ok (.iload_n 3, 1) := by decide +kernel
theorem dX11_ratioOf_27 : decode cX11_ratioOf 27 = .ok (.if_icmp .le 52, 3) := by decide +kernel
theorem dX11_ratioOf_30 : decode cX11_ratioOf 30 = .ok (.aload_n 0, 1) := by decide +kernel
theorem dX11_ratioOf_31 : decode cX11_ratioOf 31 = .ok (.iload_n 1, 1) := by decide +kernel
theorem dX11_ratioOf_32 : decode cX11_ratioOf 32 = .ok (.iload 5, 2) := by decide +kernel
theorem dX11_ratioOf_34 : decode cX11_ratioOf 34 = .ok (.invokevirtual 163, 3) := by decide +kernel
theorem dX11_ratioOf_37 : decode cX11_ratioOf 37 = .ok (.ifCond .eq 32, 3) := by decide +kernel
theorem dX11_ratioOf_40 : decode cX11_ratioOf 40 = .ok (.iload 5, 2) := by decide +kernel
theorem dX11_ratioOf_42 : decode cX11_ratioOf 42 = .ok (.aload_n 0, 1) := by decide +kernel
theorem dX11_ratioOf_43 : decode cX11_ratioOf 43 = .ok (.getfield 60, 3) := by decide +kernel
theorem dX11_ratioOf_46 : decode cX11_ratioOf 46 = .ok (.iload_n 1, 1) := by decide +kernel
theorem dX11_ratioOf_47 : decode cX11_ratioOf 47 = .ok (.iaload, 1) := by decide +kernel
theorem dX11_ratioOf_48 : decode cX11_ratioOf 48 = .ok (.if_icmp .eq 21, 3) := by decide +kernel
theorem dX11_ratioOf_51 : decode cX11_ratioOf 51 = .ok (.iload 4, 2) := by decide +kernel
theorem dX11_ratioOf_53 : decode cX11_ratioOf 53 = .ok (.aload_n 0, 1) := by decide +kernel
theorem dX11_ratioOf_54 : decode cX11_ratioOf 54 = .ok (.getfield 23, 3) := by decide +kernel
theorem dX11_ratioOf_57 : decode cX11_ratioOf 57 = .ok (.aload_n 0, 1) := by decide +kernel
theorem dX11_ratioOf_58 : decode cX11_ratioOf 58 = .ok (.iload_n 1, 1) := by decide +kernel
theorem dX11_ratioOf_59 : decode cX11_ratioOf 59 = .ok (.iload 5, 2) := by decide +kernel
theorem dX11_ratioOf_61 : decode cX11_ratioOf 61 = .ok (.invokevirtual 167, 3) := by decide +kernel
theorem dX11_ratioOf_64 : decode cX11_ratioOf 64 = .ok (.iaload, 1) := by decide +kernel
theorem dX11_ratioOf_65 : decode cX11_ratioOf 65 = .ok (.idiv, 1) := by decide +kernel
theorem dX11_ratioOf_66 : decode cX11_ratioOf 66 = .ok (.goto 5, 3) := by decide +kernel
theorem dX11_ratioOf_69 : decode cX11_ratioOf 69 = .ok (.iload 4, 2) := by decide +kernel
theorem dX11_ratioOf_71 : decode cX11_ratioOf 71 = .ok (.istore 4, 2) := by decide +kernel
theorem dX11_ratioOf_73 : decode cX11_ratioOf 73 = .ok (.iinc 5 (-1), 3) := by decide +kernel
theorem dX11_ratioOf_76 : decode cX11_ratioOf 76 = .ok (.goto (-52), 3) := by decide +kernel
theorem dX11_ratioOf_79 : decode cX11_ratioOf 79 = .ok (.aload_n 0, 1) := by decide +kernel
theorem dX11_ratioOf_80 : decode cX11_ratioOf 80 = .ok (.iload_n 1, 1) := by decide +kernel
theorem dX11_ratioOf_81 : decode cX11_ratioOf 81 = .ok (.iload_n 3, 1) := by decide +kernel
theorem dX11_ratioOf_82 : decode cX11_ratioOf 82 = .ok (.invokevirtual 167, 3) := by decide +kernel
theorem dX11_ratioOf_85 : decode cX11_ratioOf 85 = .ok (.istore 5, 2) := by decide +kernel
theorem dX11_ratioOf_87 : decode cX11_ratioOf 87 = .ok (.iconst 3, 1) := by decide +kernel
theorem dX11_ratioOf_88 : decode cX11_ratioOf 88 = .ok (.iload 5, 2) := by decide +kernel
theorem dX11_ratioOf_90 : decode cX11_ratioOf 90 = .ok (.imul, 1) := by decide +kernel
theorem dX11_ratioOf_91 : decode cX11_ratioOf 91 = .ok (.iload 4, 2) := by decide +kernel
theorem dX11_ratioOf_93 : decode cX11_ratioOf 93 = .ok (.aload_n 0, 1) := by decide +kernel
theorem dX11_ratioOf_94 : decode cX11_ratioOf 94 = .ok (.getfield 23, 3) := by decide +kernel
theorem dX11_ratioOf_97 : decode cX11_ratioOf 97 = .ok (.iload 5, 2) := by decide +kernel
theorem dX11_ratioOf_99 : decode cX11_ratioOf 99 = .ok (.iaload, 1) := by decide +kernel
theorem dX11_ratioOf_100 : decode cX11_ratioOf 100 = .ok (.irem, 1) := by decide +kernel
theorem dX11_ratioOf_101 : decode cX11_ratioOf 101 = .ok (.iadd, 1) := by decide +kernel
theorem dX11_ratioOf_102 : decode cX11_ratioOf 102 = .ok (.ireturn, 1) := by decide +kernel
theorem dX11_power_0 : decode cX11_power 0 = .ok (.iload_n 1, 1) := by decide +kernel
theorem dX11_power_1 : decode cX11_power 1 = .ok (.bipush (-9), 2) := by decide +kernel
theorem dX11_power_3 : decode cX11_power 3 = .ok (.if_icmp .ne 7, 3) := by decide +kernel
theorem dX11_power_6 : decode cX11_power 6 = .ok (.iconst 0, 1) := by decide +kernel
theorem dX11_power_7 : decode cX11_power 7 = .ok (.goto 14, 3) := by decide +kernel
theorem dX11_power_10 : decode cX11_power 10 = .ok (.aload_n 0, 1) := by decide +kernel
theorem dX11_power_11 : decode cX11_power 11 = .ok (.getfield 32, 3) := by decide +kernel
theorem dX11_power_14 : decode cX11_power 14 = .ok (.bipush 6, 2) := by decide +kernel
theorem dX11_power_16 : decode cX11_power 16 = .ok (.iload_n 1, 1) := by decide +kernel
theorem dX11_power_17 : decode cX11_power 17 = .ok (.imul, 1) := by decide +kernel
theorem dX11_power_18 : decode cX11_power 18 = .ok (.iload_n 2, 1) := by decide +kernel
theorem dX11_power_19 : decode cX11_power 19 = .ok (.iadd, 1) := by decide +kernel
theorem dX11_power_20 : decode cX11_power 20 = .ok (.iaload, 1) := by decide +kernel
theorem dX11_power_21 : decode cX11_power 21 = .ok (.ireturn, 1) := by decide +kernel
theorem dX11_targetOf_0 : decode cX11_targetOf 0 = .ok (.aload_n 0, 1) := by decide +kernel
theorem dX11_targetOf_1 : decode cX11_targetOf 1 = .ok (.iload_n 1, 1) := by decide +kernel
theorem dX11_targetOf_2 : decode cX11_targetOf 2 = .ok (.iload_n 2, 1) := by decide +kernel
theorem dX11_targetOf_3 : decode cX11_targetOf 3 = .ok (.iload_n 3, 1) := by decide +kernel
theorem dX11_targetOf_4 : decode cX11_targetOf 4 = .ok (.invokevirtual 170, 3) := by decide +kernel
theorem dX11_targetOf_7 : decode cX11_targetOf 7 = .ok (.istore 4, 2) := by decide +kernel
theorem dX11_targetOf_9 : decode cX11_targetOf 9 = .ok (.ldc 38, 2) := by decide +kernel
theorem dX11_targetOf_11 : decode cX11_targetOf 11 = .ok (.aload_n 0, 1) := by decide +kernel
theorem dX11_targetOf_12 : decode cX11_targetOf 12 = .ok (.iload_n 1, 1) := by decide +kernel
theorem dX11_targetOf_13 : decode cX11_targetOf 13 = .ok (.iload_n 3, 1) := by decide +kernel
theorem dX11_targetOf_14 : decode cX11_targetOf 14 = .ok (.invokevirtual 174, 3) := by decide +kernel
theorem dX11_targetOf_17 : decode cX11_targetOf 17 = .ok (.imul, 1) := by decide +kernel
theorem dX11_targetOf_18 : decode cX11_targetOf 18 = .ok (.istore 5, 2) := by decide +kernel
theorem dX11_targetOf_20 : decode cX11_targetOf 20 = .ok (.iconst 0, 1) := by decide +kernel
theorem dX11_targetOf_21 : decode cX11_targetOf 21 = .ok (.istore 6, 2) := by decide +kernel
theorem dX11_targetOf_23 : decode cX11_targetOf 23 = .ok (.iload 6, 2) := by decide +kernel
theorem dX11_targetOf_25 : decode cX11_targetOf 25 = .ok (.bipush 6, 2) := by decide +kernel
theorem dX11_targetOf_27 : decode cX11_targetOf 27 = .ok (.if_icmp .ge 30, 3) := by decide +kernel
theorem dX11_targetOf_30 : decode cX11_targetOf 30 = .ok (.iload 5, 2) := by decide +kernel
theorem dX11_targetOf_32 : decode cX11_targetOf 32 = .ok (.aload_n 0, 1) := by decide +kernel
theorem dX11_targetOf_33 : decode cX11_targetOf 33 = .ok (.iload 4, 2) := by decide +kernel
theorem dX11_targetOf_35 : decode cX11_targetOf 35 = .ok (.iload 6, 2) := by decide +kernel
theorem dX11_targetOf_37 : decode cX11_targetOf 37 = .ok (.invokevirtual 177, 3) := by decide +kernel
theorem dX11_targetOf_40 : decode cX11_targetOf 40 = .ok (.aload_n 0, 1) := by decide +kernel
theorem dX11_targetOf_41 : decode cX11_targetOf 41 = .ok (.getfield 44, 3) := by decide +kernel
theorem dX11_targetOf_44 : decode cX11_targetOf 44 = .ok (.iload 6, 2) := by decide +kernel
theorem dX11_targetOf_46 : decode cX11_targetOf 46 = .ok (.iaload, 1) := by decide +kernel
theorem dX11_targetOf_47 : decode cX11_targetOf 47 = .ok (.imul, 1) := by decide +kernel
theorem dX11_targetOf_48 : decode cX11_targetOf 48 = .ok (.iadd, 1) := by decide +kernel
theorem dX11_targetOf_49 : decode cX11_targetOf 49 = .ok (.istore 5, 2) := by decide +kernel
theorem dX11_targetOf_51 : decode cX11_targetOf 51 = .ok (.iinc 6 1, 3) := by decide +kernel
theorem dX11_targetOf_54 : decode cX11_targetOf 54 = .ok (.goto (-31), 3) := by decide +kernel
theorem dX11_targetOf_57 : decode cX11_targetOf 57 = .ok (.iload 5, 2) := by decide +kernel
theorem dX11_targetOf_59 : decode cX11_targetOf 59 = .ok (.ireturn, 1) := by decide +kernel
theorem dX11_harshOf_0 : decode cX11_harshOf 0 = .ok (.iconst 0, 1) := by decide +kernel
theorem dX11_harshOf_1 : decode cX11_harshOf 1 = .ok (.istore_n 3, 1) := by decide +kernel
theorem dX11_harshOf_2 : decode cX11_harshOf 2 = .ok (.iconst 0, 1) := by decide +kernel
theorem dX11_harshOf_3 : decode cX11_harshOf 3 = .ok (.istore 4, 2) := by decide +kernel
theorem dX11_harshOf_5 : decode cX11_harshOf 5 = .ok (.iload 4, 2) := by decide +kernel
theorem dX11_harshOf_7 : decode cX11_harshOf 7 = .ok (.aload_n 0, 1) := by decide +kernel
theorem dX11_harshOf_8 : decode cX11_harshOf 8 = .ok (.getfield 150, 3) := by decide +kernel
theorem dX11_harshOf_11 : decode cX11_harshOf 11 = .ok (.if_icmp .ge 126, 3) := by decide +kernel
theorem dX11_harshOf_14 : decode cX11_harshOf 14 = .ok (.iconst 0, 1) := by decide +kernel
theorem dX11_harshOf_15 : decode cX11_harshOf 15 = .ok (.istore 5, 2) := by decide +kernel
theorem dX11_harshOf_17 : decode cX11_harshOf 17 = .ok (.iload 5, 2) := by decide +kernel
theorem dX11_harshOf_19 : decode cX11_harshOf 19 = .ok (.iload 4, 2) := by decide +kernel
theorem dX11_harshOf_21 : decode cX11_harshOf 21 = .ok (.if_icmp .ge 110, 3) := by decide +kernel
theorem dX11_harshOf_24 : decode cX11_harshOf 24 = .ok (.aload_n 0, 1) := by decide +kernel
theorem dX11_harshOf_25 : decode cX11_harshOf 25 = .ok (.iload_n 1, 1) := by decide +kernel
theorem dX11_harshOf_26 : decode cX11_harshOf 26 = .ok (.iload 4, 2) := by decide +kernel
theorem dX11_harshOf_28 : decode cX11_harshOf 28 = .ok (.invokevirtual 163, 3) := by decide +kernel
theorem dX11_harshOf_31 : decode cX11_harshOf 31 = .ok (.ifCond .eq 94, 3) := by decide +kernel
theorem dX11_harshOf_34 : decode cX11_harshOf 34 = .ok (.aload_n 0, 1) := by decide +kernel
theorem dX11_harshOf_35 : decode cX11_harshOf 35 = .ok (.iload_n 1, 1) := by decide +kernel
theorem dX11_harshOf_36 : decode cX11_harshOf 36 = .ok (.iload 5, 2) := by decide +kernel
theorem dX11_harshOf_38 : decode cX11_harshOf 38 = .ok (.invokevirtual 163, 3) := by decide +kernel
theorem dX11_harshOf_41 : decode cX11_harshOf 41 = .ok (.ifCond .eq 84, 3) := by decide +kernel
theorem dX11_harshOf_44 : decode cX11_harshOf 44 = .ok (.aload_n 0, 1) := by decide +kernel
theorem dX11_harshOf_45 : decode cX11_harshOf 45 = .ok (.iload_n 1, 1) := by decide +kernel
theorem dX11_harshOf_46 : decode cX11_harshOf 46 = .ok (.iload_n 2, 1) := by decide +kernel
theorem dX11_harshOf_47 : decode cX11_harshOf 47 = .ok (.iload 4, 2) := by decide +kernel
theorem dX11_harshOf_49 : decode cX11_harshOf 49 = .ok (.invokevirtual 170, 3) := by decide +kernel
theorem dX11_harshOf_52 : decode cX11_harshOf 52 = .ok (.istore 6, 2) := by decide +kernel
theorem dX11_harshOf_54 : decode cX11_harshOf 54 = .ok (.aload_n 0, 1) := by decide +kernel
theorem dX11_harshOf_55 : decode cX11_harshOf 55 = .ok (.iload_n 1, 1) := by decide +kernel
theorem dX11_harshOf_56 : decode cX11_harshOf 56 = .ok (.iload_n 2, 1) := by decide +kernel
theorem dX11_harshOf_57 : decode cX11_harshOf 57 = .ok (.iload 5, 2) := by decide +kernel
theorem dX11_harshOf_59 : decode cX11_harshOf 59 = .ok (.invokevirtual 170, 3) := by decide +kernel
theorem dX11_harshOf_62 : decode cX11_harshOf 62 = .ok (.istore 7, 2) := by decide +kernel
theorem dX11_harshOf_64 : decode cX11_harshOf 64 = .ok (.iconst 1, 1) := by decide +kernel
theorem dX11_harshOf_65 : decode cX11_harshOf 65 = .ok (.istore 8, 2) := by decide +kernel
theorem dX11_harshOf_67 : decode cX11_harshOf 67 = .ok (.iload 8, 2) := by decide +kernel
theorem dX11_harshOf_69 : decode cX11_harshOf 69 = .ok (.bipush 6, 2) := by decide +kernel
theorem dX11_harshOf_71 : decode cX11_harshOf 71 = .ok (.if_icmp .ge 54, 3) := by decide +kernel
theorem dX11_harshOf_74 : decode cX11_harshOf 74 = .ok (.aload_n 0, 1) := by decide +kernel
theorem dX11_harshOf_75 : decode cX11_harshOf 75 = .ok (.iload 6, 2) := by decide +kernel
theorem dX11_harshOf_77 : decode cX11_harshOf 77 = .ok (.iload 8, 2) := by decide +kernel
theorem dX11_harshOf_79 : decode cX11_harshOf 79 = .ok (.invokevirtual 177, 3) := by decide +kernel
theorem dX11_harshOf_82 : decode cX11_harshOf 82 = .ok (.aload_n 0, 1) := by decide +kernel
theorem dX11_harshOf_83 : decode cX11_harshOf 83 = .ok (.iload 7, 2) := by decide +kernel
theorem dX11_harshOf_85 : decode cX11_harshOf 85 = .ok (.iload 8, 2) := by decide +kernel
theorem dX11_harshOf_87 : decode cX11_harshOf 87 = .ok (.invokevirtual 177, 3) := by decide +kernel
theorem dX11_harshOf_90 : decode cX11_harshOf 90 = .ok (.isub, 1) := by decide +kernel
theorem dX11_harshOf_91 : decode cX11_harshOf 91 = .ok (.istore 9, 2) := by decide +kernel
theorem dX11_harshOf_93 : decode cX11_harshOf 93 = .ok (.iload_n 3, 1) := by decide +kernel
theorem dX11_harshOf_94 : decode cX11_harshOf 94 = .ok (.iload 9, 2) := by decide +kernel
theorem dX11_harshOf_96 : decode cX11_harshOf 96 = .ok (.ifCond .ge 9, 3) := by decide +kernel
theorem dX11_harshOf_99 : decode cX11_harshOf 99 = .ok (.iload 9, 2) := by decide +kernel
theorem dX11_harshOf_101 : decode cX11_harshOf 101 = .ok (.ineg, 1) := by decide +kernel
theorem dX11_harshOf_102 : decode cX11_harshOf 102 = .ok (.goto 5, 3) := by decide +kernel
theorem dX11_harshOf_105 : decode cX11_harshOf 105 = .ok (.iload 9, 2) := by decide +kernel
theorem dX11_harshOf_107 : decode cX11_harshOf 107 = .ok (.aload_n 0, 1) := by decide +kernel
theorem dX11_harshOf_108 : decode cX11_harshOf 108 = .ok (.getfield 35, 3) := by decide +kernel
theorem dX11_harshOf_111 : decode cX11_harshOf 111 = .ok (.iload 8, 2) := by decide +kernel
theorem dX11_harshOf_113 : decode cX11_harshOf 113 = .ok (.iaload, 1) := by decide +kernel
theorem dX11_harshOf_114 : decode cX11_harshOf 114 = .ok (.iconst 1, 1) := by decide +kernel
theorem dX11_harshOf_115 : decode cX11_harshOf 115 = .ok (.isub, 1) := by decide +kernel
theorem dX11_harshOf_116 : decode cX11_harshOf 116 = .ok (.imul, 1) := by decide +kernel
theorem dX11_harshOf_117 : decode cX11_harshOf 117 = .ok (.iadd, 1) := by decide +kernel
theorem dX11_harshOf_118 : decode cX11_harshOf 118 = .ok (.istore_n 3, 1) := by decide +kernel
theorem dX11_harshOf_119 : decode cX11_harshOf 119 = .ok (.iinc 8 1, 3) := by decide +kernel
theorem dX11_harshOf_122 : decode cX11_harshOf 122 = .ok (.goto (-55), 3) := by decide +kernel
theorem dX11_harshOf_125 : decode cX11_harshOf 125 = .ok (.iinc 5 1, 3) := by decide +kernel
theorem dX11_harshOf_128 : decode cX11_harshOf 128 = .ok (.goto (-111), 3) := by decide +kernel
theorem dX11_harshOf_131 : decode cX11_harshOf 131 = .ok (.iinc 4 1, 3) := by decide +kernel
theorem dX11_harshOf_134 : decode cX11_harshOf 134 = .ok (.goto (-129), 3) := by decide +kernel
theorem dX11_harshOf_137 : decode cX11_harshOf 137 = .ok (.iload_n 3, 1) := by decide +kernel
theorem dX11_harshOf_138 : decode cX11_harshOf 138 = .ok (.ireturn, 1) := by decide +kernel
theorem dX11_isIn_0 : decode cX11_isIn 0 = .ok (.iload_n 1, 1) := by decide +kernel
theorem dX11_isIn_1 : decode cX11_isIn 1 = .ok (.iload_n 2, 1) := by decide +kernel
theorem dX11_isIn_2 : decode cX11_isIn 2 = .ok (.if_icmp .lt 12, 3) := by decide +kernel
theorem dX11_isIn_5 : decode cX11_isIn 5 = .ok (.iload_n 1, 1) := by decide +kernel
theorem dX11_isIn_6 : decode cX11_isIn 6 = .ok (.iload_n 3, 1) := by decide +kernel
theorem dX11_isIn_7 : decode cX11_isIn 7 = .ok (.if_icmp .gt 7, 3) := by decide +kernel
theorem dX11_isIn_10 : decode cX11_isIn 10 = .ok (.iconst 1, 1) := by decide +kernel
theorem dX11_isIn_11 : decode cX11_isIn 11 = .ok (.goto 4, 3) := by decide +kernel
theorem dX11_isIn_14 : decode cX11_isIn 14 = .ok (.iconst 0, 1) := by decide +kernel
theorem dX11_isIn_15 : decode cX11_isIn 15 = .ok (.ireturn, 1) := by decide +kernel
theorem dX11_isNote_0 : decode cX11_isNote 0 = .ok (.aload_n 0, 1) := by decide +kernel
theorem dX11_isNote_1 : decode cX11_isNote 1 = .ok (.iload_n 1, 1) := by decide +kernel
theorem dX11_isNote_2 : decode cX11_isNote 2 = .ok (.iconst 0, 1) := by decide +kernel
theorem dX11_isNote_3 : decode cX11_isNote 3 = .ok (.aload_n 0, 1) := by decide +kernel
theorem dX11_isNote_4 : decode cX11_isNote 4 = .ok (.getfield 150, 3) := by decide +kernel
theorem dX11_isNote_7 : decode cX11_isNote 7 = .ok (.iconst 1, 1) := by decide +kernel
theorem dX11_isNote_8 : decode cX11_isNote 8 = .ok (.isub, 1) := by decide +kernel
theorem dX11_isNote_9 : decode cX11_isNote 9 = .ok (.invokevirtual 180, 3) := by decide +kernel
theorem dX11_isNote_12 : decode cX11_isNote 12 = .ok (.ireturn, 1) := by decide +kernel
theorem dX11_isSet_0 : decode cX11_isSet 0 = .ok (.aload_n 0, 1) := by decide +kernel
theorem dX11_isSet_1 : decode cX11_isSet 1 = .ok (.iload_n 1, 1) := by decide +kernel
theorem dX11_isSet_2 : decode cX11_isSet 2 = .ok (.iconst 0, 1) := by decide +kernel
theorem dX11_isSet_3 : decode cX11_isSet 3 = .ok (.aload_n 0, 1) := by decide +kernel
theorem dX11_isSet_4 : decode cX11_isSet 4 = .ok (.getfield 154, 3) := by decide +kernel
theorem dX11_isSet_7 : decode cX11_isSet 7 = .ok (.iconst 1, 1) := by decide +kernel
theorem dX11_isSet_8 : decode cX11_isSet 8 = .ok (.isub, 1) := by decide +kernel
theorem dX11_isSet_9 : decode cX11_isSet 9 = .ok (.invokevirtual 180, 3) := by decide +kernel
theorem dX11_isSet_12 : decode cX11_isSet 12 = .ok (.ireturn, 1) := by decide +kernel
theorem dX11_isSounding_0 : decode cX11_isSounding 0 = .ok (.aload_n 0, 1) := by decide +kernel
theorem dX11_isSounding_1 : decode cX11_isSounding 1 = .ok (.iload_n 1, 1) := by decide +kernel
theorem dX11_isSounding_2 : decode cX11_isSounding 2 = .ok (.invokevirtual 184, 3) := by decide +kernel
theorem dX11_isSounding_5 : decode cX11_isSounding 5 = .ok (.ifCond .eq 24, 3) := by decide +kernel
theorem dX11_isSounding_8 : decode cX11_isSounding 8 = .ok (.aload_n 0, 1) := by decide +kernel
theorem dX11_isSounding_9 : decode cX11_isSounding 9 = .ok (.iload_n 2, 1) := by decide +kernel
theorem dX11_isSounding_10 : decode cX11_isSounding 10 = .ok (.invokevirtual 188, 3) := by decide +kernel
theorem dX11_isSounding_13 : decode cX11_isSounding 13 = .ok (.ifCond .eq 16, 3) := by decide +kernel
theorem dX11_isSounding_16 : decode cX11_isSounding 16 = .ok (.aload_n 0, 1) := by decide +kernel
theorem dX11_isSounding_17 : decode cX11_isSounding 17 = .ok (.iload_n 1, 1) := by decide +kernel
theorem dX11_isSounding_18 : decode cX11_isSounding 18 = .ok (.iload_n 2, 1) := by decide +kernel
theorem dX11_isSounding_19 : decode cX11_isSounding 19 = .ok (.invokevirtual 163, 3) := by decide +kernel
theorem dX11_isSounding_22 : decode cX11_isSounding 22 = .ok (.ifCond .eq 7, 3) := by decide +kernel
theorem dX11_isSounding_25 : decode cX11_isSounding 25 = .ok (.iconst 1, 1) := by decide +kernel
theorem dX11_isSounding_26 : decode cX11_isSounding 26 = .ok (.goto 4, 3) := by decide +kernel
theorem dX11_isSounding_29 : decode cX11_isSounding 29 = .ok (.iconst 0, 1) := by decide +kernel
theorem dX11_isSounding_30 : decode cX11_isSounding 30 = .ok (.ireturn, 1) := by decide +kernel
