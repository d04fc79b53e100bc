theorem dX11_build_0 : decode cX11_build 0 = .ok (.aload_n 0, 1) := by decide +kernel
theorem dX11_build_1 : decode cX11_build 1 = .ok (.lconst 0, 1) := by decide +kernel
theorem dX11_build_2 : decode cX11_build 2 = .ok (.putfield 209, 3) := by decide +kernel
theorem dX11_build_5 : decode cX11_build 5 = .ok (.iconst 0, 1) := by decide +kernel
theorem dX11_build_6 : decode cX11_build 6 = .ok (.istore_n 1, 1) := by decide +kernel
theorem dX11_build_7 : decode cX11_build 7 = .ok (.iload_n 1, 1) := by decide +kernel
theorem dX11_build_8 : decode cX11_build 8 = .ok (.sipush 400, 3) := by decide +kernel
theorem dX11_build_11 : decode cX11_build 11 = .ok (.if_icmp .ge 16, 3) := by decide +kernel
theorem dX11_build_14 : decode cX11_build 14 = .ok (.aload_n 0, 1) := by decide +kernel
theorem dX11_build_15 : decode cX11_build 15 = .ok (.getfield 86, 3) := by decide +kernel
theorem dX11_build_18 : decode cX11_build 18 = .ok (.iload_n 1, 1) := by decide +kernel
theorem dX11_build_19 : decode cX11_build 19 = .ok (.lconst 0, 1) := by decide +kernel
theorem dX11_build_20 : decode cX11_build 20 = .ok (.lastore, 1) := by decide +kernel
theorem dX11_build_21 : decode cX11_build 21 = .ok (.iinc 1 1, 3) := by decide +kernel
theorem dX11_build_24 : decode cX11_build 24 = .ok (.goto (-17), 3) := by decide +kernel
theorem dX11_build_27 : decode cX11_build 27 = .ok (.iconst 0, 1) := by decide +kernel
theorem dX11_build_28 : decode cX11_build 28 = .ok (.istore_n 1, 1) := by decide +kernel
theorem dX11_build_29 : decode cX11_build 29 = .ok (.iload_n 1, 1) := by decide +kernel
theorem dX11_build_30 : decode cX11_build 30 = .ok (.aload_n 0, 1) := by decide +kernel
theorem dX11_build_31 : decode cX11_build 31 = .ok (.getfield 160, 3) := by decide +kernel
theorem dX11_build_34 : decode cX11_build 34 = .ok (.if_icmp .ge 30, 3) := by decide +kernel
theorem dX11_build_37 : decode cX11_build 37 = .ok (.aload_n 0, 1) := by decide +kernel
theorem dX11_build_38 : decode cX11_build 38 = .ok (.getfield 89, 3) := by decide +kernel
theorem dX11_build_41 : decode cX11_build 41 = .ok (.iload_n 1, 1) := by decide +kernel
theorem dX11_build_42 : decode cX11_build 42 = .ok (.lconst 0, 1) := by decide +kernel
theorem dX11_build_43 : decode cX11_build 43 = .ok (.lastore, 1) := by decide +kernel
theorem dX11_build_44 : decode cX11_build 44 = .ok (.aload_n 0, 1) := by decide +kernel
theorem dX11_build_45 : decode cX11_build 45 = .ok (.getfield 95, 3) := by decide +kernel
theorem dX11_build_48 : decode cX11_build 48 = .ok (.iload_n 1, 1) := by decide +kernel
theorem dX11_build_49 : decode cX11_build 49 = .ok (.iload_n 1, 1) := by decide +kernel
theorem dX11_build_50 : decode cX11_build 50 = .ok (.iastore, 1) := by decide +kernel
theorem dX11_build_51 : decode cX11_build 51 = .ok (.aload_n 0, 1) := by decide +kernel
theorem dX11_build_52 : decode cX11_build 52 = .ok (.getfield 98, 3) := by decide +kernel
theorem dX11_build_55 : decode cX11_build 55 = .ok (.iload_n 1, 1) := by decide +kernel
theorem dX11_build_56 : decode cX11_build 56 = .ok (.iconst 0, 1) := by decide +kernel
theorem dX11_build_57 : decode cX11_build 57 = .ok (.bastore, 1) := by decide +kernel
theorem dX11_build_58 : decode cX11_build 58 = .ok (.iinc 1 1, 3) := by decide +kernel
theorem dX11_build_61 : decode cX11_build 61 = .ok (.goto (-32), 3) := by decide +kernel
theorem dX11_build_64 : decode cX11_build 64 = .ok (.iconst 0, 1) := by decide +kernel
theorem dX11_build_65 : decode cX11_build 65 = .ok (.istore_n 1, 1) := by decide +kernel
theorem dX11_build_66 : decode cX11_build 66 = .ok (.iload_n 1, 1) := by decide +kernel
theorem dX11_build_67 : decode cX11_build 67 = .ok (.aload_n 0, 1) := by decide +kernel
theorem dX11_build_68 : decode cX11_build 68 = .ok (.getfield 154, 3) := by decide +kernel
theorem dX11_build_71 : decode cX11_build 71 = .ok (.if_icmp .ge 263, 3) := by decide +kernel
theorem dX11_build_74 : decode cX11_build 74 = .ok (.iconst 0, 1) := by decide +kernel
theorem dX11_build_75 : decode cX11_build 75 = .ok (.istore_n 2, 1) := by decide +kernel
theorem dX11_build_76 : decode cX11_build 76 = .ok (.iload_n 2, 1) := by decide +kernel
theorem dX11_build_77 : decode cX11_build 77 = .ok (.aload_n 0, 1) := by decide +kernel
theorem dX11_build_78 : decode cX11_build 78 = .ok (.getfield 150, 3) := by decide +kernel
theorem dX11_build_81 : decode cX11_build 81 = .ok (.if_icmp .ge 247, 3) := by decide +kernel
theorem dX11_build_84 : decode cX11_build 84 = .ok (.aload_n 0, 1) := by decide +kernel
theorem dX11_build_85 : decode cX11_build 85 = .ok (.iload_n 1, 1) := by decide +kernel
theorem dX11_build_86 : decode cX11_build 86 = .ok (.iload_n 2, 1) := by decide +kernel
theorem dX11_build_87 : decode cX11_build 87 = .ok (.invokevirtual 163, 3) := by decide +kernel
theorem dX11_build_90 : decode cX11_build 90 = .ok (.ifCond .eq 232, 3) := by decide +kernel
theorem dX11_build_93 : decode cX11_build 93 = .ok (.aload_n 0, 1) := by decide +kernel
theorem dX11_build_94 : decode cX11_build 94 = .ok (.getfield 69, 3) := by decide +kernel
theorem dX11_build_97 : decode cX11_build 97 = .ok (.bipush 16, 2) := by decide +kernel
theorem dX11_build_99 : decode cX11_build 99 = .ok (.iload_n 1, 1) := by decide +kernel
theorem dX11_build_100 : decode cX11_build 100 = .ok (.imul, 1) := by decide +kernel
theorem dX11_build_101 : decode cX11_build 101 = .ok (.iload_n 2, 1) := by decide +kernel
theorem dX11_build_102 : decode cX11_build 102 = .ok (.iadd, 1) := by decide +kernel
theorem dX11_build_103 : decode cX11_build 103 = .ok (.iaload, 1) := by decide +kernel
theorem dX11_build_104 : decode cX11_build 104 = .ok (.istore_n 3, 1) := by decide +kernel
theorem dX11_build_105 : decode cX11_build 105 = .ok (.aload_n 0, 1) := by decide +kernel
theorem dX11_build_106 : decode cX11_build 106 = .ok (.getfield 92, 3) := by decide +kernel
theorem dX11_build_109 : decode cX11_build 109 = .ok (.iload_n 3, 1) := by decide +kernel
theorem dX11_build_110 : decode cX11_build 110 = .ok (.sipush 10000, 3) := by decide +kernel
theorem dX11_build_113 : decode cX11_build 113 = .ok (.aload_n 0, 1) := by decide +kernel
theorem dX11_build_114 : decode cX11_build 114 = .ok (.getfield 7, 3) := by decide +kernel
theorem dX11_build_117 : decode cX11_build 117 = .ok (.iload_n 2, 1) := by decide +kernel
theorem dX11_build_118 : decode cX11_build 118 = .ok (.iaload, 1) := by decide +kernel
theorem dX11_build_119 : decode cX11_build 119 = .ok (.imul, 1) := by decide +kernel
theorem dX11_build_120 : decode cX11_build 120 = .ok (.iastore, 1) := by decide +kernel
theorem dX11_build_121 : decode cX11_build 121 = .ok (.aload_n 0, 1) := by decide +kernel
theorem dX11_build_122 : decode cX11_build 122 = .ok (.getfield 92, 3) := by decide +kernel
theorem dX11_build_125 : decode cX11_build 125 = .ok (.iload_n 3, 1) := by decide +kernel
theorem dX11_build_126 : decode cX11_build 126 = .ok (.iaload, 1) := by decide +kernel
theorem dX11_build_127 : decode cX11_build 127 = .ok (.i2l, 1) := by decide +kernel
theorem dX11_build_128 : decode cX11_build 128 = .ok (.lstore 4, 2) := by decide +kernel
theorem dX11_build_130 : decode cX11_build 130 = .ok (.aload_n 0, 1) := by decide +kernel
theorem dX11_build_131 : decode cX11_build 131 = .ok (.getfield 86, 3) := by decide +kernel
theorem dX11_build_134 : decode cX11_build 134 = .ok (.bipush 20, 2) := by decide +kernel
theorem dX11_build_136 : decode cX11_build 136 = .ok (.iload_n 3, 1) := by decide +kernel
theorem dX11_build_137 : decode cX11_build 137 = .ok (.imul, 1) := by decide +kernel
theorem dX11_build_138 : decode cX11_build 138 = .ok (.iload_n 3, 1) := by decide +kernel
theorem dX11_build_139 : decode cX11_build 139 = .ok (.iadd, 1) := by decide +kernel
theorem dX11_build_140 : decode cX11_build 140 = .ok (.dup2, 1) := by decide +kernel
theorem dX11_build_141 : decode cX11_build 141 = .ok (.laload, 1) := by decide +kernel
theorem dX11_build_142 : decode cX11_build 142 = .ok (.aload_n 0, 1) := by decide +kernel
theorem dX11_build_143 : decode cX11_build 143 = .ok (.getfield 48, 3) := by decide +kernel
theorem dX11_build_146 : decode cX11_build 146 = .ok (.iconst 4, 1) := by decide +kernel
theorem dX11_build_147 : decode cX11_build 147 = .ok (.iaload, 1) := by decide +kernel
theorem dX11_build_148 : decode cX11_build 148 = .ok (.i2l, 1) := by decide +kernel
theorem dX11_build_149 : decode cX11_build 149 = .ok (.ladd, 1) := by decide +kernel
theorem dX11_build_150 : decode cX11_build 150 = .ok (.lastore, 1) := by decide +kernel
theorem dX11_build_151 : decode cX11_build 151 = .ok (.aload_n 0, 1) := by decide +kernel
theorem dX11_build_152 : decode cX11_build 152 = .ok (.getfield 89, 3) := by decide +kernel
theorem dX11_build_155 : decode cX11_build 155 = .ok (.iload_n 3, 1) := by decide +kernel
theorem dX11_build_156 : decode cX11_build 156 = .ok (.dup2, 1) := by decide +kernel
theorem dX11_build_157 : decode cX11_build 157 = .ok (.laload, 1) := by decide +kernel
theorem dX11_build_158 : decode cX11_build 158 = .ok (.aload_n 0, 1) := by decide +kernel
theorem dX11_build_159 : decode cX11_build 159 = .ok (.getfield 48, 3) := by decide +kernel
theorem dX11_build_162 : decode cX11_build 162 = .ok (.iconst 4, 1) := by decide +kernel
theorem dX11_build_163 : decode cX11_build 163 = .ok (.iaload, 1) := by decide +kernel
theorem dX11_build_164 : decode cX11_build 164 = .ok (.i2l, 1) := by decide +kernel
theorem dX11_build_165 : decode cX11_build 165 = .ok (.lload 4, 2) := by decide +kernel
theorem dX11_build_167 : decode cX11_build 167 = .ok (.lmul, 1) := by decide +kernel
theorem dX11_build_168 : decode cX11_build 168 = .ok (.ladd, 1) := by decide +kernel
theorem dX11_build_169 : decode cX11_build 169 = .ok (.lastore, 1) := by decide +kernel
theorem dX11_build_170 : decode cX11_build 170 = .ok (.aload_n 0, 1) := by decide +kernel
theorem dX11_build_171 : decode cX11_build 171 = .ok (.dup, 1) := by decide +kernel
theorem dX11_build_172 : decode cX11_build 172 = .ok (.getfield 209, 3) := by decide +kernel
theorem dX11_build_175 : decode cX11_build 175 = .ok (.aload_n 0, 1) := by decide +kernel
theorem dX11_build_176 : decode cX11_build 176 = .ok (.getfield 48, 3) := by decide +kernel
theorem dX11_build_179 : decode cX11_build 179 = .ok (.iconst 4, 1) := by decide +kernel
theorem dX11_build_180 : decode cX11_build 180 = .ok (.iaload, 1) := by decide +kernel
theorem dX11_build_181 : decode cX11_build 181 = .ok (.i2l, 1) := by decide +kernel
theorem dX11_build_182 : decode cX11_build 182 = .ok (.lload 4, 2) := by decide +kernel
theorem dX11_build_184 : decode cX11_build 184 = .ok (.lmul, 1) := by decide +kernel
theorem dX11_build_185 : decode cX11_build 185 = .ok (.lload 4, 2) := by decide +kernel
theorem dX11_build_187 : decode cX11_build 187 = .ok (.lmul, 1) := by decide +kernel
theorem dX11_build_188 : decode cX11_build 188 = .ok (.ladd, 1) := by decide +kernel
theorem dX11_build_189 : decode cX11_build 189 = .ok (.putfield 209, 3) := by decide +kernel
theorem dX11_build_192 : decode cX11_build 192 = .ok (.aload_n 0, 1) := by decide +kernel
theorem dX11_build_193 : decode cX11_build 193 = .ok (.iload_n 1, 1) := by decide +kernel
theorem dX11_build_194 : decode cX11_build 194 = .ok (.aload_n 0, 1) := by decide +kernel
theorem dX11_build_195 : decode cX11_build 195 = .ok (.getfield 75, 3) := by decide +kernel
theorem dX11_build_198 : decode cX11_build 198 = .ok (.iload_n 1, 1) := by decide +kernel
theorem dX11_build_199 : decode cX11_build 199 = .ok (.iaload, 1) := by decide +kernel
theorem dX11_build_200 : decode cX11_build 200 = .ok (.iload_n 2, 1) := by decide +kernel
theorem dX11_build_201 : decode cX11_build 201 = .ok (.invokevirtual 195, 3) := by decide +kernel
theorem dX11_build_204 : decode cX11_build 204 = .ok (.istore 6, 2) := by decide +kernel
theorem dX11_build_206 : decode cX11_build 206 = .ok (.iconst 0, 1) := by decide +kernel
theorem dX11_build_207 : decode cX11_build 207 = .ok (.istore 7, 2) := by decide +kernel
theorem dX11_build_209 : decode cX11_build 209 = .ok (.iload 7, 2) := by decide +kernel
theorem dX11_build_211 : decode cX11_build 211 = .ok (.iload_n 2, 1) := by decide +kernel
theorem dX11_build_212 : decode cX11_build 212 = .ok (.if_icmp .ge 60, 3) := by decide +kernel
theorem dX11_build_215 : decode cX11_build 215 = .ok (.aload_n 0, 1) := by decide +kernel
theorem dX11_build_216 : decode cX11_build 216 = .ok (.iload_n 1, 1) := by decide +kernel
theorem dX11_build_217 : decode cX11_build 217 = .ok (.iload 7, 2) := by decide +kernel
theorem dX11_build_219 : decode cX11_build 219 = .ok (.invokevirtual 163, 3) := by decide +kernel
theorem dX11_build_222 : decode cX11_build 222 = .ok (.ifCond .eq 44, 3) := by decide +kernel
theorem dX11_build_225 : decode cX11_build 225 = .ok (.aload_n 0, 1) := by decide +kernel
theorem dX11_build_226 : decode cX11_build 226 = .ok (.iload_n 3, 1) := by decide +kernel
theorem dX11_build_227 : decode cX11_build 227 = .ok (.aload_n 0, 1) := by decide +kernel
theorem dX11_build_228 : decode cX11_build 228 = .ok (.getfield 69, 3) := by decide +kernel
theorem dX11_build_231 : decode cX11_build 231 = .ok (.bipush 16, 2) := by decide +kernel
theorem dX11_build_233 : decode cX11_build 233 = .ok (.iload_n 1, 1) := by decide +kernel
theorem dX11_build_234 : decode cX11_build 234 = .ok (.imul, 1) := by decide +kernel
theorem dX11_build_235 : decode cX11_build 235 = .ok (.iload 7, 2) := by decide +kernel
theorem dX11_build_237 : decode cX11_build 237 = .ok (.iadd, 1) := by decide +kernel
theorem dX11_build_238 : decode cX11_build 238 = .ok (.iaload, 1) := by decide +kernel
theorem dX11_build_239 : decode cX11_build 239 = .ok (.iload 6, 2) := by decide +kernel
theorem dX11_build_241 : decode cX11_build 241 = .ok (.aload_n 0, 1) := by decide +kernel
theorem dX11_build_242 : decode cX11_build 242 = .ok (.iload_n 1, 1) := by decide +kernel
theorem dX11_build_243 : decode cX11_build 243 = .ok (.aload_n 0, 1) := by decide +kernel
theorem dX11_build_244 : decode cX11_build 244 = .ok (.getfield 75, 3) := by decide +kernel
theorem dX11_build_247 : decode cX11_build 247 = .ok (.iload_n 1, 1) := by decide +kernel
theorem dX11_build_248 : decode cX11_build 248 = .ok (.iaload, 1) := by decide +kernel
theorem dX11_build_249 : decode cX11_build 249 = .ok (.iload 7, 2) := by decide +kernel
theorem dX11_build_251 : decode cX11_build 251 = .ok (.invokevirtual 195, 3) := by decide +kernel
theorem dX11_build_254 : decode cX11_build 254 = .ok (.isub, 1) := by decide +kernel
theorem dX11_build_255 : decode cX11_build 255 = .ok (.i2l, 1) := by decide +kernel
theorem dX11_build_256 : decode cX11_build 256 = .ok (.aload_n 0, 1) := by decide +kernel
theorem dX11_build_257 : decode cX11_build 257 = .ok (.getfield 48, 3) := by decide +kernel
theorem dX11_build_260 : decode cX11_build 260 = .ok (.iconst 2, 1) := by decide +kernel
theorem dX11_build_261 : decode cX11_build 261 = .ok (.iaload, 1) := by decide +kernel
theorem dX11_build_262 : decode cX11_build 262 = .ok (.i2l, 1) := by decide +kernel
theorem dX11_build_263 : decode cX11_build 263 = .ok (.invokevirtual 213, 3) := by decide +kernel
theorem dX11_build_266 : decode cX11_build 266 = .ok (.iinc 7 1, 3) := by decide +kernel
theorem dX11_build_269 : decode cX11_build 269 = .ok (.goto (-60), 3) := by decide +kernel
theorem dX11_build_272 : decode cX11_build 272 = .ok (.iload_n 1, 1) := by decide +kernel
theorem dX11_build_273 : decode cX11_build 273 = .ok (.ifCond .le 49, 3) := by decide +kernel
theorem dX11_build_276 : decode cX11_build 276 = .ok (.aload_n 0, 1) := by decide +kernel
theorem dX11_build_277 : decode cX11_build 277 = .ok (.iload_n 1, 1) := by decide +kernel
theorem dX11_build_278 : decode cX11_build 278 = .ok (.iconst 1, 1) := by decide +kernel
theorem dX11_build_279 : decode cX11_build 279 = .ok (.isub, 1) := by decide +kernel
theorem dX11_build_280 : decode cX11_build 280 = .ok (.iload_n 2, 1) := by decide +kernel
theorem dX11_build_281 : decode cX11_build 281 = .ok (.invokevirtual 163, 3) := by decide +kernel
theorem dX11_build_284 : decode cX11_build 284 = .ok (.ifCond .eq 38, 3) := by decide +kernel
theorem dX11_build_287 : decode cX11_build 287 = .ok (.aload_n 0, 1) := by decide +kernel
theorem dX11_build_288 : decode cX11_build 288 = .ok (.getfield 19, 3) := by decide +kernel
theorem dX11_build_291 : decode cX11_build 291 = .ok (.iload_n 2, 1) := by decide +kernel
theorem dX11_build_292 : decode cX11_build 292 = .ok (.baload, 1) := by decide +kernel
theorem dX11_build_293 : decode cX11_build 293 = .ok (.ifCond .ne 29, 3) := by decide +kernel
theorem dX11_build_296 : decode cX11_build 296 = .ok (.aload_n 0, 1) := by decide +kernel
theorem dX11_build_297 : decode cX11_build 297 = .ok (.iload_n 3, 1) := by decide +kernel
theorem dX11_build_298 : decode cX11_build 298 = .ok (.aload_n 0, 1) := by decide +kernel
theorem dX11_build_299 : decode cX11_build 299 = .ok (.getfield 69, 3) := by decide +kernel
theorem dX11_build_302 : decode cX11_build 302 = .ok (.bipush 16, 2) := by decide +kernel
theorem dX11_build_304 : decode cX11_build 304 = .ok (.iload_n 1, 1) := by decide +kernel
theorem dX11_build_305 : decode cX11_build 305 = .ok (.iconst 1, 1) := by decide +kernel
theorem dX11_build_306 : decode cX11_build 306 = .ok (.isub, 1) := by decide +kernel
theorem dX11_build_307 : decode cX11_build 307 = .ok (.imul, 1) := by decide +kernel
theorem dX11_build_308 : decode cX11_build 308 = .ok (.iload_n 2, 1) := by decide +kernel
theorem dX11_build_309 : decode cX11_build 309 = .ok (.iadd, 1) := by decide +kernel
theorem dX11_build_310 : decode cX11_build 310 = .ok (.iaload, 1) := by decide +kernel
theorem dX11_build_311 : decode cX11_build 311 = .ok (.lconst 0, 1) := by decide +kernel
theorem dX11_build_312 : decode cX11_build 312 = .ok (.aload_n 0, 1) := by decide +kernel
theorem dX11_build_313 : decode cX11_build 313 = .ok (.getfield 48, 3) := by decide +kernel
theorem dX11_build_316 : decode cX11_build 316 = .ok (.iconst 3, 1) := by decide +kernel
theorem dX11_build_317 : decode cX11_build 317 = .ok (.iaload, 1) := by decide +kernel
theorem dX11_build_318 : decode cX11_build 318 = .ok (.i2l, 1) := by decide +kernel
theorem dX11_build_319 : decode cX11_build 319 = .ok (.invokevirtual 213, 3) := by decide +kernel
theorem dX11_build_322 : decode cX11_build 322 = .ok (.iinc 2 1, 3) := by decide +kernel
theorem dX11_build_325 : decode cX11_build 325 = .ok (.goto (-249), 3) := by decide +kernel
theorem dX11_build_328 : decode cX11_build 328 = .ok (.iinc 1 1, 3) := by decide +kernel
theorem dX11_build_331 : decode cX11_build 331 = .ok (.goto (-265), 3) := by decide +kernel
theorem dX11_build_334 : decode cX11_build 334 = .ok (.return_, 1) := by decide +kernel
theorem dX11_nextPrime_0 : decode cX11_nextPrime 0 = .ok (.aload_n 0, 1) := by decide +kernel
theorem dX11_nextPrime_1 : decode cX11_nextPrime 1 = .ok (.getfield 217, 3) := by decide +kernel
theorem dX11_nextPrime_4 : decode cX11_nextPrime 4 = .ok (.ifCond .ne 9, 3) := by decide +kernel
theorem dX11_nextPrime_7 : decode cX11_nextPrime 7 = .ok (.ldc2_w 220, 3) := by decide +kernel
theorem dX11_nextPrime_10 : decode cX11_nextPrime 10 = .ok (.goto 18, 3) := by decide +kernel
theorem dX11_nextPrime_13 : decode cX11_nextPrime 13 = .ok (.aload_n 0, 1) := by decide +kernel
theorem dX11_nextPrime_14 : decode cX11_nextPrime 14 = .ok (.getfield 101, 3) := by decide +kernel
theorem dX11_nextPrime_17 : decode cX11_nextPrime 17 = .ok (.aload_n 0, 1) := by decide +kernel
theorem dX11_nextPrime_18 : decode cX11_nextPrime 18 = .ok (.getfield 217, 3) := by decide +kernel
theorem dX11_nextPrime_21 : decode cX11_nextPrime 21 = .ok (.iconst 1, 1) := by decide +kernel
theorem dX11_nextPrime_22 : decode cX11_nextPrime 22 = .ok (.isub, 1) := by decide +kernel
theorem dX11_nextPrime_23 : decode cX11_nextPrime 23 = .ok (.laload, 1) := by decide +kernel
theorem dX11_nextPrime_24 : decode cX11_nextPrime 24 = .ok (.ldc2_w 222, 3) := by decide +kernel
theorem dX11_nextPrime_27 : decode cX11_nextPrime 27 = .ok (.lsub, 1) := by decide +kernel
theorem dX11_nextPrime_28 : decode cX11_nextPrime 28 = .ok (.lstore_n 1, 1) := by decide +kernel
theorem dX11_nextPrime_29 : decode cX11_nextPrime 29 = .ok (.aload_n 0, 1) := by decide +kernel
theorem dX11_nextPrime_30 : decode cX11_nextPrime 30 = .ok (.lload_n 1, 1) := by decide +kernel
theorem dX11_nextPrime_31 : decode cX11_nextPrime 31 = .ok (.invokevirtual 224, 3) := by decide +kernel
theorem dX11_nextPrime_34 : decode cX11_nextPrime 34 = .ok (.ifCond .ne 12, 3) := by decide +kernel
theorem dX11_nextPrime_37 : decode cX11_nextPrime 37 = .ok (.lload_n 1, 1) := by decide +kernel
theorem dX11_nextPrime_38 : decode cX11_nextPrime 38 = .ok (.ldc2_w 222, 3) := by decide +kernel
theorem dX11_nextPrime_41 : decode cX11_nextPrime 41 = .ok (.lsub, 1) := by decide +kernel
theorem dX11_nextPrime_42 : decode cX11_nextPrime 42 = .ok (.lstore_n 1, 1) := by decide +kernel
theorem dX11_nextPrime_43 : decode cX11_nextPrime 43 = .ok (.goto (-14), 3) := by decide +kernel
theorem dX11_nextPrime_46 : decode cX11_nextPrime 46 = .ok (.lload_n 1, 1) := by decide +kernel
theorem dX11_nextPrime_47 : decode cX11_nextPrime 47 = .ok (.lreturn, 1) := by decide +kernel
theorem dX11_isPrime_0 : decode cX11_isPrime 0 = .ok (.ldc2_w 228, 3) := by decide +kernel
theorem dX11_isPrime_3 : decode cX11_isPrime 3 = .ok (.lstore_n 3, 1) := by decide +kernel
theorem dX11_isPrime_4 : decode cX11_isPrime 4 = .ok (.lload_n 3, 1) := by decide +kernel
theorem dX11_isPrime_5 : decode cX11_isPrime 5 = .ok (.lload_n 3, 1) := by decide +kernel
theorem dX11_isPrime_6 : decode cX11_isPrime 6 = .ok (.lmul, 1) := by decide +kernel
theorem dX11_isPrime_7 : decode cX11_isPrime 7 = .ok (.lload_n 1, 1) := by decide +kernel
theorem dX11_isPrime_8 : decode cX11_isPrime 8 = .ok (.lcmp, 1) := by decide +kernel
theorem dX11_isPrime_9 : decode cX11_isPrime 9 = .ok (.ifCond .gt 22, 3) := by decide +kernel
theorem dX11_isPrime_12 : decode cX11_isPrime 12 = .ok (.lload_n 1, 1) := by decide +kernel
theorem dX11_isPrime_13 : decode cX11_isPrime 13 = .ok (.lload_n 3, 1) := by decide +kernel
theorem dX11_isPrime_14 : decode cX11_isPrime 14 = .ok (.lrem, 1) := by decide +kernel
theorem dX11_isPrime_15 : decode cX11_isPrime 15 = .ok (.lconst 0, 1) := by decide +kernel
theorem dX11_isPrime_16 : decode cX11_isPrime 16 = .ok (.lcmp, 1) := by decide +kernel
theorem dX11_isPrime_17 : decode cX11_isPrime 17 = .ok (.ifCond .ne 5, 3) := by decide +kernel
theorem dX11_isPrime_20 : decode cX11_isPrime 20 = .ok (.iconst 0, 1) := by decide +kernel
theorem dX11_isPrime_21 : decode cX11_isPrime 21 = .ok (.ireturn, 1) := by decide +kernel
theorem dX11_isPrime_22 : decode cX11_isPrime 22 = .ok (.lload_n 3, 1) := by decide +kernel
theorem dX11_isPrime_23 : decode cX11_isPrime 23 = .ok (.ldc2_w 222, 3) := by decide +kernel
theorem dX11_isPrime_26 : decode cX11_isPrime 26 = .ok (.ladd, 1) := by decide +kernel
theorem dX11_isPrime_27 : decode cX11_isPrime 27 = .ok (.lstore_n 3, 1) := by decide +kernel
theorem dX11_isPrime_28 : decode cX11_isPrime 28 = .ok (.goto (-24), 3) := by decide +kernel
theorem dX11_isPrime_31 : decode cX11_isPrime 31 = .ok (.iconst 1, 1) := by decide +kernel
theorem dX11_isPrime_32 : decode cX11_isPrime 32 = .ok (.ireturn, 1) := by decide +kernel
theorem dX11_mod_0 : decode cX11_mod 0 = .ok (.lload_n 1, 1) := by decide +kernel
theorem dX11_mod_1 : decode cX11_mod 1 = .ok (.lload_n 3, 1) := by decide +kernel
theorem dX11_mod_2 : decode cX11_mod 2 = .ok (.lrem, 1) := by decide +kernel
theorem dX11_mod_3 : decode cX11_mod 3 = .ok (.lstore 5, 2) := by decide +kernel
theorem dX11_mod_5 : decode cX11_mod 5 = .ok (.lload 5, 2) := by decide +kernel
theorem dX11_mod_7 : decode cX11_mod 7 = .ok (.lconst 0, 1) := by decide +kernel
theorem dX11_mod_8 : decode cX11_mod 8 = .ok (.lcmp, 1) := by decide +kernel
theorem dX11_mod_9 : decode cX11_mod 9 = .ok (.ifCond .ge 10, 3) := by decide +kernel
theorem dX11_mod_12 : decode cX11_mod 12 = .ok (.lload 5, 2) := by decide +kernel
theorem dX11_mod_14 : decode cX11_mod 14 = .ok (.lload_n 3, 1) := by decide +kernel
theorem dX11_mod_15 : decode cX11_mod 15 = .ok (.ladd, 1) := by decide +kernel
theorem dX11_mod_16 : decode cX11_mod 16 = .ok (.goto 5, 3) := by decide +kernel
theorem dX11_mod_19 : decode cX11_mod 19 = .ok (.lload 5, 2) := by decide +kernel
theorem dX11_mod_21 : decode cX11_mod 21 = .ok (.lreturn, 1) := by decide +kernel
theorem dX11_inverse_0 : decode cX11_inverse 0 = .ok (.lconst 1, 1) := by decide +kernel
theorem dX11_inverse_1 : decode cX11_inverse 1 = .ok (.lstore 5, 2) := by decide +kernel
theorem dX11_inverse_3 : decode cX11_inverse 3 = .ok (.lload_n 1, 1) := by decide +kernel
theorem dX11_inverse_4 : decode cX11_inverse 4 = .ok (.lstore 7, 2) := by decide +kernel
theorem dX11_inverse_6 : decode cX11_inverse 6 = .ok (.lload_n 3, 1) := by decide +kernel
theorem dX11_inverse_7 : decode cX11_inverse 7 = .ok (.ldc2_w 222, 3) := by decide +kernel
theorem dX11_inverse_10 : decode cX11_inverse 10 = .ok (.lsub, 1) := by decide +kernel
theorem dX11_inverse_11 : decode cX11_inverse 11 = .ok (.lstore 9, 2) := by decide +kernel
theorem dX11_inverse_13 : decode cX11_inverse 13 = .ok (.lload 9, 2) := by decide +kernel
theorem dX11_inverse_15 : decode cX11_inverse 15 = .ok (.lconst 0, 1) := by decide +kernel
theorem dX11_inverse_16 : decode cX11_inverse 16 = .ok (.lcmp, 1) := by decide +kernel
theorem dX11_inverse_17 : decode cX11_inverse 17 = .ok (.ifCond .le 44, 3) := by decide +kernel
theorem dX11_inverse_20 : decode cX11_inverse 20 = .ok (.lload 9, 2) := by decide +kernel
theorem dX11_inverse_22 : decode cX11_inverse 22 = .ok (.lconst 1, 1) := by decide +kernel
theorem dX11_inverse_23 : decode cX11_inverse 23 = .ok (.land, 1) := by decide +kernel
theorem dX11_inverse_24 : decode cX11_inverse 24 = .ok (.lconst 1, 1) := by decide +kernel
theorem dX11_inverse_25 : decode cX11_inverse 25 = .ok (.lcmp, 1) := by decide +kernel
theorem dX11_inverse_26 : decode cX11_inverse 26 = .ok (.ifCond .ne 13, 3) := by decide +kernel
theorem dX11_inverse_29 : decode cX11_inverse 29 = .ok (.lload 5, 2) := by decide +kernel
theorem dX11_inverse_31 : decode cX11_inverse 31 = .ok (.lload 7, 2) := by decide +kernel
theorem dX11_inverse_33 : decode cX11_inverse 33 = .ok (.lmul, 1) := by decide +kernel
theorem dX11_inverse_34 : decode cX11_inverse 34 = .ok (.lload_n 3, 1) := by decide +kernel
theorem dX11_inverse_35 : decode cX11_inverse 35 = .ok (.lrem, 1) := by decide +kernel
theorem dX11_inverse_36 : decode cX11_inverse 36 = .ok (.goto 5, 3) := by decide +kernel
theorem dX11_inverse_39 : decode cX11_inverse 39 = .ok (.lload 5, 2) := by decide +kernel
theorem dX11_inverse_41 : decode cX11_inverse 41 = .ok (.lstore 5, 2) := by decide +kernel
theorem dX11_inverse_43 : decode cX11_inverse 43 = .ok (.lload 7, 2) := by decide +kernel
theorem dX11_inverse_45 : decode cX11_inverse 45 = .ok (.lload 7, 2) := by decide +kernel
theorem dX11_inverse_47 : decode cX11_inverse 47 = .ok (.lmul, 1) := by decide +kernel
theorem dX11_inverse_48 : decode cX11_inverse 48 = .ok (.lload_n 3, 1) := by decide +kernel
theorem dX11_inverse_49 : decode cX11_inverse 49 = .ok (.lrem, 1) := by decide +kernel
theorem dX11_inverse_50 : decode cX11_inverse 50 = .ok (.lstore 7, 2) := by decide +kernel
theorem dX11_inverse_52 : decode cX11_inverse 52 = .ok (.lload 9, 2) := by decide +kernel
theorem dX11_inverse_54 : decode cX11_inverse 54 = .ok (.iconst 1, 1) := by decide +kernel
theorem dX11_inverse_55 : decode cX11_inverse 55 = .ok (.lshr, 1) := by decide +kernel
theorem dX11_inverse_56 : decode cX11_inverse 56 = .ok (.lstore 9, 2) := by decide +kernel
theorem dX11_inverse_58 : decode cX11_inverse 58 = .ok (.goto (-45), 3) := by decide +kernel
theorem dX11_inverse_61 : decode cX11_inverse 61 = .ok (.lload 5, 2) := by decide +kernel
theorem dX11_inverse_63 : decode cX11_inverse 63 = .ok (.lreturn, 1) := by decide +kernel
theorem dX11_byPrime_0 : decode cX11_byPrime 0 = .ok (.aload_n 0, 1) := by decide +kernel
theorem dX11_byPrime_1 : decode cX11_byPrime 1 = .ok (.getfield 160, 3) := by decide +kernel
theorem dX11_byPrime_4 : decode cX11_byPrime 4 = .ok (.istore_n 3, 1) := by decide +kernel
theorem dX11_byPrime_5 : decode cX11_byPrime 5 = .ok (.iconst 0, 1) := by decide +kernel
theorem dX11_byPrime_6 : decode cX11_byPrime 6 = .ok (.istore 4, 2) := by decide +kernel
theorem dX11_byPrime_8 : decode cX11_byPrime 8 = .ok (.iload 4, 2) := by decide +kernel
theorem dX11_byPrime_10 : decode cX11_byPrime 10 = .ok (.iload_n 3, 1) := by decide +kernel
theorem dX11_byPrime_11 : decode cX11_byPrime 11 = .ok (.if_icmp .ge 126, 3) := by decide +kernel
theorem dX11_byPrime_14 : decode cX11_byPrime 14 = .ok (.iconst 0, 1) := by decide +kernel
theorem dX11_byPrime_15 : decode cX11_byPrime 15 = .ok (.istore 5, 2) := by decide +kernel
theorem dX11_byPrime_17 : decode cX11_byPrime 17 = .ok (.iload 5, 2) := by decide +kernel
theorem dX11_byPrime_19 : decode cX11_byPrime 19 = .ok (.iload_n 3, 1) := by decide +kernel
theorem dX11_byPrime_20 : decode cX11_byPrime 20 = .ok (.if_icmp .ge 65, 3) := by decide +kernel
theorem dX11_byPrime_23 : decode cX11_byPrime 23 = .ok (.aload_n 0, 1) := by decide +kernel
theorem dX11_byPrime_24 : decode cX11_byPrime 24 = .ok (.getfield 110, 3) := by decide +kernel
theorem dX11_byPrime_27 : decode cX11_byPrime 27 = .ok (.bipush 21, 2) := by decide +kernel
theorem dX11_byPrime_29 : decode cX11_byPrime 29 = .ok (.iload 4, 2) := by decide +kernel
theorem dX11_byPrime_31 : decode cX11_byPrime 31 = .ok (.imul, 1) := by decide +kernel
theorem dX11_byPrime_32 : decode cX11_byPrime 32 = .ok (.iload 5, 2) := by decide +kernel
theorem dX11_byPrime_34 : decode cX11_byPrime 34 = .ok (.iadd, 1) := by decide +kernel
theorem dX11_byPrime_35 : decode cX11_byPrime 35 = .ok (.aload_n 0, 1) := by decide +kernel
theorem dX11_byPrime_36 : decode cX11_byPrime 36 = .ok (.getfield 98, 3) := by decide +kernel
theorem dX11_byPrime_39 : decode cX11_byPrime 39 = .ok (.iload 4, 2) := by decide +kernel
theorem dX11_byPrime_41 : decode cX11_byPrime 41 = .ok (.baload, 1) := by decide +kernel
theorem dX11_byPrime_42 : decode cX11_byPrime 42 = .ok (.ifCond .eq 18, 3) := by decide +kernel
theorem dX11_byPrime_45 : decode cX11_byPrime 45 = .ok (.iload 4, 2) := by decide +kernel
theorem dX11_byPrime_47 : decode cX11_byPrime 47 = .ok (.iload 5, 2) := by decide +kernel
theorem dX11_byPrime_49 : decode cX11_byPrime 49 = .ok (.if_icmp .ne 7, 3) := by decide +kernel
theorem dX11_byPrime_52 : decode cX11_byPrime 52 = .ok (.lconst 1, 1) := by decide +kernel
theorem dX11_byPrime_53 : decode cX11_byPrime 53 = .ok (.goto 25, 3) := by decide +kernel
theorem dX11_byPrime_56 : decode cX11_byPrime 56 = .ok (.lconst 0, 1) := by decide +kernel
theorem dX11_byPrime_57 : decode cX11_byPrime 57 = .ok (.goto 21, 3) := by decide +kernel
theorem dX11_byPrime_60 : decode cX11_byPrime 60 = .ok (.aload_n 0, 1) := by decide +kernel
theorem dX11_byPrime_61 : decode cX11_byPrime 61 = .ok (.aload_n 0, 1) := by decide +kernel
theorem dX11_byPrime_62 : decode cX11_byPrime 62 = .ok (.getfield 86, 3) := by decide +kernel
theorem dX11_byPrime_65 : decode cX11_byPrime 65 = .ok (.bipush 20, 2) := by decide +kernel
theorem dX11_byPrime_67 : decode cX11_byPrime 67 = .ok (.iload 4, 2) := by decide +kernel
theorem dX11_byPrime_69 : decode cX11_byPrime 69 = .ok (.imul, 1) := by decide +kernel
theorem dX11_byPrime_70 : decode cX11_byPrime 70 = .ok (.iload 5, 2) := by decide +kernel
theorem dX11_byPrime_72 : decode cX11_byPrime 72 = .ok (.iadd, 1) := by decide +kernel
theorem dX11_byPrime_73 : decode cX11_byPrime 73 = .ok (.laload, 1) := by decide +kernel
theorem dX11_byPrime_74 : decode cX11_byPrime 74 = .ok (.lload_n 1, 1) := by decide +kernel
theorem dX11_byPrime_75 : decode cX11_byPrime 75 = .ok (.invokevirtual 230, 3) := by decide +kernel
theorem dX11_byPrime_78 : decode cX11_byPrime 78 = .ok (.lastore, 1) := by decide +kernel
theorem dX11_byPrime_79 : decode cX11_byPrime 79 = .ok (.iinc 5 1, 3) := by decide +kernel
theorem dX11_byPrime_82 : decode cX11_byPrime 82 = .ok (.goto (-65), 3) := by decide +kernel
theorem dX11_byPrime_85 : decode cX11_byPrime 85 = .ok (.aload_n 0, 1) := by decide +kernel
theorem dX11_byPrime_86 : decode cX11_byPrime 86 = .ok (.getfield 110, 3) := by decide +kernel
theorem dX11_byPrime_89 : decode cX11_byPrime 89 = .ok (.bipush 21, 2) := by decide +kernel
theorem dX11_byPrime_91 : decode cX11_byPrime 91 = .ok (.iload 4, 2) := by decide +kernel
theorem dX11_byPrime_93 : decode cX11_byPrime 93 = .ok (.imul, 1) := by decide +kernel
theorem dX11_byPrime_94 : decode cX11_byPrime 94 = .ok (.bipush 20, 2) := by decide +kernel
theorem dX11_byPrime_96 : decode cX11_byPrime 96 = .ok (.iadd, 1) := by decide +kernel
theorem dX11_byPrime_97 : decode cX11_byPrime 97 = .ok (.aload_n 0, 1) := by decide +kernel
theorem dX11_byPrime_98 : decode cX11_byPrime 98 = .ok (.aload_n 0, 1) := by decide +kernel
theorem dX11_byPrime_99 : decode cX11_byPrime 99 = .ok (.getfield 98, 3) := by decide +kernel
theorem dX11_byPrime_102 : decode cX11_byPrime 102 = .ok (.iload 4, 2) := by decide +kernel
theorem dX11_byPrime_104 : decode cX11_byPrime 104 = .ok (.baload, 1) := by decide +kernel
theorem dX11_byPrime_105 : decode cX11_byPrime 105 = .ok (.ifCond .eq 14, 3) := by decide +kernel
theorem dX11_byPrime_108 : decode cX11_byPrime 108 = .ok (.aload_n 0, 1) := by decide +kernel
theorem dX11_byPrime_109 : decode cX11_byPrime 109 = .ok (.getfield 92, 3) := by decide +kernel
theorem dX11_byPrime_112 : decode cX11_byPrime 112 = .ok (.iload 4, 2) := by decide +kernel
theorem dX11_byPrime_114 : decode cX11_byPrime 114 = .ok (.iaload, 1) := by decide +kernel
theorem dX11_byPrime_115 : decode cX11_byPrime 115 = .ok (.i2l, 1) := by decide +kernel
theorem dX11_byPrime_116 : decode cX11_byPrime 116 = .ok (.goto 10, 3) := by decide +kernel
theorem dX11_byPrime_119 : decode cX11_byPrime 119 = .ok (.aload_n 0, 1) := by decide +kernel
theorem dX11_byPrime_120 : decode cX11_byPrime 120 = .ok (.getfield 89, 3) := by decide +kernel
theorem dX11_byPrime_123 : decode cX11_byPrime 123 = .ok (.iload 4, 2) := by decide +kernel
theorem dX11_byPrime_125 : decode cX11_byPrime 125 = .ok (.laload, 1) := by decide +kernel
theorem dX11_byPrime_126 : decode cX11_byPrime 126 = .ok (.lload_n 1, 1) := by decide +kernel
theorem dX11_byPrime_127 : decode cX11_byPrime 127 = .ok (.invokevirtual 230, 3) := by decide +kernel
theorem dX11_byPrime_130 : decode cX11_byPrime 130 = .ok (.lastore, 1) := by decide +kernel
theorem dX11_byPrime_131 : decode cX11_byPrime 131 = .ok (.iinc 4 1, 3) := by decide +kernel
theorem dX11_byPrime_134 : decode cX11_byPrime 134 = .ok (.goto (-126), 3) := by decide +kernel
theorem dX11_byPrime_137 : decode cX11_byPrime 137 = .ok (.lconst 1, 1) := by decide +kernel
theorem dX11_byPrime_138 : decode cX11_byPrime 138 = .ok (.lstore 4, 2) := by decide +kernel
theorem dX11_byPrime_140 : decode cX11_byPrime 140 = .ok (.iconst 0, 1) := by decide +kernel
theorem dX11_byPrime_141 : decode cX11_byPrime 141 = .ok (.istore 6, 2) := by decide +kernel
theorem dX11_byPrime_143 : decode cX11_byPrime 143 = .ok (.iload 6, 2) := by decide +kernel
theorem dX11_byPrime_145 : decode cX11_byPrime 145 = .ok (.iload_n 3, 1) := by decide +kernel
theorem dX11_byPrime_146 : decode cX11_byPrime 146 = .ok (.if_icmp .ge 335, 3) := by decide +kernel
theorem dX11_byPrime_149 : decode cX11_byPrime 149 = .ok (.iload 6, 2) := by decide +kernel
theorem dX11_byPrime_151 : decode cX11_byPrime 151 = .ok (.istore 7, 2) := by decide +kernel
theorem dX11_byPrime_153 : decode cX11_byPrime 153 = .ok (.iload 7, 2) := by decide +kernel
theorem dX11_byPrime_155 : decode cX11_byPrime 155 = .ok (.iload_n 3, 1) := by decide +kernel
theorem dX11_byPrime_156 : decode cX11_byPrime 156 = .ok (.if_icmp .ge 27, 3) := by decide +kernel
theorem dX11_byPrime_159 : decode cX11_byPrime 159 = .ok (.aload_n 0, 1) := by decide +kernel
theorem dX11_byPrime_160 : decode cX11_byPrime 160 = .ok (.getfield 110, 3) := by decide +kernel
theorem dX11_byPrime_163 : decode cX11_byPrime 163 = .ok (.bipush 21, 2) := by decide +kernel
theorem dX11_byPrime_165 : decode cX11_byPrime 165 = .ok (.iload 7, 2) := by decide +kernel
theorem dX11_byPrime_167 : decode cX11_byPrime 167 = .ok (.imul, 1) := by decide +kernel
theorem dX11_byPrime_168 : decode cX11_byPrime 168 = .ok (.iload 6, 2) := by decide +kernel
theorem dX11_byPrime_170 : decode cX11_byPrime 170 = .ok (.iadd, 1) := by decide +kernel
theorem dX11_byPrime_171 : decode cX11_byPrime 171 = .ok (.laload, 1) := by decide +kernel
theorem dX11_byPrime_172 : decode cX11_byPrime 172 = .ok (.lconst 0, 1) := by decide +kernel
theorem dX11_byPrime_173 : decode cX11_byPrime 173 = .ok (.lcmp, 1) := by decide +kernel
theorem dX11_byPrime_174 : decode cX11_byPrime 174 = .ok (.ifCond .ne 9, 3) := by decide +kernel
theorem dX11_byPrime_177 : decode cX11_byPrime 177 = .ok (.iinc 7 1, 3) := by decide +kernel
theorem dX11_byPrime_180 : decode cX11_byPrime 180 = .ok (.goto (-27), 3) := by decide +kernel
theorem dX11_byPrime_183 : decode cX11_byPrime 183 = .ok (.iload 7, 2) := by decide +kernel
theorem dX11_byPrime_185 : decode cX11_byPrime 185 = .ok (.iload_n 3, 1) := by decide +kernel
theorem dX11_byPrime_186 : decode cX11_byPrime 186 = .ok (.if_icmp .ne 5, 3) := by decide +kernel
theorem dX11_byPrime_189 : decode cX11_byPrime 189 = .ok (.iconst 0, 1) := by decide +kernel
theorem dX11_byPrime_190 : decode cX11_byPrime 190 = .ok (.ireturn, 1) := by decide +kernel
theorem dX11_byPrime_191 : decode cX11_byPrime 191 = .ok (.iload 7, 2) := by decide +kernel
theorem dX11_byPrime_193 : decode cX11_byPrime 193 = .ok (.iload 6, 2) := by decide +kernel
theorem dX11_byPrime_195 : decode cX11_byPrime 195 = .ok (.if_icmp .eq 81, 3) := by decide +kernel
theorem dX11_byPrime_198 : decode cX11_byPrime 198 = .ok (.lload_n 1, 1) := by decide +kernel
theorem dX11_byPrime_199 : decode cX11_byPrime 199 = .ok (.lload 4, 2) := by decide +kernel
theorem dX11_byPrime_201 : decode cX11_byPrime 201 = .ok (.lsub, 1) := by decide +kernel
theorem dX11_byPrime_202 : decode cX11_byPrime 202 = .ok (.lstore 4, 2) := by decide +kernel
theorem dX11_byPrime_204 : decode cX11_byPrime 204 = .ok (.iconst 0, 1) := by decide +kernel
theorem dX11_byPrime_205 : decode cX11_byPrime 205 = .ok (.istore 8, 2) := by decide +kernel
theorem dX11_byPrime_207 : decode cX11_byPrime 207 = .ok (.iload 8, 2) := by decide +kernel
theorem dX11_byPrime_209 : decode cX11_byPrime 209 = .ok (.bipush 21, 2) := by decide +kernel
theorem dX11_byPrime_211 : decode cX11_byPrime 211 = .ok (.if_icmp .ge 65, 3) := by decide +kernel
theorem dX11_byPrime_214 : decode cX11_byPrime 214 = .ok (.aload_n 0, 1) := by decide +kernel
theorem dX11_byPrime_215 : decode cX11_byPrime 215 = .ok (.getfield 110, 3) := by decide +kernel
theorem dX11_byPrime_218 : decode cX11_byPrime 218 = .ok (.bipush 21, 2) := by decide +kernel
theorem dX11_byPrime_220 : decode cX11_byPrime 220 = .ok (.iload 6, 2) := by decide +kernel
theorem dX11_byPrime_222 : decode cX11_byPrime 222 = .ok (.imul, 1) := by decide +kernel
theorem dX11_byPrime_223 : decode cX11_byPrime 223 = .ok (.iload 8, 2) := by decide +kernel
theorem dX11_byPrime_225 : decode cX11_byPrime 225 = .ok (.iadd, 1) := by decide +kernel
theorem dX11_byPrime_226 : decode cX11_byPrime 226 = .ok (.laload, 1) := by decide +kernel
theorem dX11_byPrime_227 : decode cX11_byPrime 227 = .ok (.lstore 9, 2) := by decide +kernel
theorem dX11_byPrime_229 : decode cX11_byPrime 229 = .ok (.aload_n 0, 1) := by decide +kernel
theorem dX11_byPrime_230 : decode cX11_byPrime 230 = .ok (.getfield 110, 3) := by decide +kernel
theorem dX11_byPrime_233 : decode cX11_byPrime 233 = .ok (.bipush 21, 2) := by decide +kernel
theorem dX11_byPrime_235 : decode cX11_byPrime 235 = .ok (.iload 6, 2) := by decide +kernel
theorem dX11_byPrime_237 : decode cX11_byPrime 237 = .ok (.imul, 1) := by decide +kernel
theorem dX11_byPrime_238 : decode cX11_byPrime 238 = .ok (.iload 8, 2) := by decide +kernel
theorem dX11_byPrime_240 : decode cX11_byPrime 240 = .ok (.iadd, 1) := by decide +kernel
theorem dX11_byPrime_241 : decode cX11_byPrime 241 = .ok (.aload_n 0, 1) := by decide +kernel
theorem dX11_byPrime_242 : decode cX11_byPrime 242 = .ok (.getfield 110, 3) := by decide +kernel
theorem dX11_byPrime_245 : decode cX11_byPrime 245 = .ok (.bipush 21, 2) := by decide +kernel
theorem dX11_byPrime_247 : decode cX11_byPrime 247 = .ok (.iload 7, 2) := by decide +kernel
theorem dX11_byPrime_249 : decode cX11_byPrime 249 = .ok (.imul, 1) := by decide +kernel
theorem dX11_byPrime_250 : decode cX11_byPrime 250 = .ok (.iload 8, 2) := by decide +kernel
theorem dX11_byPrime_252 : decode cX11_byPrime 252 = .ok (.iadd, 1) := by decide +kernel
theorem dX11_byPrime_253 : decode cX11_byPrime 253 = .ok (.laload, 1) := by decide +kernel
theorem dX11_byPrime_254 : decode cX11_byPrime 254 = .ok (.lastore, 1) := by decide +kernel
theorem dX11_byPrime_255 : decode cX11_byPrime 255 = .ok (.aload_n 0, 1) := by decide +kernel
theorem dX11_byPrime_256 : decode cX11_byPrime 256 = .ok (.getfield 110, 3) := by decide +kernel
theorem dX11_byPrime_259 : decode cX11_byPrime 259 = .ok (.bipush 21, 2) := by decide +kernel
theorem dX11_byPrime_261 : decode cX11_byPrime 261 = .ok (.iload 7, 2) := by decide +kernel
theorem dX11_byPrime_263 : decode cX11_byPrime 263 = .ok (.imul, 1) := by decide +kernel
theorem dX11_byPrime_264 : decode cX11_byPrime 264 = .ok (.iload 8, 2) := by decide +kernel
theorem dX11_byPrime_266 : decode cX11_byPrime 266 = .ok (.iadd, 1) := by decide +kernel
theorem dX11_byPrime_267 : decode cX11_byPrime 267 = .ok (.lload 9, 2) := by decide +kernel
theorem dX11_byPrime_269 : decode cX11_byPrime 269 = .ok (.lastore, 1) := by decide +kernel
theorem dX11_byPrime_270 : decode cX11_byPrime 270 = .ok (.iinc 8 1, 3) := by decide +kernel
theorem dX11_byPrime_273 : decode cX11_byPrime 273 = .ok (.goto (-66), 3) := by decide +kernel
theorem dX11_byPrime_276 : decode cX11_byPrime 276 = .ok (.lload 4, 2) := by decide +kernel
theorem dX11_byPrime_278 : decode cX11_byPrime 278 = .ok (.aload_n 0, 1) := by decide +kernel
theorem dX11_byPrime_279 : decode cX11_byPrime 279 = .ok (.getfield 110, 3) := by decide +kernel
theorem dX11_byPrime_282 : decode cX11_byPrime 282 = .ok (.bipush 21, 2) := by decide +kernel
theorem dX11_byPrime_284 : decode cX11_byPrime 284 = .ok (.iload 6, 2) := by decide +kernel
theorem dX11_byPrime_286 : decode cX11_byPrime 286 = .ok (.imul, 1) := by decide +kernel
theorem dX11_byPrime_287 : decode cX11_byPrime 287 = .ok (.iload 6, 2) := by decide +kernel
theorem dX11_byPrime_289 : decode cX11_byPrime 289 = .ok (.iadd, 1) := by decide +kernel
theorem dX11_byPrime_290 : decode cX11_byPrime 290 = .ok (.laload, 1) := by decide +kernel
theorem dX11_byPrime_291 : decode cX11_byPrime 291 = .ok (.lmul, 1) := by decide +kernel
theorem dX11_byPrime_292 : decode cX11_byPrime 292 = .ok (.lload_n 1, 1) := by decide +kernel
theorem dX11_byPrime_293 : decode cX11_byPrime 293 = .ok (.lrem, 1) := by decide +kernel
theorem dX11_byPrime_294 : decode cX11_byPrime 294 = .ok (.lstore 4, 2) := by decide +kernel
theorem dX11_byPrime_296 : decode cX11_byPrime 296 = .ok (.aload_n 0, 1) := by decide +kernel
theorem dX11_byPrime_297 : decode cX11_byPrime 297 = .ok (.aload_n 0, 1) := by decide +kernel
theorem dX11_byPrime_298 : decode cX11_byPrime 298 = .ok (.getfield 110, 3) := by decide +kernel
theorem dX11_byPrime_301 : decode cX11_byPrime 301 = .ok (.bipush 21, 2) := by decide +kernel
theorem dX11_byPrime_303 : decode cX11_byPrime 303 = .ok (.iload 6, 2) := by decide +kernel
theorem dX11_byPrime_305 : decode cX11_byPrime 305 = .ok (.imul, 1) := by decide +kernel
theorem dX11_byPrime_306 : decode cX11_byPrime 306 = .ok (.iload 6, 2) := by decide +kernel
theorem dX11_byPrime_308 : decode cX11_byPrime 308 = .ok (.iadd, 1) := by decide +kernel
theorem dX11_byPrime_309 : decode cX11_byPrime 309 = .ok (.laload, 1) := by decide +kernel
theorem dX11_byPrime_310 : decode cX11_byPrime 310 = .ok (.lload_n 1, 1) := by decide +kernel
theorem dX11_byPrime_311 : decode cX11_byPrime 311 = .ok (.invokevirtual 234, 3) := by decide +kernel
theorem dX11_byPrime_314 : decode cX11_byPrime 314 = .ok (.lstore 8, 2) := by decide +kernel
theorem dX11_byPrime_316 : decode cX11_byPrime 316 = .ok (.iload 6, 2) := by decide +kernel
theorem dX11_byPrime_318 : decode cX11_byPrime 318 = .ok (.istore 10, 2) := by decide +kernel
theorem dX11_byPrime_320 : decode cX11_byPrime 320 = .ok (.iload 10, 2) := by decide +kernel
theorem dX11_byPrime_322 : decode cX11_byPrime 322 = .ok (.bipush 21, 2) := by decide +kernel
theorem dX11_byPrime_324 : decode cX11_byPrime 324 = .ok (.if_icmp .ge 40, 3) := by decide +kernel
theorem dX11_byPrime_327 : decode cX11_byPrime 327 = .ok (.aload_n 0, 1) := by decide +kernel
theorem dX11_byPrime_328 : decode cX11_byPrime 328 = .ok (.getfield 110, 3) := by decide +kernel
theorem dX11_byPrime_331 : decode cX11_byPrime 331 = .ok (.bipush 21, 2) := by decide +kernel
theorem dX11_byPrime_333 : decode cX11_byPrime 333 = .ok (.iload 6, 2) := by decide +kernel
theorem dX11_byPrime_335 : decode cX11_byPrime 335 = .ok (.imul, 1) := by decide +kernel
theorem dX11_byPrime_336 : decode cX11_byPrime 336 = .ok (.iload 10, 2) := by decide +kernel
theorem dX11_byPrime_338 : decode cX11_byPrime 338 = .ok (.iadd, 1) := by decide +kernel
theorem dX11_byPrime_339 : decode cX11_byPrime 339 = .ok (.aload_n 0, 1) := by decide +kernel
theorem dX11_byPrime_340 : decode cX11_byPrime 340 = .ok (.getfield 110, 3) := by decide +kernel
theorem dX11_byPrime_343 : decode cX11_byPrime 343 = .ok (.bipush 21, 2) := by decide +kernel
theorem dX11_byPrime_345 : decode cX11_byPrime 345 = .ok (.iload 6, 2) := by decide +kernel
theorem dX11_byPrime_347 : decode cX11_byPrime 347 = .ok (.imul, 1) := by decide +kernel
theorem dX11_byPrime_348 : decode cX11_byPrime 348 = .ok (.iload 10, 2) := by decide +kernel
theorem dX11_byPrime_350 : decode cX11_byPrime 350 = .ok (.iadd, 1) := by decide +kernel
theorem dX11_byPrime_351 : decode cX11_byPrime 351 = .ok (.laload, 1) := by decide +kernel
theorem dX11_byPrime_352 : decode cX11_byPrime 352 = .ok (.lload 8, 2) := by decide +kernel
theorem dX11_byPrime_354 : decode cX11_byPrime 354 = .ok (.lmul, 1) := by decide +kernel
theorem dX11_byPrime_355 : decode cX11_byPrime 355 = .ok (.lload_n 1, 1) := by decide +kernel
theorem dX11_byPrime_356 : decode cX11_byPrime 356 = .ok (.lrem, 1) := by decide +kernel
theorem dX11_byPrime_357 : decode cX11_byPrime 357 = .ok (.lastore, 1) := by decide +kernel
theorem dX11_byPrime_358 : decode cX11_byPrime 358 = .ok (.iinc 10 1, 3) := by decide +kernel
theorem dX11_byPrime_361 : decode cX11_byPrime 361 = .ok (.goto (-41), 3) := by decide +kernel
theorem dX11_byPrime_364 : decode cX11_byPrime 364 = .ok (.iconst 0, 1) := by decide +kernel
theorem dX11_byPrime_365 : decode cX11_byPrime 365 = .ok (.istore 10, 2) := by decide +kernel
theorem dX11_byPrime_367 : decode cX11_byPrime 367 = .ok (.iload 10, 2) := by decide +kernel
theorem dX11_byPrime_369 : decode cX11_byPrime 369 = .ok (.iload_n 3, 1) := by decide +kernel
theorem dX11_byPrime_370 : decode cX11_byPrime 370 = .ok (.if_icmp .ge 105, 3) := by decide +kernel
theorem dX11_byPrime_373 : decode cX11_byPrime 373 = .ok (.aload_n 0, 1) := by decide +kernel
theorem dX11_byPrime_374 : decode cX11_byPrime 374 = .ok (.getfield 110, 3) := by decide +kernel
theorem dX11_byPrime_377 : decode cX11_byPrime 377 = .ok (.bipush 21, 2) := by decide +kernel
theorem dX11_byPrime_379 : decode cX11_byPrime 379 = .ok (.iload 10, 2) := by decide +kernel
theorem dX11_byPrime_381 : decode cX11_byPrime 381 = .ok (.imul, 1) := by decide +kernel
theorem dX11_byPrime_382 : decode cX11_byPrime 382 = .ok (.iload 6, 2) := by decide +kernel
theorem dX11_byPrime_384 : decode cX11_byPrime 384 = .ok (.iadd, 1) := by decide +kernel
theorem dX11_byPrime_385 : decode cX11_byPrime 385 = .ok (.laload, 1) := by decide +kernel
theorem dX11_byPrime_386 : decode cX11_byPrime 386 = .ok (.lstore 11, 2) := by decide +kernel
theorem dX11_byPrime_388 : decode cX11_byPrime 388 = .ok (.iload 6, 2) := by decide +kernel
theorem dX11_byPrime_390 : decode cX11_byPrime 390 = .ok (.istore 13, 2) := by decide +kernel
theorem dX11_byPrime_392 : decode cX11_byPrime 392 = .ok (.iload 13, 2) := by decide +kernel
theorem dX11_byPrime_394 : decode cX11_byPrime 394 = .ok (.bipush 21, 2) := by decide +kernel
theorem dX11_byPrime_396 : decode cX11_byPrime 396 = .ok (.if_icmp .ge 73, 3) := by decide +kernel
theorem dX11_byPrime_399 : decode cX11_byPrime 399 = .ok (.iload 10, 2) := by decide +kernel
theorem dX11_byPrime_401 : decode cX11_byPrime 401 = .ok (.iload 6, 2) := by decide +kernel
theorem dX11_byPrime_403 : decode cX11_byPrime 403 = .ok (.if_icmp .eq 66, 3) := by decide +kernel
theorem dX11_byPrime_406 : decode cX11_byPrime 406 = .ok (.lload 11, 2) := by decide +kernel
theorem dX11_byPrime_408 : decode cX11_byPrime 408 = .ok (.lconst 0, 1) := by decide +kernel
theorem dX11_byPrime_409 : decode cX11_byPrime 409 = .ok (.lcmp, 1) := by decide +kernel
theorem dX11_byPrime_410 : decode cX11_byPrime 410 = .ok (.ifCond .eq 59, 3) := by decide +kernel
theorem dX11_byPrime_413 : decode cX11_byPrime 413 = .ok (.aload_n 0, 1) := by decide +kernel
theorem dX11_byPrime_414 : decode cX11_byPrime 414 = .ok (.getfield 110, 3) := by decide +kernel
theorem dX11_byPrime_417 : decode cX11_byPrime 417 = .ok (.bipush 21, 2) := by decide +kernel
theorem dX11_byPrime_419 : decode cX11_byPrime 419 = .ok (.iload 10, 2) := by decide +kernel
theorem dX11_byPrime_421 : decode cX11_byPrime 421 = .ok (.imul, 1) := by decide +kernel
theorem dX11_byPrime_422 : decode cX11_byPrime 422 = .ok (.iload 13, 2) := by decide +kernel
theorem dX11_byPrime_424 : decode cX11_byPrime 424 = .ok (.iadd, 1) := by decide +kernel
theorem dX11_byPrime_425 : decode cX11_byPrime 425 = .ok (.aload_n 0, 1) := by decide +kernel
theorem dX11_byPrime_426 : decode cX11_byPrime 426 = .ok (.aload_n 0, 1) := by decide +kernel
theorem dX11_byPrime_427 : decode cX11_byPrime 427 = .ok (.getfield 110, 3) := by decide +kernel
theorem dX11_byPrime_430 : decode cX11_byPrime 430 = .ok (.bipush 21, 2) := by decide +kernel
theorem dX11_byPrime_432 : decode cX11_byPrime 432 = .ok (.iload 10, 2) := by decide +kernel
theorem dX11_byPrime_434 : decode cX11_byPrime 434 = .ok (.imul, 1) := by decide +kernel
theorem dX11_byPrime_435 : decode cX11_byPrime 435 = .ok (.iload 13, 2) := by decide +kernel
theorem dX11_byPrime_437 : decode cX11_byPrime 437 = .ok (.iadd, 1) := by decide +kernel
theorem dX11_byPrime_438 : decode cX11_byPrime 438 = .ok (.laload, 1) := by decide +kernel
theorem dX11_byPrime_439 : decode cX11_byPrime 439 = .ok (.lload 11, 2) := by decide +kernel
theorem dX11_byPrime_441 : decode cX11_byPrime 441 = .ok (.aload_n 0, 1) := by decide +kernel
theorem dX11_byPrime_442 : decode cX11_byPrime 442 = .ok (.getfield 110, 3) := by decide +kernel
theorem dX11_byPrime_445 : decode cX11_byPrime 445 = .ok (.bipush 21, 2) := by decide +kernel
theorem dX11_byPrime_447 : decode cX11_byPrime 447 = .ok (.iload 6, 2) := by decide +kernel
theorem dX11_byPrime_449 : decode cX11_byPrime 449 = .ok (.imul, 1) := by decide +kernel
theorem dX11_byPrime_450 : decode cX11_byPrime 450 = .ok (.iload 13, 2) := by decide +kernel
theorem dX11_byPrime_452 : decode cX11_byPrime 452 = .ok (.iadd, 1) := by decide +kernel
theorem dX11_byPrime_453 : decode cX11_byPrime 453 = .ok (.laload, 1) := by decide +kernel
theorem dX11_byPrime_454 : decode cX11_byPrime 454 = .ok (.lmul, 1) := by decide +kernel
theorem dX11_byPrime_455 : decode cX11_byPrime 455 = .ok (.lload_n 1, 1) := by decide +kernel
theorem dX11_byPrime_456 : decode cX11_byPrime 456 = .ok (.lrem, 1) := by decide +kernel
theorem dX11_byPrime_457 : decode cX11_byPrime 457 = .ok (.lsub, 1) := by decide +kernel
theorem dX11_byPrime_458 : decode cX11_byPrime 458 = .ok (.lload_n 1, 1) := by decide +kernel
theorem dX11_byPrime_459 : decode cX11_byPrime 459 = .ok (.invokevirtual 230, 3) := by decide +kernel
theorem dX11_byPrime_462 : decode cX11_byPrime 462 = .ok (.lastore, 1) := by decide +kernel
theorem dX11_byPrime_463 : decode cX11_byPrime 463 = .ok (.iinc 13 1, 3) := by decide +kernel
theorem dX11_byPrime_466 : decode cX11_byPrime 466 = .ok (.goto (-74), 3) := by decide +kernel
theorem dX11_byPrime_469 : decode cX11_byPrime 469 = .ok (.iinc 10 1, 3) := by decide +kernel
theorem dX11_byPrime_472 : decode cX11_byPrime 472 = .ok (.goto (-105), 3) := by decide +kernel
theorem dX11_byPrime_475 : decode cX11_byPrime 475 = .ok (.iinc 6 1, 3) := by decide +kernel
theorem dX11_byPrime_478 : decode cX11_byPrime 478 = .ok (.goto (-335), 3) := by decide +kernel
theorem dX11_byPrime_481 : decode cX11_byPrime 481 = .ok (.aload_n 0, 1) := by decide +kernel
theorem dX11_byPrime_482 : decode cX11_byPrime 482 = .ok (.getfield 104, 3) := by decide +kernel
theorem dX11_byPrime_485 : decode cX11_byPrime 485 = .ok (.aload_n 0, 1) := by decide +kernel
theorem dX11_byPrime_486 : decode cX11_byPrime 486 = .ok (.getfield 237, 3) := by decide +kernel
theorem dX11_byPrime_489 : decode cX11_byPrime 489 = .ok (.lload_n 1, 1) := by decide +kernel
theorem dX11_byPrime_490 : decode cX11_byPrime 490 = .ok (.lastore, 1) := by decide +kernel
theorem dX11_byPrime_491 : decode cX11_byPrime 491 = .ok (.aload_n 0, 1) := by decide +kernel
theorem dX11_byPrime_492 : decode cX11_byPrime 492 = .ok (.aload_n 0, 1) := by decide +kernel
theorem dX11_byPrime_493 : decode cX11_byPrime 493 = .ok (.getfield 209, 3) := by decide +kernel
theorem dX11_byPrime_496 : decode cX11_byPrime 496 = .ok (.lload_n 1, 1) := by decide +kernel
theorem dX11_byPrime_497 : decode cX11_byPrime 497 = .ok (.invokevirtual 230, 3) := by decide +kernel
theorem dX11_byPrime_500 : decode cX11_byPrime 500 = .ok (.lload 4, 2) := by decide +kernel
theorem dX11_byPrime_502 : decode cX11_byPrime 502 = .ok (.lmul, 1) := by decide +kernel
theorem dX11_byPrime_503 : decode cX11_byPrime 503 = .ok (.lload_n 1, 1) := by decide +kernel
theorem dX11_byPrime_504 : decode cX11_byPrime 504 = .ok (.lrem, 1) := by decide +kernel
theorem dX11_byPrime_505 : decode cX11_byPrime 505 = .ok (.lstore 6, 2) := by decide +kernel
theorem dX11_byPrime_507 : decode cX11_byPrime 507 = .ok (.iconst 0, 1) := by decide +kernel
theorem dX11_byPrime_508 : decode cX11_byPrime 508 = .ok (.istore 8, 2) := by decide +kernel
theorem dX11_byPrime_510 : decode cX11_byPrime 510 = .ok (.iload 8, 2) := by decide +kernel
theorem dX11_byPrime_512 : decode cX11_byPrime 512 = .ok (.iload_n 3, 1) := by decide +kernel
theorem dX11_byPrime_513 : decode cX11_byPrime 513 = .ok (.if_icmp .ge 73, 3) := by decide +kernel
theorem dX11_byPrime_516 : decode cX11_byPrime 516 = .ok (.aload_n 0, 1) := by decide +kernel
theorem dX11_byPrime_517 : decode cX11_byPrime 517 = .ok (.getfield 110, 3) := by decide +kernel
theorem dX11_byPrime_520 : decode cX11_byPrime 520 = .ok (.bipush 21, 2) := by decide +kernel
theorem dX11_byPrime_522 : decode cX11_byPrime 522 = .ok (.iload 8, 2) := by decide +kernel
theorem dX11_byPrime_524 : decode cX11_byPrime 524 = .ok (.imul, 1) := by decide +kernel
theorem dX11_byPrime_525 : decode cX11_byPrime 525 = .ok (.bipush 20, 2) := by decide +kernel
theorem dX11_byPrime_527 : decode cX11_byPrime 527 = .ok (.iadd, 1) := by decide +kernel
theorem dX11_byPrime_528 : decode cX11_byPrime 528 = .ok (.laload, 1) := by decide +kernel
theorem dX11_byPrime_529 : decode cX11_byPrime 529 = .ok (.lload 4, 2) := by decide +kernel
theorem dX11_byPrime_531 : decode cX11_byPrime 531 = .ok (.lmul, 1) := by decide +kernel
theorem dX11_byPrime_532 : decode cX11_byPrime 532 = .ok (.lload_n 1, 1) := by decide +kernel
theorem dX11_byPrime_533 : decode cX11_byPrime 533 = .ok (.lrem, 1) := by decide +kernel
theorem dX11_byPrime_534 : decode cX11_byPrime 534 = .ok (.lstore 9, 2) := by decide +kernel
theorem dX11_byPrime_536 : decode cX11_byPrime 536 = .ok (.aload_n 0, 1) := by decide +kernel
theorem dX11_byPrime_537 : decode cX11_byPrime 537 = .ok (.getfield 107, 3) := by decide +kernel
theorem dX11_byPrime_540 : decode cX11_byPrime 540 = .ok (.bipush 22, 2) := by decide +kernel
theorem dX11_byPrime_542 : decode cX11_byPrime 542 = .ok (.aload_n 0, 1) := by decide +kernel
theorem dX11_byPrime_543 : decode cX11_byPrime 543 = .ok (.getfield 237, 3) := by decide +kernel
theorem dX11_byPrime_546 : decode cX11_byPrime 546 = .ok (.imul, 1) := by decide +kernel
theorem dX11_byPrime_547 : decode cX11_byPrime 547 = .ok (.iload 8, 2) := by decide +kernel
theorem dX11_byPrime_549 : decode cX11_byPrime 549 = .ok (.iadd, 1) := by decide +kernel
theorem dX11_byPrime_550 : decode cX11_byPrime 550 = .ok (.lload 9, 2) := by decide +kernel
theorem dX11_byPrime_552 : decode cX11_byPrime 552 = .ok (.lastore, 1) := by decide +kernel
theorem dX11_byPrime_553 : decode cX11_byPrime 553 = .ok (.aload_n 0, 1) := by decide +kernel
theorem dX11_byPrime_554 : decode cX11_byPrime 554 = .ok (.lload 6, 2) := by decide +kernel
theorem dX11_byPrime_556 : decode cX11_byPrime 556 = .ok (.aload_n 0, 1) := by decide +kernel
theorem dX11_byPrime_557 : decode cX11_byPrime 557 = .ok (.aload_n 0, 1) := by decide +kernel
theorem dX11_byPrime_558 : decode cX11_byPrime 558 = .ok (.getfield 89, 3) := by decide +kernel
theorem dX11_byPrime_561 : decode cX11_byPrime 561 = .ok (.iload 8, 2) := by decide +kernel
theorem dX11_byPrime_563 : decode cX11_byPrime 563 = .ok (.laload, 1) := by decide +kernel
theorem dX11_byPrime_564 : decode cX11_byPrime 564 = .ok (.lload_n 1, 1) := by decide +kernel
theorem dX11_byPrime_565 : decode cX11_byPrime 565 = .ok (.invokevirtual 230, 3) := by decide +kernel
theorem dX11_byPrime_568 : decode cX11_byPrime 568 = .ok (.lload 9, 2) := by decide +kernel
theorem dX11_byPrime_570 : decode cX11_byPrime 570 = .ok (.lmul, 1) := by decide +kernel
theorem dX11_byPrime_571 : decode cX11_byPrime 571 = .ok (.lload_n 1, 1) := by decide +kernel
theorem dX11_byPrime_572 : decode cX11_byPrime 572 = .ok (.lrem, 1) := by decide +kernel
theorem dX11_byPrime_573 : decode cX11_byPrime 573 = .ok (.lsub, 1) := by decide +kernel
theorem dX11_byPrime_574 : decode cX11_byPrime 574 = .ok (.lload_n 1, 1) := by decide +kernel
theorem dX11_byPrime_575 : decode cX11_byPrime 575 = .ok (.invokevirtual 230, 3) := by decide +kernel
theorem dX11_byPrime_578 : decode cX11_byPrime 578 = .ok (.lstore 6, 2) := by decide +kernel
theorem dX11_byPrime_580 : decode cX11_byPrime 580 = .ok (.iinc 8 1, 3) := by decide +kernel
theorem dX11_byPrime_583 : decode cX11_byPrime 583 = .ok (.goto (-73), 3) := by decide +kernel
theorem dX11_byPrime_586 : decode cX11_byPrime 586 = .ok (.aload_n 0, 1) := by decide +kernel
theorem dX11_byPrime_587 : decode cX11_byPrime 587 = .ok (.getfield 107, 3) := by decide +kernel
theorem dX11_byPrime_590 : decode cX11_byPrime 590 = .ok (.bipush 22, 2) := by decide +kernel
theorem dX11_byPrime_592 : decode cX11_byPrime 592 = .ok (.aload_n 0, 1) := by decide +kernel
theorem dX11_byPrime_593 : decode cX11_byPrime 593 = .ok (.getfield 237, 3) := by decide +kernel
theorem dX11_byPrime_596 : decode cX11_byPrime 596 = .ok (.imul, 1) := by decide +kernel
theorem dX11_byPrime_597 : decode cX11_byPrime 597 = .ok (.bipush 20, 2) := by decide +kernel
theorem dX11_byPrime_599 : decode cX11_byPrime 599 = .ok (.iadd, 1) := by decide +kernel
theorem dX11_byPrime_600 : decode cX11_byPrime 600 = .ok (.lload 4, 2) := by decide +kernel
theorem dX11_byPrime_602 : decode cX11_byPrime 602 = .ok (.lastore, 1) := by decide +kernel
theorem dX11_byPrime_603 : decode cX11_byPrime 603 = .ok (.aload_n 0, 1) := by decide +kernel
theorem dX11_byPrime_604 : decode cX11_byPrime 604 = .ok (.getfield 107, 3) := by decide +kernel
theorem dX11_byPrime_607 : decode cX11_byPrime 607 = .ok (.bipush 22, 2) := by decide +kernel
theorem dX11_byPrime_609 : decode cX11_byPrime 609 = .ok (.aload_n 0, 1) := by decide +kernel
theorem dX11_byPrime_610 : decode cX11_byPrime 610 = .ok (.getfield 237, 3) := by decide +kernel
theorem dX11_byPrime_613 : decode cX11_byPrime 613 = .ok (.imul, 1) := by decide +kernel
theorem dX11_byPrime_614 : decode cX11_byPrime 614 = .ok (.bipush 21, 2) := by decide +kernel
theorem dX11_byPrime_616 : decode cX11_byPrime 616 = .ok (.iadd, 1) := by decide +kernel
theorem dX11_byPrime_617 : decode cX11_byPrime 617 = .ok (.lload 6, 2) := by decide +kernel
theorem dX11_byPrime_619 : decode cX11_byPrime 619 = .ok (.lastore, 1) := by decide +kernel
theorem dX11_byPrime_620 : decode cX11_byPrime 620 = .ok (.aload_n 0, 1) := by decide +kernel
theorem dX11_byPrime_621 : decode cX11_byPrime 621 = .ok (.dup, 1) := by decide +kernel
theorem dX11_byPrime_622 : decode cX11_byPrime 622 = .ok (.getfield 237, 3) := by decide +kernel
theorem dX11_byPrime_625 : decode cX11_byPrime 625 = .ok (.iconst 1, 1) := by decide +kernel
theorem dX11_byPrime_626 : decode cX11_byPrime 626 = .ok (.iadd, 1) := by decide +kernel
theorem dX11_byPrime_627 : decode cX11_byPrime 627 = .ok (.putfield 237, 3) := by decide +kernel
theorem dX11_byPrime_630 : decode cX11_byPrime 630 = .ok (.iconst 1, 1) := by decide +kernel
theorem dX11_byPrime_631 : decode cX11_byPrime 631 = .ok (.ireturn, 1) := by decide +kernel
theorem dX11_solve_0 : decode cX11_solve 0 = .ok (.aload_n 0, 1) := by decide +kernel
theorem dX11_solve_1 : decode cX11_solve 1 = .ok (.getfield 143, 3) := by decide +kernel
theorem dX11_solve_4 : decode cX11_solve 4 = .ok (.ifCond .ne 6, 3) := by decide +kernel
theorem dX11_solve_7 : decode cX11_solve 7 = .ok (.bipush (-2), 2) := by decide +kernel
theorem dX11_solve_9 : decode cX11_solve 9 = .ok (.ireturn, 1) := by decide +kernel
theorem dX11_solve_10 : decode cX11_solve 10 = .ok (.aload_n 0, 1) := by decide +kernel
theorem dX11_solve_11 : decode cX11_solve 11 = .ok (.getfield 160, 3) := by decide +kernel
theorem dX11_solve_14 : decode cX11_solve 14 = .ok (.bipush 20, 2) := by decide +kernel
theorem dX11_solve_16 : decode cX11_solve 16 = .ok (.if_icmp .le 6, 3) := by decide +kernel
theorem dX11_solve_19 : decode cX11_solve 19 = .ok (.bipush (-3), 2) := by decide +kernel
theorem dX11_solve_21 : decode cX11_solve 21 = .ok (.ireturn, 1) := by decide +kernel
theorem dX11_solve_22 : decode cX11_solve 22 = .ok (.aload_n 0, 1) := by decide +kernel
theorem dX11_solve_23 : decode cX11_solve 23 = .ok (.invokevirtual 240, 3) := by decide +kernel
theorem dX11_solve_26 : decode cX11_solve 26 = .ok (.aload_n 0, 1) := by decide +kernel
theorem dX11_solve_27 : decode cX11_solve 27 = .ok (.iconst 0, 1) := by decide +kernel
theorem dX11_solve_28 : decode cX11_solve 28 = .ok (.putfield 243, 3) := by decide +kernel
theorem dX11_solve_31 : decode cX11_solve 31 = .ok (.iconst 0, 1) := by decide +kernel
theorem dX11_solve_32 : decode cX11_solve 32 = .ok (.istore_n 1, 1) := by decide +kernel
theorem dX11_solve_33 : decode cX11_solve 33 = .ok (.iload_n 1, 1) := by decide +kernel
theorem dX11_solve_34 : decode cX11_solve 34 = .ok (.aload_n 0, 1) := by decide +kernel
theorem dX11_solve_35 : decode cX11_solve 35 = .ok (.getfield 160, 3) := by decide +kernel
theorem dX11_solve_38 : decode cX11_solve 38 = .ok (.if_icmp .ge 86, 3) := by decide +kernel
theorem dX11_solve_41 : decode cX11_solve 41 = .ok (.aload_n 0, 1) := by decide +kernel
theorem dX11_solve_42 : decode cX11_solve 42 = .ok (.getfield 48, 3) := by decide +kernel
theorem dX11_solve_45 : decode cX11_solve 45 = .ok (.iconst 4, 1) := by decide +kernel
theorem dX11_solve_46 : decode cX11_solve 46 = .ok (.iaload, 1) := by decide +kernel
theorem dX11_solve_47 : decode cX11_solve 47 = .ok (.ifCond .ne 77, 3) := by decide +kernel
theorem dX11_solve_50 : decode cX11_solve 50 = .ok (.iconst 1, 1) := by decide +kernel
theorem dX11_solve_51 : decode cX11_solve 51 = .ok (.istore_n 2, 1) := by decide +kernel
theorem dX11_solve_52 : decode cX11_solve 52 = .ok (.iload_n 1, 1) := by decide +kernel
theorem dX11_solve_53 : decode cX11_solve 53 = .ok (.iconst 1, 1) := by decide +kernel
theorem dX11_solve_54 : decode cX11_solve 54 = .ok (.iadd, 1) := by decide +kernel
theorem dX11_solve_55 : decode cX11_solve 55 = .ok (.istore_n 3, 1) := by decide +kernel
theorem dX11_solve_56 : decode cX11_solve 56 = .ok (.iload_n 3, 1) := by decide +kernel
theorem dX11_solve_57 : decode cX11_solve 57 = .ok (.aload_n 0, 1) := by decide +kernel
theorem dX11_solve_58 : decode cX11_solve 58 = .ok (.getfield 160, 3) := by decide +kernel
theorem dX11_solve_61 : decode cX11_solve 61 = .ok (.if_icmp .ge 32, 3) := by decide +kernel
theorem dX11_solve_64 : decode cX11_solve 64 = .ok (.iload_n 2, 1) := by decide +kernel
theorem dX11_solve_65 : decode cX11_solve 65 = .ok (.aload_n 0, 1) := by decide +kernel
theorem dX11_solve_66 : decode cX11_solve 66 = .ok (.getfield 95, 3) := by decide +kernel
theorem dX11_solve_69 : decode cX11_solve 69 = .ok (.iload_n 3, 1) := by decide +kernel
theorem dX11_solve_70 : decode cX11_solve 70 = .ok (.iaload, 1) := by decide +kernel
theorem dX11_solve_71 : decode cX11_solve 71 = .ok (.aload_n 0, 1) := by decide +kernel
theorem dX11_solve_72 : decode cX11_solve 72 = .ok (.getfield 95, 3) := by decide +kernel
theorem dX11_solve_75 : decode cX11_solve 75 = .ok (.iload_n 1, 1) := by decide +kernel
theorem dX11_solve_76 : decode cX11_solve 76 = .ok (.iaload, 1) := by decide +kernel
theorem dX11_solve_77 : decode cX11_solve 77 = .ok (.if_icmp .eq 7, 3) := by decide +kernel
theorem dX11_solve_80 : decode cX11_solve 80 = .ok (.iconst 1, 1) := by decide +kernel
theorem dX11_solve_81 : decode cX11_solve 81 = .ok (.goto 4, 3) := by decide +kernel
theorem dX11_solve_84 : decode cX11_solve 84 = .ok (.iconst 0, 1) := by decide +kernel
theorem dX11_solve_85 : decode cX11_solve 85 = .ok (.iand, 1) := by decide +kernel
theorem dX11_solve_86 : decode cX11_solve 86 = .ok (.istore_n 2, 1) := by decide +kernel
theorem dX11_solve_87 : decode cX11_solve 87 = .ok (.iinc 3 1, 3) := by decide +kernel
theorem dX11_solve_90 : decode cX11_solve 90 = .ok (.goto (-34), 3) := by decide +kernel
theorem dX11_solve_93 : decode cX11_solve 93 = .ok (.aload_n 0, 1) := by decide +kernel
theorem dX11_solve_94 : decode cX11_solve 94 = .ok (.getfield 98, 3) := by decide +kernel
theorem dX11_solve_97 : decode cX11_solve 97 = .ok (.iload_n 1, 1) := by decide +kernel
theorem dX11_solve_98 : decode cX11_solve 98 = .ok (.iload_n 2, 1) := by decide +kernel
theorem dX11_solve_99 : decode cX11_solve 99 = .ok (.bastore, 1) := by decide +kernel
theorem dX11_solve_100 : decode cX11_solve 100 = .ok (.aload_n 0, 1) := by decide +kernel
theorem dX11_solve_101 : decode cX11_solve 101 = .ok (.dup, 1) := by decide +kernel
theorem dX11_solve_102 : decode cX11_solve 102 = .ok (.getfield 243, 3) := by decide +kernel
theorem dX11_solve_105 : decode cX11_solve 105 = .ok (.iload_n 2, 1) := by decide +kernel
theorem dX11_solve_106 : decode cX11_solve 106 = .ok (.ifCond .eq 7, 3) := by decide +kernel
theorem dX11_solve_109 : decode cX11_solve 109 = .ok (.iconst 1, 1) := by decide +kernel
theorem dX11_solve_110 : decode cX11_solve 110 = .ok (.goto 4, 3) := by decide +kernel
theorem dX11_solve_113 : decode cX11_solve 113 = .ok (.iconst 0, 1) := by decide +kernel
theorem dX11_solve_114 : decode cX11_solve 114 = .ok (.iadd, 1) := by decide +kernel
theorem dX11_solve_115 : decode cX11_solve 115 = .ok (.putfield 243, 3) := by decide +kernel
theorem dX11_solve_118 : decode cX11_solve 118 = .ok (.iinc 1 1, 3) := by decide +kernel
theorem dX11_solve_121 : decode cX11_solve 121 = .ok (.goto (-88), 3) := by decide +kernel
theorem dX11_solve_124 : decode cX11_solve 124 = .ok (.aload_n 0, 1) := by decide +kernel
theorem dX11_solve_125 : decode cX11_solve 125 = .ok (.iconst 0, 1) := by decide +kernel
theorem dX11_solve_126 : decode cX11_solve 126 = .ok (.putfield 237, 3) := by decide +kernel
theorem dX11_solve_129 : decode cX11_solve 129 = .ok (.iconst 0, 1) := by decide +kernel
theorem dX11_solve_130 : decode cX11_solve 130 = .ok (.istore_n 1, 1) := by decide +kernel
theorem dX11_solve_131 : decode cX11_solve 131 = .ok (.aload_n 0, 1) := by decide +kernel
theorem dX11_solve_132 : decode cX11_solve 132 = .ok (.getfield 237, 3) := by decide +kernel
theorem dX11_solve_135 : decode cX11_solve 135 = .ok (.bipush 14, 2) := by decide +kernel
theorem dX11_solve_137 : decode cX11_solve 137 = .ok (.if_icmp .ge 51, 3) := by decide +kernel
theorem dX11_solve_140 : decode cX11_solve 140 = .ok (.iload_n 1, 1) := by decide +kernel
theorem dX11_solve_141 : decode cX11_solve 141 = .ok (.aload_n 0, 1) := by decide +kernel
theorem dX11_solve_142 : decode cX11_solve 142 = .ok (.getfield 217, 3) := by decide +kernel
theorem dX11_solve_145 : decode cX11_solve 145 = .ok (.if_icmp .ne 26, 3) := by decide +kernel
theorem dX11_solve_148 : decode cX11_solve 148 = .ok (.aload_n 0, 1) := by decide +kernel
theorem dX11_solve_149 : decode cX11_solve 149 = .ok (.getfield 101, 3) := by decide +kernel
theorem dX11_solve_152 : decode cX11_solve 152 = .ok (.aload_n 0, 1) := by decide +kernel
theorem dX11_solve_153 : decode cX11_solve 153 = .ok (.getfield 217, 3) := by decide +kernel
theorem dX11_solve_156 : decode cX11_solve 156 = .ok (.aload_n 0, 1) := by decide +kernel
theorem dX11_solve_157 : decode cX11_solve 157 = .ok (.invokevirtual 246, 3) := by decide +kernel
theorem dX11_solve_160 : decode cX11_solve 160 = .ok (.lastore, 1) := by decide +kernel
theorem dX11_solve_161 : decode cX11_solve 161 = .ok (.aload_n 0, 1) := by decide +kernel
theorem dX11_solve_162 : decode cX11_solve 162 = .ok (.dup, 1) := by decide +kernel
theorem dX11_solve_163 : decode cX11_solve 163 = .ok (.getfield 217, 3) := by decide +kernel
theorem dX11_solve_166 : decode cX11_solve 166 = .ok (.iconst 1, 1) := by decide +kernel
theorem dX11_solve_167 : decode cX11_solve 167 = .ok (.iadd, 1) := by decide +kernel
theorem dX11_solve_168 : decode cX11_solve 168 = .ok (.putfield 217, 3) := by decide +kernel
theorem dX11_solve_171 : decode cX11_solve 171 = .ok (.aload_n 0, 1) := by decide +kernel
theorem dX11_solve_172 : decode cX11_solve 172 = .ok (.aload_n 0, 1) := by decide +kernel
theorem dX11_solve_173 : decode cX11_solve 173 = .ok (.getfield 101, 3) := by decide +kernel
theorem dX11_solve_176 : decode cX11_solve 176 = .ok (.iload_n 1, 1) := by decide +kernel
theorem dX11_solve_177 : decode cX11_solve 177 = .ok (.laload, 1) := by decide +kernel
theorem dX11_solve_178 : decode cX11_solve 178 = .ok (.invokevirtual 250, 3) := by decide +kernel
theorem dX11_solve_181 : decode cX11_solve 181 = .ok (.istore_n 2, 1) := by decide +kernel
theorem dX11_solve_182 : decode cX11_solve 182 = .ok (.iinc 1 1, 3) := by decide +kernel
theorem dX11_solve_185 : decode cX11_solve 185 = .ok (.goto (-54), 3) := by decide +kernel
theorem dX11_solve_188 : decode cX11_solve 188 = .ok (.aload_n 0, 1) := by decide +kernel
theorem dX11_solve_189 : decode cX11_solve 189 = .ok (.iconst 1, 1) := by decide +kernel
theorem dX11_solve_190 : decode cX11_solve 190 = .ok (.putfield 147, 3) := by decide +kernel
theorem dX11_solve_193 : decode cX11_solve 193 = .ok (.aload_n 0, 1) := by decide +kernel
theorem dX11_solve_194 : decode cX11_solve 194 = .ok (.getfield 160, 3) := by decide +kernel
theorem dX11_solve_197 : decode cX11_solve 197 = .ok (.ireturn, 1) := by decide +kernel
theorem dX11_variable_0 : decode cX11_variable 0 = .ok (.aload_n 0, 1) := by decide +kernel
theorem dX11_variable_1 : decode cX11_variable 1 = .ok (.iload_n 1, 1) := by decide +kernel
theorem dX11_variable_2 : decode cX11_variable 2 = .ok (.iload_n 2, 1) := by decide +kernel
theorem dX11_variable_3 : decode cX11_variable 3 = .ok (.invokevirtual 192, 3) := by decide +kernel
theorem dX11_variable_6 : decode cX11_variable 6 = .ok (.ifCond .eq 17, 3) := by decide +kernel
theorem dX11_variable_9 : decode cX11_variable 9 = .ok (.aload_n 0, 1) := by decide +kernel
theorem dX11_variable_10 : decode cX11_variable 10 = .ok (.getfield 69, 3) := by decide +kernel
theorem dX11_variable_13 : decode cX11_variable 13 = .ok (.bipush 16, 2) := by decide +kernel
theorem dX11_variable_15 : decode cX11_variable 15 = .ok (.iload_n 1, 1) := by decide +kernel
theorem dX11_variable_16 : decode cX11_variable 16 = .ok (.imul, 1) := by decide +kernel
theorem dX11_variable_17 : decode cX11_variable 17 = .ok (.iload_n 2, 1) := by decide +kernel
theorem dX11_variable_18 : decode cX11_variable 18 = .ok (.iadd, 1) := by decide +kernel
theorem dX11_variable_19 : decode cX11_variable 19 = .ok (.iaload, 1) := by decide +kernel
theorem dX11_variable_20 : decode cX11_variable 20 = .ok (.goto 4, 3) := by decide +kernel
theorem dX11_variable_23 : decode cX11_variable 23 = .ok (.iconst (-1), 1) := by decide +kernel
theorem dX11_variable_24 : decode cX11_variable 24 = .ok (.ireturn, 1) := by decide +kernel
theorem dX11_loose_0 : decode cX11_loose 0 = .ok (.aload_n 0, 1) := by decide +kernel
theorem dX11_loose_1 : decode cX11_loose 1 = .ok (.getfield 147, 3) := by decide +kernel
theorem dX11_loose_4 : decode cX11_loose 4 = .ok (.ifCond .eq 10, 3) := by decide +kernel
theorem dX11_loose_7 : decode cX11_loose 7 = .ok (.aload_n 0, 1) := by decide +kernel
theorem dX11_loose_8 : decode cX11_loose 8 = .ok (.getfield 243, 3) := by decide +kernel
theorem dX11_loose_11 : decode cX11_loose 11 = .ok (.goto 5, 3) := by decide +kernel
theorem dX11_loose_14 : decode cX11_loose 14 = .ok (.bipush (-2), 2) := by decide +kernel
theorem dX11_loose_16 : decode cX11_loose 16 = .ok (.ireturn, 1) := by decide +kernel
theorem dX11_zero_0 : decode cX11_zero 0 = .ok (.iconst 0, 1) := by decide +kernel
theorem dX11_zero_1 : decode cX11_zero 1 = .ok (.istore_n 2, 1) := by decide +kernel
theorem dX11_zero_2 : decode cX11_zero 2 = .ok (.iload_n 2, 1) := by decide +kernel
theorem dX11_zero_3 : decode cX11_zero 3 = .ok (.bipush 18, 2) := by decide +kernel
theorem dX11_zero_5 : decode cX11_zero 5 = .ok (.if_icmp .ge 21, 3) := by decide +kernel
theorem dX11_zero_8 : decode cX11_zero 8 = .ok (.aload_n 0, 1) := by decide +kernel
theorem dX11_zero_9 : decode cX11_zero 9 = .ok (.getfield 113, 3) := by decide +kernel
theorem dX11_zero_12 : decode cX11_zero 12 = .ok (.bipush 18, 2) := by decide +kernel
theorem dX11_zero_14 : decode cX11_zero 14 = .ok (.iload_n 1, 1) := by decide +kernel
theorem dX11_zero_15 : decode cX11_zero 15 = .ok (.imul, 1) := by decide +kernel
theorem dX11_zero_16 : decode cX11_zero 16 = .ok (.iload_n 2, 1) := by decide +kernel
theorem dX11_zero_17 : decode cX11_zero 17 = .ok (.iadd, 1) := by decide +kernel
theorem dX11_zero_18 : decode cX11_zero 18 = .ok (.lconst 0, 1) := by decide +kernel
theorem dX11_zero_19 : decode cX11_zero 19 = .ok (.lastore, 1) := by decide +kernel
theorem dX11_zero_20 : decode cX11_zero 20 = .ok (.iinc 2 1, 3) := by decide +kernel
theorem dX11_zero_23 : decode cX11_zero 23 = .ok (.goto (-21), 3) := by decide +kernel
theorem dX11_zero_26 : decode cX11_zero 26 = .ok (.return_, 1) := by decide +kernel
theorem dX11_copy_0 : decode cX11_copy 0 = .ok (.iconst 0, 1) := by decide +kernel
theorem dX11_copy_1 : decode cX11_copy 1 = .ok (.istore_n 3, 1) := by decide +kernel
theorem dX11_copy_2 : decode cX11_copy 2 = .ok (.iload_n 3, 1) := by decide +kernel
theorem dX11_copy_3 : decode cX11_copy 3 = .ok (.bipush 18, 2) := by decide +kernel
theorem dX11_copy_5 : decode cX11_copy 5 = .ok (.if_icmp .ge 31, 3) := by decide +kernel
theorem dX11_copy_8 : decode cX11_copy 8 = .ok (.aload_n 0, 1) := by decide +kernel
theorem dX11_copy_9 : decode cX11_copy 9 = .ok (.getfield 113, 3) := by decide +kernel
theorem dX11_copy_12 : decode cX11_copy 12 = .ok (.bipush 18, 2) := by decide +kernel
theorem dX11_copy_14 : decode cX11_copy 14 = .ok (.iload_n 1, 1) := by decide +kernel
theorem dX11_copy_15 : decode cX11_copy 15 = .ok (.imul, 1) := by decide +kernel
theorem dX11_copy_16 : decode cX11_copy 16 = .ok (.iload_n 3, 1) := by decide +kernel
theorem dX11_copy_17 : decode cX11_copy 17 = .ok (.iadd, 1) := by decide +kernel
theorem dX11_copy_18 : decode cX11_copy 18 = .ok (.aload_n 0, 1) := by decide +kernel
theorem dX11_copy_19 : decode cX11_copy 19 = .ok (.getfield 113, 3) := by decide +kernel
theorem dX11_copy_22 : decode cX11_copy 22 = .ok (.bipush 18, 2) := by decide +kernel
theorem dX11_copy_24 : decode cX11_copy 24 = .ok (.iload_n 2, 1) := by decide +kernel
theorem dX11_copy_25 : decode cX11_copy 25 = .ok (.imul, 1) := by decide +kernel
theorem dX11_copy_26 : decode cX11_copy 26 = .ok (.iload_n 3, 1) := by decide +kernel
theorem dX11_copy_27 : decode cX11_copy 27 = .ok (.iadd, 1) := by decide +kernel
theorem dX11_copy_28 : decode cX11_copy 28 = .ok (.laload, 1) := by decide +kernel
theorem dX11_copy_29 : decode cX11_copy 29 = .ok (.lastore, 1) := by decide +kernel
theorem dX11_copy_30 : decode cX11_copy 30 = .ok (.iinc 3 1, 3) := by decide +kernel
theorem dX11_copy_33 : decode cX11_copy 33 = .ok (.goto (-31), 3) := by decide +kernel
theorem dX11_copy_36 : decode cX11_copy 36 = .ok (.return_, 1) := by decide +kernel
theorem dX11_step_0 : decode cX11_step 0 = .ok (.lload 4, 2) := by decide +kernel
theorem dX11_step_2 : decode cX11_step 2 = .ok (.lstore 6, 2) := by decide +kernel
theorem dX11_step_4 : decode cX11_step 4 = .ok (.iconst 0, 1) := by decide +kernel
theorem dX11_step_5 : decode cX11_step 5 = .ok (.istore 8, 2) := by decide +kernel
theorem dX11_step_7 : decode cX11_step 7 = .ok (.iload 8, 2) := by decide +kernel
theorem dX11_step_9 : decode cX11_step 9 = .ok (.bipush 18, 2) := by decide +kernel
theorem dX11_step_11 : decode cX11_step 11 = .ok (.if_icmp .ge 54, 3) := by decide +kernel
theorem dX11_step_14 : decode cX11_step 14 = .ok (.aload_n 0, 1) := by decide +kernel
theorem dX11_step_15 : decode cX11_step 15 = .ok (.getfield 113, 3) := by decide +kernel
theorem dX11_step_18 : decode cX11_step 18 = .ok (.bipush 18, 2) := by decide +kernel
theorem dX11_step_20 : decode cX11_step 20 = .ok (.iload_n 1, 1) := by decide +kernel
theorem dX11_step_21 : decode cX11_step 21 = .ok (.imul, 1) := by decide +kernel
theorem dX11_step_22 : decode cX11_step 22 = .ok (.iload 8, 2) := by decide +kernel
theorem dX11_step_24 : decode cX11_step 24 = .ok (.iadd, 1) := by decide +kernel
theorem dX11_step_25 : decode cX11_step 25 = .ok (.laload, 1) := by decide +kernel
theorem dX11_step_26 : decode cX11_step 26 = .ok (.lload_n 2, 1) := by decide +kernel
theorem dX11_step_27 : decode cX11_step 27 = .ok (.lmul, 1) := by decide +kernel
theorem dX11_step_28 : decode cX11_step 28 = .ok (.lload 6, 2) := by decide +kernel
theorem dX11_step_30 : decode cX11_step 30 = .ok (.ladd, 1) := by decide +kernel
theorem dX11_step_31 : decode cX11_step 31 = .ok (.lstore 9, 2) := by decide +kernel
theorem dX11_step_33 : decode cX11_step 33 = .ok (.aload_n 0, 1) := by decide +kernel
theorem dX11_step_34 : decode cX11_step 34 = .ok (.getfield 113, 3) := by decide +kernel
theorem dX11_step_37 : decode cX11_step 37 = .ok (.bipush 18, 2) := by decide +kernel
theorem dX11_step_39 : decode cX11_step 39 = .ok (.iload_n 1, 1) := by decide +kernel
theorem dX11_step_40 : decode cX11_step 40 = .ok (.imul, 1) := by decide +kernel
theorem dX11_step_41 : decode cX11_step 41 = .ok (.iload 8, 2) := by decide +kernel
theorem dX11_step_43 : decode cX11_step 43 = .ok (.iadd, 1) := by decide +kernel
theorem dX11_step_44 : decode cX11_step 44 = .ok (.lload 9, 2) := by decide +kernel
theorem dX11_step_46 : decode cX11_step 46 = .ok (.ldc2_w 253, 3) := by decide +kernel
theorem dX11_step_49 : decode cX11_step 49 = .ok (.lrem, 1) := by decide +kernel
theorem dX11_step_50 : decode cX11_step 50 = .ok (.lastore, 1) := by decide +kernel
theorem dX11_step_51 : decode cX11_step 51 = .ok (.lload 9, 2) := by decide +kernel
theorem dX11_step_53 : decode cX11_step 53 = .ok (.ldc2_w 253, 3) := by decide +kernel
theorem dX11_step_56 : decode cX11_step 56 = .ok (.ldiv, 1) := by decide +kernel
theorem dX11_step_57 : decode cX11_step 57 = .ok (.lstore 6, 2) := by decide +kernel
theorem dX11_step_59 : decode cX11_step 59 = .ok (.iinc 8 1, 3) := by decide +kernel
theorem dX11_step_62 : decode cX11_step 62 = .ok (.goto (-55), 3) := by decide +kernel
theorem dX11_step_65 : decode cX11_step 65 = .ok (.return_, 1) := by decide +kernel
theorem dX11_add_0 : decode cX11_add 0 = .ok (.lconst 0, 1) := by decide +kernel
theorem dX11_add_1 : decode cX11_add 1 = .ok (.lstore 5, 2) := by decide +kernel
theorem dX11_add_3 : decode cX11_add 3 = .ok (.iconst 0, 1) := by decide +kernel
theorem dX11_add_4 : decode cX11_add 4 = .ok (.istore 7, 2) := by decide +kernel
theorem dX11_add_6 : decode cX11_add 6 = .ok (.iload 7, 2) := by decide +kernel
theorem dX11_add_8 : decode cX11_add 8 = .ok (.bipush 18, 2) := by decide +kernel
theorem dX11_add_10 : decode cX11_add 10 = .ok (.if_icmp .ge 67, 3) := by decide +kernel
theorem dX11_add_13 : decode cX11_add 13 = .ok (.aload_n 0, 1) := by decide +kernel
theorem dX11_add_14 : decode cX11_add 14 = .ok (.getfield 113, 3) := by decide +kernel
theorem dX11_add_17 : decode cX11_add 17 = .ok (.bipush 18, 2) := by decide +kernel
theorem dX11_add_19 : decode cX11_add 19 = .ok (.iload_n 1, 1) := by decide +kernel
theorem dX11_add_20 : decode cX11_add 20 = .ok (.imul, 1) := by decide +kernel
theorem dX11_add_21 : decode cX11_add 21 = .ok (.iload 7, 2) := by decide +kernel
theorem dX11_add_23 : decode cX11_add 23 = .ok (.iadd, 1) := by decide +kernel
theorem dX11_add_24 : decode cX11_add 24 = .ok (.laload, 1) := by decide +kernel
theorem dX11_add_25 : decode cX11_add 25 = .ok (.aload_n 0, 1) := by decide +kernel
theorem dX11_add_26 : decode cX11_add 26 = .ok (.getfield 113, 3) := by decide +kernel
theorem dX11_add_29 : decode cX11_add 29 = .ok (.bipush 18, 2) := by decide +kernel
theorem dX11_add_31 : decode cX11_add 31 = .ok (.iload_n 2, 1) := by decide +kernel
theorem dX11_add_32 : decode cX11_add 32 = .ok (.imul, 1) := by decide +kernel
theorem dX11_add_33 : decode cX11_add 33 = .ok (.iload 7, 2) := by decide +kernel
theorem dX11_add_35 : decode cX11_add 35 = .ok (.iadd, 1) := by decide +kernel
theorem dX11_add_36 : decode cX11_add 36 = .ok (.laload, 1) := by decide +kernel
theorem dX11_add_37 : decode cX11_add 37 = .ok (.lload_n 3, 1) := by decide +kernel
theorem dX11_add_38 : decode cX11_add 38 = .ok (.lmul, 1) := by decide +kernel
theorem dX11_add_39 : decode cX11_add 39 = .ok (.ladd, 1) := by decide +kernel
theorem dX11_add_40 : decode cX11_add 40 = .ok (.lload 5, 2) := by decide +kernel
theorem dX11_add_42 : decode cX11_add 42 = .ok (.ladd, 1) := by decide +kernel
theorem dX11_add_43 : decode cX11_add 43 = .ok (.lstore 8, 2) := by decide +kernel
theorem dX11_add_45 : decode cX11_add 45 = .ok (.aload_n 0, 1) := by decide +kernel
theorem dX11_add_46 : decode cX11_add 46 = .ok (.getfield 113, 3) := by decide +kernel
theorem dX11_add_49 : decode cX11_add 49 = .ok (.bipush 18, 2) := by decide +kernel
theorem dX11_add_51 : decode cX11_add 51 = .ok (.iload_n 1, 1) := by decide +kernel
theorem dX11_add_52 : decode cX11_add 52 = .ok (.imul, 1) := by decide +kernel
theorem dX11_add_53 : decode cX11_add 53 = .ok (.iload 7, 2) := by decide +kernel
theorem dX11_add_55 : decode cX11_add 55 = .ok (.iadd, 1) := by decide +kernel
theorem dX11_add_56 : decode cX11_add 56 = .ok (.lload 8, 2) := by decide +kernel
theorem dX11_add_58 : decode cX11_add 58 = .ok (.ldc2_w 253, 3) := by decide +kernel
theorem dX11_add_61 : decode cX11_add 61 = .ok (.lrem, 1) := by decide +kernel
theorem dX11_add_62 : decode cX11_add 62 = .ok (.lastore, 1) := by decide +kernel
theorem dX11_add_63 : decode cX11_add 63 = .ok (.lload 8, 2) := by decide +kernel
theorem dX11_add_65 : decode cX11_add 65 = .ok (.ldc2_w 253, 3) := by decide +kernel
theorem dX11_add_68 : decode cX11_add 68 = .ok (.ldiv, 1) := by decide +kernel
theorem dX11_add_69 : decode cX11_add 69 = .ok (.lstore 5, 2) := by decide +kernel
theorem dX11_add_71 : decode cX11_add 71 = .ok (.iinc 7 1, 3) := by decide +kernel
theorem dX11_add_74 : decode cX11_add 74 = .ok (.goto (-68), 3) := by decide +kernel
theorem dX11_add_77 : decode cX11_add 77 = .ok (.return_, 1) := by decide +kernel
theorem dX11_less_0 : decode cX11_less 0 = .ok (.lconst 0, 1) := by decide +kernel
theorem dX11_less_1 : decode cX11_less 1 = .ok (.lstore_n 3, 1) := by decide +kernel
theorem dX11_less_2 : decode cX11_less 2 = .ok (.iconst 0, 1) := by decide +kernel
theorem dX11_less_3 : decode cX11_less 3 = .ok (.istore 5, 2) := by decide +kernel
theorem dX11_less_5 : decode cX11_less 5 = .ok (.iload 5, 2) := by decide +kernel
theorem dX11_less_7 : decode cX11_less 7 = .ok (.bipush 18, 2) := by decide +kernel
theorem dX11_less_9 : decode cX11_less 9 = .ok (.if_icmp .ge 71, 3) := by decide +kernel
theorem dX11_less_12 : decode cX11_less 12 = .ok (.aload_n 0, 1) := by decide +kernel
theorem dX11_less_13 : decode cX11_less 13 = .ok (.getfield 113, 3) := by decide +kernel
theorem dX11_less_16 : decode cX11_less 16 = .ok (.bipush 18, 2) := by decide +kernel
theorem dX11_less_18 : decode cX11_less 18 = .ok (.iload_n 1, 1) := by decide +kernel
theorem dX11_less_19 : decode cX11_less 19 = .ok (.imul, 1) := by decide +kernel
theorem dX11_less_20 : decode cX11_less 20 = .ok (.iload 5, 2) := by decide +kernel
theorem dX11_less_22 : decode cX11_less 22 = .ok (.iadd, 1) := by decide +kernel
theorem dX11_less_23 : decode cX11_less 23 = .ok (.laload, 1) := by decide +kernel
theorem dX11_less_24 : decode cX11_less 24 = .ok (.aload_n 0, 1) := by decide +kernel
theorem dX11_less_25 : decode cX11_less 25 = .ok (.getfield 113, 3) := by decide +kernel
theorem dX11_less_28 : decode cX11_less 28 = .ok (.bipush 18, 2) := by decide +kernel
theorem dX11_less_30 : decode cX11_less 30 = .ok (.iload_n 2, 1) := by decide +kernel
theorem dX11_less_31 : decode cX11_less 31 = .ok (.imul, 1) := by decide +kernel
theorem dX11_less_32 : decode cX11_less 32 = .ok (.iload 5, 2) := by decide +kernel
theorem dX11_less_34 : decode cX11_less 34 = .ok (.iadd, 1) := by decide +kernel
theorem dX11_less_35 : decode cX11_less 35 = .ok (.laload, 1) := by decide +kernel
theorem dX11_less_36 : decode cX11_less 36 = .ok (.lsub, 1) := by decide +kernel
theorem dX11_less_37 : decode cX11_less 37 = .ok (.lload_n 3, 1) := by decide +kernel
theorem dX11_less_38 : decode cX11_less 38 = .ok (.lsub, 1) := by decide +kernel
theorem dX11_less_39 : decode cX11_less 39 = .ok (.lstore 6, 2) := by decide +kernel
theorem dX11_less_41 : decode cX11_less 41 = .ok (.lload 6, 2) := by decide +kernel
theorem dX11_less_43 : decode cX11_less 43 = .ok (.lconst 0, 1) := by decide +kernel
theorem dX11_less_44 : decode cX11_less 44 = .ok (.lcmp, 1) := by decide +kernel
theorem dX11_less_45 : decode cX11_less 45 = .ok (.ifCond .ge 7, 3) := by decide +kernel
theorem dX11_less_48 : decode cX11_less 48 = .ok (.lconst 1, 1) := by decide +kernel
theorem dX11_less_49 : decode cX11_less 49 = .ok (.goto 4, 3) := by decide +kernel
theorem dX11_less_52 : decode cX11_less 52 = .ok (.lconst 0, 1) := by decide +kernel
theorem dX11_less_53 : decode cX11_less 53 = .ok (.lstore_n 3, 1) := by decide +kernel
theorem dX11_less_54 : decode cX11_less 54 = .ok (.aload_n 0, 1) := by decide +kernel
theorem dX11_less_55 : decode cX11_less 55 = .ok (.getfield 113, 3) := by decide +kernel
theorem dX11_less_58 : decode cX11_less 58 = .ok (.bipush 18, 2) := by decide +kernel
theorem dX11_less_60 : decode cX11_less 60 = .ok (.iload_n 1, 1) := by decide +kernel
theorem dX11_less_61 : decode cX11_less 61 = .ok (.imul, 1) := by decide +kernel
theorem dX11_less_62 : decode cX11_less 62 = .ok (.iload 5, 2) := by decide +kernel
theorem dX11_less_64 : decode cX11_less 64 = .ok (.iadd, 1) := by decide +kernel
theorem dX11_less_65 : decode cX11_less 65 = .ok (.lload 6, 2) := by decide +kernel
theorem dX11_less_67 : decode cX11_less 67 = .ok (.lload_n 3, 1) := by decide +kernel
theorem dX11_less_68 : decode cX11_less 68 = .ok (.ldc2_w 253, 3) := by decide +kernel
theorem dX11_less_71 : decode cX11_less 71 = .ok (.lmul, 1) := by decide +kernel
theorem dX11_less_72 : decode cX11_less 72 = .ok (.ladd, 1) := by decide +kernel
theorem dX11_less_73 : decode cX11_less 73 = .ok (.lastore, 1) := by decide +kernel
theorem dX11_less_74 : decode cX11_less 74 = .ok (.iinc 5 1, 3) := by decide +kernel
theorem dX11_less_77 : decode cX11_less 77 = .ok (.goto (-72), 3) := by decide +kernel
theorem dX11_less_80 : decode cX11_less 80 = .ok (.return_, 1) := by decide +kernel
theorem dX11_compare_0 : decode cX11_compare 0 = .ok (.bipush 17, 2) := by decide +kernel
theorem dX11_compare_2 : decode cX11_compare 2 = .ok (.istore_n 3, 1) := by decide +kernel
theorem dX11_compare_3 : decode cX11_compare 3 = .ok (.iload_n 3, 1) := by decide +kernel
theorem dX11_compare_4 : decode cX11_compare 4 = .ok (.ifCond .lt 54, 3) := by decide +kernel
theorem dX11_compare_7 : decode cX11_compare 7 = .ok (.aload_n 0, 1) := by decide +kernel
theorem dX11_compare_8 : decode cX11_compare 8 = .ok (.getfield 113, 3) := by decide +kernel
theorem dX11_compare_11 : decode cX11_compare 11 = .ok (.bipush 18, 2) := by decide +kernel
theorem dX11_compare_13 : decode cX11_compare 13 = .ok (.iload_n 1, 1) := by decide +kernel
theorem dX11_compare_14 : decode cX11_compare 14 = .ok (.imul, 1) := by decide +kernel
theorem dX11_compare_15 : decode cX11_compare 15 = .ok (.iload_n 3, 1) := by decide +kernel
theorem dX11_compare_16 : decode cX11_compare 16 = .ok (.iadd, 1) := by decide +kernel
theorem dX11_compare_17 : decode cX11_compare 17 = .ok (.laload, 1) := by decide +kernel
theorem dX11_compare_18 : decode cX11_compare 18 = .ok (.aload_n 0, 1) := by decide +kernel
theorem dX11_compare_19 : decode cX11_compare 19 = .ok (.getfield 113, 3) := by decide +kernel
theorem dX11_compare_22 : decode cX11_compare 22 = .ok (.bipush 18, 2) := by decide +kernel
theorem dX11_compare_24 : decode cX11_compare 24 = .ok (.iload_n 2, 1) := by decide +kernel
theorem dX11_compare_25 : decode cX11_compare 25 = .ok (.imul, 1) := by decide +kernel
theorem dX11_compare_26 : decode cX11_compare 26 = .ok (.iload_n 3, 1) := by decide +kernel
theorem dX11_compare_27 : decode cX11_compare 27 = .ok (.iadd, 1) := by decide +kernel
theorem dX11_compare_28 : decode cX11_compare 28 = .ok (.laload, 1) := by decide +kernel
theorem dX11_compare_29 : decode cX11_compare 29 = .ok (.lsub, 1) := by decide +kernel
theorem dX11_compare_30 : decode cX11_compare 30 = .ok (.lstore 4, 2) := by decide +kernel
theorem dX11_compare_32 : decode cX11_compare 32 = .ok (.lload 4, 2) := by decide +kernel
theorem dX11_compare_34 : decode cX11_compare 34 = .ok (.lconst 0, 1) := by decide +kernel
theorem dX11_compare_35 : decode cX11_compare 35 = .ok (.lcmp, 1) := by decide +kernel
theorem dX11_compare_36 : decode cX11_compare 36 = .ok (.ifCond .eq 16, 3) := by decide +kernel
theorem dX11_compare_39 : decode cX11_compare 39 = .ok (.lload 4, 2) := by decide +kernel
theorem dX11_compare_41 : decode cX11_compare 41 = .ok (.lconst 0, 1) := by decide +kernel
theorem dX11_compare_42 : decode cX11_compare 42 = .ok (.lcmp, 1) := by decide +kernel
theorem dX11_compare_43 : decode cX11_compare 43 = .ok (.ifCond .ge 7, 3) := by decide +kernel
theorem dX11_compare_46 : decode cX11_compare 46 = .ok (.iconst (-1), 1) := by decide +kernel
theorem dX11_compare_47 : decode cX11_compare 47 = .ok (.goto 4, 3) := by decide +kernel
theorem dX11_compare_50 : decode cX11_compare 50 = .ok (.iconst 1, 1) := by decide +kernel
theorem dX11_compare_51 : decode cX11_compare 51 = .ok (.ireturn, 1) := by decide +kernel
theorem dX11_compare_52 : decode cX11_compare 52 = .ok (.iinc 3 (-1), 3) := by decide +kernel
theorem dX11_compare_55 : decode cX11_compare 55 = .ok (.goto (-52), 3) := by decide +kernel
theorem dX11_compare_58 : decode cX11_compare 58 = .ok (.iconst 0, 1) := by decide +kernel
theorem dX11_compare_59 : decode cX11_compare 59 = .ok (.ireturn, 1) := by decide +kernel
theorem dX11_isZero_0 : decode cX11_isZero 0 = .ok (.iconst 1, 1) := by decide +kernel
theorem dX11_isZero_1 : decode cX11_isZero 1 = .ok (.istore_n 2, 1) := by decide +kernel
theorem dX11_isZero_2 : decode cX11_isZero 2 = .ok (.iconst 0, 1) := by decide +kernel
theorem dX11_isZero_3 : decode cX11_isZero 3 = .ok (.istore_n 3, 1) := by decide +kernel
theorem dX11_isZero_4 : decode cX11_isZero 4 = .ok (.iload_n 3, 1) := by decide +kernel
theorem dX11_isZero_5 : decode cX11_isZero 5 = .ok (.bipush 18, 2) := by decide +kernel
theorem dX11_isZero_7 : decode cX11_isZero 7 = .ok (.if_icmp .ge 35, 3) := by decide +kernel
theorem dX11_isZero_10 : decode cX11_isZero 10 = .ok (.iload_n 2, 1) := by decide +kernel
theorem dX11_isZero_11 : decode cX11_isZero 11 = .ok (.ifCond .eq 31, 3) := by decide +kernel
theorem dX11_isZero_14 : decode cX11_isZero 14 = .ok (.aload_n 0, 1) := by decide +kernel
theorem dX11_isZero_15 : decode cX11_isZero 15 = .ok (.getfield 113, 3) := by decide +kernel
theorem dX11_isZero_18 : decode cX11_isZero 18 = .ok (.bipush 18, 2) := by decide +kernel
theorem dX11_isZero_20 : decode cX11_isZero 20 = .ok (.iload_n 1, 1) := by decide +kernel
theorem dX11_isZero_21 : decode cX11_isZero 21 = .ok (.imul, 1) := by decide +kernel
theorem dX11_isZero_22 : decode cX11_isZero 22 = .ok (.iload_n 3, 1) := by decide +kernel
theorem dX11_isZero_23 : decode cX11_isZero 23 = .ok (.iadd, 1) := by decide +kernel
theorem dX11_isZero_24 : decode cX11_isZero 24 = .ok (.laload, 1) := by decide +kernel
theorem dX11_isZero_25 : decode cX11_isZero 25 = .ok (.lconst 0, 1) := by decide +kernel
theorem dX11_isZero_26 : decode cX11_isZero 26 = .ok (.lcmp, 1) := by decide +kernel
theorem dX11_isZero_27 : decode cX11_isZero 27 = .ok (.ifCond .ne 7, 3) := by decide +kernel
theorem dX11_isZero_30 : decode cX11_isZero 30 = .ok (.iconst 1, 1) := by decide +kernel
theorem dX11_isZero_31 : decode cX11_isZero 31 = .ok (.goto 4, 3) := by decide +kernel
theorem dX11_isZero_34 : decode cX11_isZero 34 = .ok (.iconst 0, 1) := by decide +kernel
theorem dX11_isZero_35 : decode cX11_isZero 35 = .ok (.istore_n 2, 1) := by decide +kernel
theorem dX11_isZero_36 : decode cX11_isZero 36 = .ok (.iinc 3 1, 3) := by decide +kernel
theorem dX11_isZero_39 : decode cX11_isZero 39 = .ok (.goto (-35), 3) := by decide +kernel
theorem dX11_isZero_42 : decode cX11_isZero 42 = .ok (.iload_n 2, 1) := by decide +kernel
theorem dX11_isZero_43 : decode cX11_isZero 43 = .ok (.ireturn, 1) := by decide +kernel
theorem dX11_halve_0 : decode cX11_halve 0 = .ok (.lconst 0, 1) := by decide +kernel
theorem dX11_halve_1 : decode cX11_halve 1 = .ok (.lstore_n 2, 1) := by decide +kernel
theorem dX11_halve_2 : decode cX11_halve 2 = .ok (.bipush 17, 2) := by decide +kernel
theorem dX11_halve_4 : decode cX11_halve 4 = .ok (.istore 4, 2) := by decide +kernel
theorem dX11_halve_6 : decode cX11_halve 6 = .ok (.iload 4, 2) := by decide +kernel
theorem dX11_halve_8 : decode cX11_halve 8 = .ok (.ifCond .lt 50, 3) := by decide +kernel
theorem dX11_halve_11 : decode cX11_halve 11 = .ok (.aload_n 0, 1) := by decide +kernel
theorem dX11_halve_12 : decode cX11_halve 12 = .ok (.getfield 113, 3) := by decide +kernel
theorem dX11_halve_15 : decode cX11_halve 15 = .ok (.bipush 18, 2) := by decide +kernel
theorem dX11_halve_17 : decode cX11_halve 17 = .ok (.iload_n 1, 1) := by decide +kernel
theorem dX11_halve_18 : decode cX11_halve 18 = .ok (.imul, 1) := by decide +kernel
theorem dX11_halve_19 : decode cX11_halve 19 = .ok (.iload 4, 2) := by decide +kernel
theorem dX11_halve_21 : decode cX11_halve 21 = .ok (.iadd, 1) := by decide +kernel
theorem dX11_halve_22 : decode cX11_halve 22 = .ok (.laload, 1) := by decide +kernel
theorem dX11_halve_23 : decode cX11_halve 23 = .ok (.lload_n 2, 1) := by decide +kernel
theorem dX11_halve_24 : decode cX11_halve 24 = .ok (.ldc2_w 253, 3) := by decide +kernel
theorem dX11_halve_27 : decode cX11_halve 27 = .ok (.lmul, 1) := by decide +kernel
theorem dX11_halve_28 : decode cX11_halve 28 = .ok (.ladd, 1) := by decide +kernel
theorem dX11_halve_29 : decode cX11_halve 29 = .ok (.lstore 5, 2) := by decide +kernel
theorem dX11_halve_31 : decode cX11_halve 31 = .ok (.aload_n 0, 1) := by decide +kernel
theorem dX11_halve_32 : decode cX11_halve 32 = .ok (.getfield 113, 3) := by decide +kernel
theorem dX11_halve_35 : decode cX11_halve 35 = .ok (.bipush 18, 2) := by decide +kernel
theorem dX11_halve_37 : decode cX11_halve 37 = .ok (.iload_n 1, 1) := by decide +kernel
theorem dX11_halve_38 : decode cX11_halve 38 = .ok (.imul, 1) := by decide +kernel
theorem dX11_halve_39 : decode cX11_halve 39 = .ok (.iload 4, 2) := by decide +kernel
theorem dX11_halve_41 : decode cX11_halve 41 = .ok (.iadd, 1) := by decide +kernel
theorem dX11_halve_42 : decode cX11_halve 42 = .ok (.lload 5, 2) := by decide +kernel
theorem dX11_halve_44 : decode cX11_halve 44 = .ok (.iconst 1, 1) := by decide +kernel
theorem dX11_halve_45 : decode cX11_halve 45 = .ok (.lshr, 1) := by decide +kernel
theorem dX11_halve_46 : decode cX11_halve 46 = .ok (.lastore, 1) := by decide +kernel
theorem dX11_halve_47 : decode cX11_halve 47 = .ok (.lload 5, 2) := by decide +kernel
theorem dX11_halve_49 : decode cX11_halve 49 = .ok (.lconst 1, 1) := by decide +kernel
theorem dX11_halve_50 : decode cX11_halve 50 = .ok (.land, 1) := by decide +kernel
theorem dX11_halve_51 : decode cX11_halve 51 = .ok (.lstore_n 2, 1) := by decide +kernel
theorem dX11_halve_52 : decode cX11_halve 52 = .ok (.iinc 4 (-1), 3) := by decide +kernel
theorem dX11_halve_55 : decode cX11_halve 55 = .ok (.goto (-49), 3) := by decide +kernel
theorem dX11_halve_58 : decode cX11_halve 58 = .ok (.return_, 1) := by decide +kernel
