theorem dL_mineText_13 : decode cL_mineText 13 = .ok (.iconst 5, 1) := by decide +kernel
theorem dL_mineText_14 : decode cL_mineText 14 = .ok (.invokestatic 14, 3) := by decide +kernel
theorem dL_mineText_17 : decode cL_mineText 17 = .ok (.iadd, 1) := by decide +kernel
theorem dL_mineText_18 : decode cL_mineText 18 = .ok (.istore 7, 2) := by decide +kernel
theorem dL_mineText_20 : decode cL_mineText 20 = .ok (.aload_n 3, 1) := by decide +kernel
theorem dL_mineText_21 : decode cL_mineText 21 = .ok (.iconst 0, 1) := by decide +kernel
theorem dL_mineText_22 : decode cL_mineText 22 = .ok (.iconst 1, 1) := by decide +kernel
theorem dL_mineText_23 : decode cL_mineText 23 = .ok (.iload 5, 2) := by decide +kernel
theorem dL_mineText_25 : decode cL_mineText 25 = .ok (.iconst 3, 1) := by decide +kernel
theorem dL_mineText_26 : decode cL_mineText 26 = .ok (.ishr, 1) := by decide +kernel
theorem dL_mineText_27 : decode cL_mineText 27 = .ok (.iload_n 2, 1) := by decide +kernel
theorem dL_mineText_28 : decode cL_mineText 28 = .ok (.invokestatic 14, 3) := by decide +kernel
theorem dL_mineText_31 : decode cL_mineText 31 = .ok (.iadd, 1) := by decide +kernel
theorem dL_mineText_32 : decode cL_mineText 32 = .ok (.iastore, 1) := by decide +kernel
theorem dL_mineText_33 : decode cL_mineText 33 = .ok (.aload_n 3, 1) := by decide +kernel
theorem dL_mineText_34 : decode cL_mineText 34 = .ok (.bipush 51, 2) := by decide +kernel
theorem dL_mineText_36 : decode cL_mineText 36 = .ok (.iconst 0, 1) := by decide +kernel
theorem dL_mineText_37 : decode cL_mineText 37 = .ok (.iastore, 1) := by decide +kernel
theorem dL_mineText_38 : decode cL_mineText 38 = .ok (.iconst 0, 1) := by decide +kernel
theorem dL_mineText_39 : decode cL_mineText 39 = .ok (.istore 8, 2) := by decide +kernel
theorem dL_mineText_41 : decode cL_mineText 41 = .ok (.iload 8, 2) := by decide +kernel
theorem dL_mineText_43 : decode cL_mineText 43 = .ok (.aload_n 3, 1) := by decide +kernel
theorem dL_mineText_44 : decode cL_mineText 44 = .ok (.iconst 0, 1) := by decide +kernel
theorem dL_mineText_45 : decode cL_mineText 45 = .ok (.iaload, 1) := by decide +kernel
theorem dL_mineText_46 : decode cL_mineText 46 = .ok (.if_icmp .ge 205, 3) := by decide +kernel
theorem dL_mineText_49 : decode cL_mineText 49 = .ok (.aload_n 0, 1) := by decide +kernel
theorem dL_mineText_50 : decode cL_mineText 50 = .ok (.iload_n 1, 1) := by decide +kernel
theorem dL_mineText_51 : decode cL_mineText 51 = .ok (.iconst 1, 1) := by decide +kernel
theorem dL_mineText_52 : decode cL_mineText 52 = .ok (.iadd, 1) := by decide +kernel
theorem dL_mineText_53 : decode cL_mineText 53 = .ok (.iload 8, 2) := by decide +kernel
theorem dL_mineText_55 : decode cL_mineText 55 = .ok (.iconst 5, 1) := by decide +kernel
theorem dL_mineText_56 : decode cL_mineText 56 = .ok (.irem, 1) := by decide +kernel
theorem dL_mineText_57 : decode cL_mineText 57 = .ok (.iadd, 1) := by decide +kernel
theorem dL_mineText_58 : decode cL_mineText 58 = .ok (.invokestatic 8, 3) := by decide +kernel
theorem dL_mineText_61 : decode cL_mineText 61 = .ok (.bipush 12, 2) := by decide +kernel
theorem dL_mineText_63 : decode cL_mineText 63 = .ok (.iload 8, 2) := by decide +kernel
theorem dL_mineText_65 : decode cL_mineText 65 = .ok (.iconst 5, 1) := by decide +kernel
theorem dL_mineText_66 : decode cL_mineText 66 = .ok (.idiv, 1) := by decide +kernel
theorem dL_mineText_67 : decode cL_mineText 67 = .ok (.imul, 1) := by decide +kernel
theorem dL_mineText_68 : decode cL_mineText 68 = .ok (.ishr, 1) := by decide +kernel
theorem dL_mineText_69 : decode cL_mineText 69 = .ok (.istore 9, 2) := by decide +kernel
theorem dL_mineText_71 : decode cL_mineText 71 = .ok (.aload_n 3, 1) := by decide +kernel
theorem dL_mineText_72 : decode cL_mineText 72 = .ok (.iconst 1, 1) := by decide +kernel
theorem dL_mineText_73 : decode cL_mineText 73 = .ok (.iload 8, 2) := by decide +kernel
theorem dL_mineText_75 : decode cL_mineText 75 = .ok (.iadd, 1) := by decide +kernel
theorem dL_mineText_76 : decode cL_mineText 76 = .ok (.iload 9, 2) := by decide +kernel
theorem dL_mineText_78 : decode cL_mineText 78 = .ok (.iload 7, 2) := by decide +kernel
theorem dL_mineText_80 : decode cL_mineText 80 = .ok (.invokestatic 14, 3) := by decide +kernel
theorem dL_mineText_83 : decode cL_mineText 83 = .ok (.iastore, 1) := by decide +kernel
theorem dL_mineText_84 : decode cL_mineText 84 = .ok (.aload_n 3, 1) := by decide +kernel
theorem dL_mineText_85 : decode cL_mineText 85 = .ok (.bipush 11, 2) := by decide +kernel
theorem dL_mineText_87 : decode cL_mineText 87 = .ok (.iload 8, 2) := by decide +kernel
theorem dL_mineText_89 : decode cL_mineText 89 = .ok (.iadd, 1) := by decide +kernel
theorem dL_mineText_90 : decode cL_mineText 90 = .ok (.aload_n 3, 1) := by decide +kernel
theorem dL_mineText_91 : decode cL_mineText 91 = .ok (.iconst 1, 1) := by decide +kernel
theorem dL_mineText_92 : decode cL_mineText 92 = .ok (.iload 8, 2) := by decide +kernel
theorem dL_mineText_94 : decode cL_mineText 94 = .ok (.iadd, 1) := by decide +kernel
theorem dL_mineText_95 : decode cL_mineText 95 = .ok (.iaload, 1) := by decide +kernel
theorem dL_mineText_96 : decode cL_mineText 96 = .ok (.iconst 1, 1) := by decide +kernel
theorem dL_mineText_97 : decode cL_mineText 97 = .ok (.iadd, 1) := by decide +kernel
theorem dL_mineText_98 : decode cL_mineText 98 = .ok (.iload 9, 2) := by decide +kernel
theorem dL_mineText_100 : decode cL_mineText 100 = .ok (.iconst 3, 1) := by decide +kernel
theorem dL_mineText_101 : decode cL_mineText 101 = .ok (.ishr, 1) := by decide +kernel
theorem dL_mineText_102 : decode cL_mineText 102 = .ok (.iload 7, 2) := by decide +kernel
theorem dL_mineText_104 : decode cL_mineText 104 = .ok (.iconst 1, 1) := by decide +kernel
theorem dL_mineText_105 : decode cL_mineText 105 = .ok (.isub, 1) := by decide +kernel
theorem dL_mineText_106 : decode cL_mineText 106 = .ok (.invokestatic 14, 3) := by decide +kernel
theorem dL_mineText_109 : decode cL_mineText 109 = .ok (.iadd, 1) := by decide +kernel
theorem dL_mineText_110 : decode cL_mineText 110 = .ok (.iload 7, 2) := by decide +kernel
theorem dL_mineText_112 : decode cL_mineText 112 = .ok (.irem, 1) := by decide +kernel
theorem dL_mineText_113 : decode cL_mineText 113 = .ok (.iastore, 1) := by decide +kernel
theorem dL_mineText_114 : decode cL_mineText 114 = .ok (.aload_n 3, 1) := by decide +kernel
theorem dL_mineText_115 : decode cL_mineText 115 = .ok (.bipush 21, 2) := by decide +kernel
theorem dL_mineText_117 : decode cL_mineText 117 = .ok (.iload 8, 2) := by decide +kernel
theorem dL_mineText_119 : decode cL_mineText 119 = .ok (.iadd, 1) := by decide +kernel
theorem dL_mineText_120 : decode cL_mineText 120 = .ok (.iconst 1, 1) := by decide +kernel
theorem dL_mineText_121 : decode cL_mineText 121 = .ok (.iload 9, 2) := by decide +kernel
theorem dL_mineText_123 : decode cL_mineText 123 = .ok (.bipush 6, 2) := by decide +kernel
theorem dL_mineText_125 : decode cL_mineText 125 = .ok (.ishr, 1) := by decide +kernel
theorem dL_mineText_126 : decode cL_mineText 126 = .ok (.bipush 9, 2) := by decide +kernel
theorem dL_mineText_128 : decode cL_mineText 128 = .ok (.invokestatic 14, 3) := by decide +kernel
theorem dL_mineText_131 : decode cL_mineText 131 = .ok (.iadd, 1) := by decide +kernel
theorem dL_mineText_132 : decode cL_mineText 132 = .ok (.iastore, 1) := by decide +kernel
theorem dL_mineText_133 : decode cL_mineText 133 = .ok (.aload_n 3, 1) := by decide +kernel
theorem dL_mineText_134 : decode cL_mineText 134 = .ok (.bipush 31, 2) := by decide +kernel
theorem dL_mineText_136 : decode cL_mineText 136 = .ok (.iload 8, 2) := by decide +kernel
theorem dL_mineText_138 : decode cL_mineText 138 = .ok (.iadd, 1) := by decide +kernel
theorem dL_mineText_139 : decode cL_mineText 139 = .ok (.iload 9, 2) := by decide +kernel
theorem dL_mineText_141 : decode cL_mineText 141 = .ok (.bipush 10, 2) := by decide +kernel
theorem dL_mineText_143 : decode cL_mineText 143 = .ok (.ishr, 1) := by decide +kernel
theorem dL_mineText_144 : decode cL_mineText 144 = .ok (.iconst 2, 1) := by decide +kernel
theorem dL_mineText_145 : decode cL_mineText 145 = .ok (.invokestatic 14, 3) := by decide +kernel
theorem dL_mineText_148 : decode cL_mineText 148 = .ok (.iastore, 1) := by decide +kernel
theorem dL_mineText_149 : decode cL_mineText 149 = .ok (.aload_n 3, 1) := by decide +kernel
theorem dL_mineText_150 : decode cL_mineText 150 = .ok (.bipush 41, 2) := by decide +kernel
theorem dL_mineText_152 : decode cL_mineText 152 = .ok (.iload 8, 2) := by decide +kernel
theorem dL_mineText_154 : decode cL_mineText 154 = .ok (.iadd, 1) := by decide +kernel
theorem dL_mineText_155 : decode cL_mineText 155 = .ok (.iconst 1, 1) := by decide +kernel
theorem dL_mineText_156 : decode cL_mineText 156 = .ok (.iastore, 1) := by decide +kernel
theorem dL_mineText_157 : decode cL_mineText 157 = .ok (.iload 8, 2) := by decide +kernel
theorem dL_mineText_159 : decode cL_mineText 159 = .ok (.ifCond .le 13, 3) := by decide +kernel
theorem dL_mineText_162 : decode cL_mineText 162 = .ok (.aload 4, 2) := by decide +kernel
theorem dL_mineText_164 : decode cL_mineText 164 = .ok (.iload 6, 2) := by decide +kernel
theorem dL_mineText_166 : decode cL_mineText 166 = .ok (.iinc 6 1, 3) := by decide +kernel
theorem dL_mineText_169 : decode cL_mineText 169 = .ok (.bipush 44, 2) := by decide +kernel
theorem dL_mineText_171 : decode cL_mineText 171 = .ok (.iastore, 1) := by decide +kernel
theorem dL_mineText_172 : decode cL_mineText 172 = .ok (.aload 4, 2) := by decide +kernel
theorem dL_mineText_174 : decode cL_mineText 174 = .ok (.iload 6, 2) := by decide +kernel
theorem dL_mineText_176 : decode cL_mineText 176 = .ok (.iinc 6 1, 3) := by decide +kernel
theorem dL_mineText_179 : decode cL_mineText 179 = .ok (.bipush 48, 2) := by decide +kernel
theorem dL_mineText_181 : decode cL_mineText 181 = .ok (.aload_n 3, 1) := by decide +kernel
theorem dL_mineText_182 : decode cL_mineText 182 = .ok (.iconst 1, 1) := by decide +kernel
theorem dL_mineText_183 : decode cL_mineText 183 = .ok (.iload 8, 2) := by decide +kernel
theorem dL_mineText_185 : decode cL_mineText 185 = .ok (.iadd, 1) := by decide +kernel
theorem dL_mineText_186 : decode cL_mineText 186 = .ok (.iaload, 1) := by decide +kernel
theorem dL_mineText_187 : decode cL_mineText 187 = .ok (.iadd, 1) := by decide +kernel
theorem dL_mineText_188 : decode cL_mineText 188 = .ok (.iastore, 1) := by decide +kernel
theorem dL_mineText_189 : decode cL_mineText 189 = .ok (.aload 4, 2) := by decide +kernel
theorem dL_mineText_191 : decode cL_mineText 191 = .ok (.iload 6, 2) := by decide +kernel
theorem dL_mineText_193 : decode cL_mineText 193 = .ok (.iinc 6 1, 3) := by decide +kernel
theorem dL_mineText_196 : decode cL_mineText 196 = .ok (.bipush 48, 2) := by decide +kernel
theorem dL_mineText_198 : decode cL_mineText 198 = .ok (.aload_n 3, 1) := by decide +kernel
theorem dL_mineText_199 : decode cL_mineText 199 = .ok (.bipush 11, 2) := by decide +kernel
theorem dL_mineText_201 : decode cL_mineText 201 = .ok (.iload 8, 2) := by decide +kernel
theorem dL_mineText_203 : decode cL_mineText 203 = .ok (.iadd, 1) := by decide +kernel
theorem dL_mineText_204 : decode cL_mineText 204 = .ok (.iaload, 1) := by decide +kernel
theorem dL_mineText_205 : decode cL_mineText 205 = .ok (.iadd, 1) := by decide +kernel
theorem dL_mineText_206 : decode cL_mineText 206 = .ok (.iastore, 1) := by decide +kernel
theorem dL_mineText_207 : decode cL_mineText 207 = .ok (.aload 4, 2) := by decide +kernel
theorem dL_mineText_209 : decode cL_mineText 209 = .ok (.iload 6, 2) := by decide +kernel
theorem dL_mineText_211 : decode cL_mineText 211 = .ok (.iinc 6 1, 3) := by decide +kernel
theorem dL_mineText_214 : decode cL_mineText 214 = .ok (.bipush 48, 2) := by decide +kernel
theorem dL_mineText_216 : decode cL_mineText 216 = .ok (.aload_n 3, 1) := by decide +kernel
theorem dL_mineText_217 : decode cL_mineText 217 = .ok (.bipush 21, 2) := by decide +kernel
theorem dL_mineText_219 : decode cL_mineText 219 = .ok (.iload 8, 2) := by decide +kernel
theorem dL_mineText_221 : decode cL_mineText 221 = .ok (.iadd, 1) := by decide +kernel
theorem dL_mineText_222 : decode cL_mineText 222 = .ok (.iaload, 1) := by decide +kernel
theorem dL_mineText_223 : decode cL_mineText 223 = .ok (.iadd, 1) := by decide +kernel
theorem dL_mineText_224 : decode cL_mineText 224 = .ok (.iastore, 1) := by decide +kernel
theorem dL_mineText_225 : decode cL_mineText 225 = .ok (.aload_n 3, 1) := by decide +kernel
theorem dL_mineText_226 : decode cL_mineText 226 = .ok (.bipush 31, 2) := by decide +kernel
theorem dL_mineText_228 : decode cL_mineText 228 = .ok (.iload 8, 2) := by decide +kernel
theorem dL_mineText_230 : decode cL_mineText 230 = .ok (.iadd, 1) := by decide +kernel
theorem dL_mineText_231 : decode cL_mineText 231 = .ok (.iaload, 1) := by decide +kernel
theorem dL_mineText_232 : decode cL_mineText 232 = .ok (.ifCond .le 13, 3) := by decide +kernel
theorem dL_mineText_235 : decode cL_mineText 235 = .ok (.aload 4, 2) := by decide +kernel
theorem dL_mineText_237 : decode cL_mineText 237 = .ok (.iload 6, 2) := by decide +kernel
theorem dL_mineText_239 : decode cL_mineText 239 = .ok (.iinc 6 1, 3) := by decide +kernel
theorem dL_mineText_242 : decode cL_mineText 242 = .ok (.bipush 100, 2) := by decide +kernel
theorem dL_mineText_244 : decode cL_mineText 244 = .ok (.iastore, 1) := by decide +kernel
theorem dL_mineText_245 : decode cL_mineText 245 = .ok (.iinc 8 1, 3) := by decide +kernel
theorem dL_mineText_248 : decode cL_mineText 248 = .ok (.goto (-207), 3) := by decide +kernel
theorem dL_mineText_251 : decode cL_mineText 251 = .ok (.aload 4, 2) := by decide +kernel
theorem dL_mineText_253 : decode cL_mineText 253 = .ok (.iload 6, 2) := by decide +kernel
theorem dL_mineText_255 : decode cL_mineText 255 = .ok (.iinc 6 1, 3) := by decide +kernel
theorem dL_mineText_258 : decode cL_mineText 258 = .ok (.bipush 59, 2) := by decide +kernel
theorem dL_mineText_260 : decode cL_mineText 260 = .ok (.iastore, 1) := by decide +kernel
theorem dL_mineText_261 : decode cL_mineText 261 = .ok (.iconst 2, 1) := by decide +kernel
theorem dL_mineText_262 : decode cL_mineText 262 = .ok (.iload 5, 2) := by decide +kernel
theorem dL_mineText_264 : decode cL_mineText 264 = .ok (.bipush 7, 2) := by decide +kernel
theorem dL_mineText_266 : decode cL_mineText 266 = .ok (.ishr, 1) := by decide +kernel
theorem dL_mineText_267 : decode cL_mineText 267 = .ok (.iload 5, 2) := by decide +kernel
theorem dL_mineText_269 : decode cL_mineText 269 = .ok (.bipush 12, 2) := by decide +kernel
theorem dL_mineText_271 : decode cL_mineText 271 = .ok (.ishr, 1) := by decide +kernel
theorem dL_mineText_272 : decode cL_mineText 272 = .ok (.iconst 3, 1) := by decide +kernel
theorem dL_mineText_273 : decode cL_mineText 273 = .ok (.invokestatic 14, 3) := by decide +kernel
theorem dL_mineText_276 : decode cL_mineText 276 = .ok (.ifCond .ne 8, 3) := by decide +kernel
theorem dL_mineText_279 : decode cL_mineText 279 = .ok (.bipush 6, 2) := by decide +kernel
theorem dL_mineText_281 : decode cL_mineText 281 = .ok (.goto 4, 3) := by decide +kernel
theorem dL_mineText_284 : decode cL_mineText 284 = .ok (.iconst 2, 1) := by decide +kernel
theorem dL_mineText_285 : decode cL_mineText 285 = .ok (.invokestatic 14, 3) := by decide +kernel
theorem dL_mineText_288 : decode cL_mineText 288 = .ok (.iadd, 1) := by decide +kernel
theorem dL_mineText_289 : decode cL_mineText 289 = .ok (.istore 8, 2) := by decide +kernel
theorem dL_mineText_291 : decode cL_mineText 291 = .ok (.iconst 0, 1) := by decide +kernel
theorem dL_mineText_292 : decode cL_mineText 292 = .ok (.istore 9, 2) := by decide +kernel
theorem dL_mineText_294 : decode cL_mineText 294 = .ok (.iload 9, 2) := by decide +kernel
theorem dL_mineText_296 : decode cL_mineText 296 = .ok (.bipush 7, 2) := by decide +kernel
theorem dL_mineText_298 : decode cL_mineText 298 = .ok (.if_icmp .ge 17, 3) := by decide +kernel
theorem dL_mineText_301 : decode cL_mineText 301 = .ok (.aload_n 3, 1) := by decide +kernel
theorem dL_mineText_302 : decode cL_mineText 302 = .ok (.bipush 52, 2) := by decide +kernel
theorem dL_mineText_304 : decode cL_mineText 304 = .ok (.iload 9, 2) := by decide +kernel
theorem dL_mineText_306 : decode cL_mineText 306 = .ok (.iadd, 1) := by decide +kernel
theorem dL_mineText_307 : decode cL_mineText 307 = .ok (.iconst 0, 1) := by decide +kernel
theorem dL_mineText_308 : decode cL_mineText 308 = .ok (.iastore, 1) := by decide +kernel
theorem dL_mineText_309 : decode cL_mineText 309 = .ok (.iinc 9 1, 3) := by decide +kernel
theorem dL_mineText_312 : decode cL_mineText 312 = .ok (.goto (-18), 3) := by decide +kernel
theorem dL_mineText_315 : decode cL_mineText 315 = .ok (.iconst 0, 1) := by decide +kernel
theorem dL_mineText_316 : decode cL_mineText 316 = .ok (.istore 9, 2) := by decide +kernel
theorem dL_mineText_318 : decode cL_mineText 318 = .ok (.iload 9, 2) := by decide +kernel
theorem dL_mineText_320 : decode cL_mineText 320 = .ok (.iload 8, 2) := by decide +kernel
theorem dL_mineText_322 : decode cL_mineText 322 = .ok (.if_icmp .ge 106, 3) := by decide +kernel
theorem dL_mineText_325 : decode cL_mineText 325 = .ok (.iload 5, 2) := by decide +kernel
theorem dL_mineText_327 : decode cL_mineText 327 = .ok (.bipush 13, 2) := by decide +kernel
theorem dL_mineText_329 : decode cL_mineText 329 = .ok (.iconst 2, 1) := by decide +kernel
theorem dL_mineText_330 : decode cL_mineText 330 = .ok (.iload 9, 2) := by decide +kernel
theorem dL_mineText_332 : decode cL_mineText 332 = .ok (.imul, 1) := by decide +kernel
theorem dL_mineText_333 : decode cL_mineText 333 = .ok (.iadd, 1) := by decide +kernel
theorem dL_mineText_334 : decode cL_mineText 334 = .ok (.ishr, 1) := by decide +kernel
theorem dL_mineText_335 : decode cL_mineText 335 = .ok (.bipush 7, 2) := by decide +kernel
theorem dL_mineText_337 : decode cL_mineText 337 = .ok (.invokestatic 14, 3) := by decide +kernel
theorem dL_mineText_340 : decode cL_mineText 340 = .ok (.istore 10, 2) := by decide +kernel
theorem dL_mineText_342 : decode cL_mineText 342 = .ok (.aload_n 3, 1) := by decide +kernel
theorem dL_mineText_343 : decode cL_mineText 343 = .ok (.bipush 52, 2) := by decide +kernel
theorem dL_mineText_345 : decode cL_mineText 345 = .ok (.iload 10, 2) := by decide +kernel
theorem dL_mineText_347 : decode cL_mineText 347 = .ok (.iadd, 1) := by decide +kernel
theorem dL_mineText_348 : decode cL_mineText 348 = .ok (.iaload, 1) := by decide +kernel
theorem dL_mineText_349 : decode cL_mineText 349 = .ok (.ifCond .le 15, 3) := by decide +kernel
theorem dL_mineText_352 : decode cL_mineText 352 = .ok (.iload 10, 2) := by decide +kernel
theorem dL_mineText_354 : decode cL_mineText 354 = .ok (.iconst 1, 1) := by decide +kernel
theorem dL_mineText_355 : decode cL_mineText 355 = .ok (.iadd, 1) := by decide +kernel
theorem dL_mineText_356 : decode cL_mineText 356 = .ok (.bipush 7, 2) := by decide +kernel
theorem dL_mineText_358 : decode cL_mineText 358 = .ok (.irem, 1) := by decide +kernel
theorem dL_mineText_359 : decode cL_mineText 359 = .ok (.istore 10, 2) := by decide +kernel
theorem dL_mineText_361 : decode cL_mineText 361 = .ok (.goto (-19), 3) := by decide +kernel
theorem dL_mineText_364 : decode cL_mineText 364 = .ok (.aload_n 3, 1) := by decide +kernel
theorem dL_mineText_365 : decode cL_mineText 365 = .ok (.bipush 52, 2) := by decide +kernel
theorem dL_mineText_367 : decode cL_mineText 367 = .ok (.iload 10, 2) := by decide +kernel
theorem dL_mineText_369 : decode cL_mineText 369 = .ok (.iadd, 1) := by decide +kernel
theorem dL_mineText_370 : decode cL_mineText 370 = .ok (.iconst 1, 1) := by decide +kernel
theorem dL_mineText_371 : decode cL_mineText 371 = .ok (.aload_n 0, 1) := by decide +kernel
theorem dL_mineText_372 : decode cL_mineText 372 = .ok (.iload_n 1, 1) := by decide +kernel
theorem dL_mineText_373 : decode cL_mineText 373 = .ok (.bipush 6, 2) := by decide +kernel
theorem dL_mineText_375 : decode cL_mineText 375 = .ok (.iadd, 1) := by decide +kernel
theorem dL_mineText_376 : decode cL_mineText 376 = .ok (.invokestatic 8, 3) := by decide +kernel
theorem dL_mineText_379 : decode cL_mineText 379 = .ok (.iconst 4, 1) := by decide +kernel
theorem dL_mineText_380 : decode cL_mineText 380 = .ok (.iload 9, 2) := by decide +kernel
theorem dL_mineText_382 : decode cL_mineText 382 = .ok (.imul, 1) := by decide +kernel
theorem dL_mineText_383 : decode cL_mineText 383 = .ok (.ishr, 1) := by decide +kernel
theorem dL_mineText_384 : decode cL_mineText 384 = .ok (.bipush 10, 2) := by decide +kernel
theorem dL_mineText_386 : decode cL_mineText 386 = .ok (.invokestatic 14, 3) := by decide +kernel
theorem dL_mineText_389 : decode cL_mineText 389 = .ok (.iadd, 1) := by decide +kernel
theorem dL_mineText_390 : decode cL_mineText 390 = .ok (.iastore, 1) := by decide +kernel
theorem dL_mineText_391 : decode cL_mineText 391 = .ok (.aload 4, 2) := by decide +kernel
theorem dL_mineText_393 : decode cL_mineText 393 = .ok (.iload 6, 2) := by decide +kernel
theorem dL_mineText_395 : decode cL_mineText 395 = .ok (.iinc 6 1, 3) := by decide +kernel
theorem dL_mineText_398 : decode cL_mineText 398 = .ok (.bipush 48, 2) := by decide +kernel
theorem dL_mineText_400 : decode cL_mineText 400 = .ok (.iload 10, 2) := by decide +kernel
theorem dL_mineText_402 : decode cL_mineText 402 = .ok (.iadd, 1) := by decide +kernel
theorem dL_mineText_403 : decode cL_mineText 403 = .ok (.iastore, 1) := by decide +kernel
theorem dL_mineText_404 : decode cL_mineText 404 = .ok (.aload 4, 2) := by decide +kernel
theorem dL_mineText_406 : decode cL_mineText 406 = .ok (.iload 6, 2) := by decide +kernel
theorem dL_mineText_408 : decode cL_mineText 408 = .ok (.iinc 6 1, 3) := by decide +kernel
theorem dL_mineText_411 : decode cL_mineText 411 = .ok (.bipush 47, 2) := by decide +kernel
theorem dL_mineText_413 : decode cL_mineText 413 = .ok (.aload_n 3, 1) := by decide +kernel
theorem dL_mineText_414 : decode cL_mineText 414 = .ok (.bipush 52, 2) := by decide +kernel
theorem dL_mineText_416 : decode cL_mineText 416 = .ok (.iload 10, 2) := by decide +kernel
theorem dL_mineText_418 : decode cL_mineText 418 = .ok (.iadd, 1) := by decide +kernel
theorem dL_mineText_419 : decode cL_mineText 419 = .ok (.iaload, 1) := by decide +kernel
theorem dL_mineText_420 : decode cL_mineText 420 = .ok (.iadd, 1) := by decide +kernel
theorem dL_mineText_421 : decode cL_mineText 421 = .ok (.iastore, 1) := by decide +kernel
theorem dL_mineText_422 : decode cL_mineText 422 = .ok (.iinc 9 1, 3) := by decide +kernel
theorem dL_mineText_425 : decode cL_mineText 425 = .ok (.goto (-107), 3) := by decide +kernel
theorem dL_mineText_428 : decode cL_mineText 428 = .ok (.iload 6, 2) := by decide +kernel
theorem dL_mineText_430 : decode cL_mineText 430 = .ok (.ireturn, 1) := by decide +kernel
set_option maxRecDepth 20000 in
theorem ggL_write_X10_letters : GoodIn wsL_write wsX10_letters := goodIn_r _ [5, 6, 7, 8, 9, 10, 11, 12, 13, 14, 15, 16, 17, 18, 19, 20, 21, 22, 23, 24, 25, 26, 27, 28, 29, 30, 31, 32, 33, 34, 35, 36, 37, 38, 39, 40, 41, 42, 43, 44, 45, 46] (by decide +kernel) (by decide +kernel)
set_option maxRecDepth 20000 in
theorem gL_write_X10_letters : GoodIn wsL_write (wsV RL 18 RX10 yX10_letters wsX10_letters) := goodIn_app (goodIn_of _ (by decide +kernel)) ggL_write_X10_letters
theorem dL_write_0 : decode cL_write 0 = .ok (.iconst 0, 1) := by decide +kernel
theorem dL_write_1 : decode cL_write 1 = .ok (.istore_n 3, 1) := by decide +kernel
theorem dL_write_2 : decode cL_write 2 = .ok (.iload_n 3, 1) := by decide +kernel
theorem dL_write_3 : decode cL_write 3 = .ok (.iload_n 2, 1) := by decide +kernel
theorem dL_write_4 : decode cL_write 4 = .ok (.if_icmp .ge 25, 3) := by decide +kernel
theorem dL_write_7 : decode cL_write 7 = .ok (.aload_n 0, 1) := by decide +kernel
theorem dL_write_8 : decode cL_write 8 = .ok (.aload_n 1, 1) := by decide +kernel
theorem dL_write_9 : decode cL_write 9 = .ok (.iload_n 3, 1) := by decide +kernel
theorem dL_write_10 : decode cL_write 10 = .ok (.iaload, 1) := by decide +kernel
theorem dL_write_11 : decode cL_write 11 = .ok (.i2l, 1) := by decide +kernel
theorem dL_write_12 : decode cL_write 12 = .ok (.invokevirtual 18, 3) := by decide +kernel
theorem dL_write_15 : decode cL_write 15 = .ok (.iload_n 3, 1) := by decide +kernel
theorem dL_write_16 : decode cL_write 16 = .ok (.iconst 1, 1) := by decide +kernel
theorem dL_write_17 : decode cL_write 17 = .ok (.iadd, 1) := by decide +kernel
theorem dL_write_18 : decode cL_write 18 = .ok (.if_icmp .eq 5, 3) := by decide +kernel
theorem dL_write_21 : decode cL_write 21 = .ok (.iconst 0, 1) := by decide +kernel
theorem dL_write_22 : decode cL_write 22 = .ok (.ireturn, 1) := by decide +kernel
theorem dL_write_23 : decode cL_write 23 = .ok (.iinc 3 1, 3) := by decide +kernel
theorem dL_write_26 : decode cL_write 26 = .ok (.goto (-24), 3) := by decide +kernel
theorem dL_write_29 : decode cL_write 29 = .ok (.iconst 1, 1) := by decide +kernel
theorem dL_write_30 : decode cL_write 30 = .ok (.ireturn, 1) := by decide +kernel
set_option maxRecDepth 20000 in
theorem ggL_men_L_cell : GoodIn wsL_men wsL_cell := goodIn_r _ [4, 5] (by decide +kernel) (by decide +kernel)
set_option maxRecDepth 20000 in
theorem gL_men_L_cell : GoodIn wsL_men (va_wsS RL 8 yL_cell wsL_cell) := goodIn_app (goodIn_of _ (by decide +kernel)) ggL_men_L_cell
set_option maxRecDepth 20000 in
theorem ggL_men_L_at : GoodIn wsL_men wsL_at := goodIn_r _ [8] (by decide +kernel) (by decide +kernel)
set_option maxRecDepth 20000 in
theorem gL_men_L_at : GoodIn wsL_men (va_wsS RL 14 yL_at wsL_at) := goodIn_app (goodIn_of _ (by decide +kernel)) ggL_men_L_at
set_option maxRecDepth 20000 in
theorem ggL_men_X10_man : GoodIn wsL_men wsX10_man := goodIn_r _ [13, 14, 15, 16, 17, 18, 19, 20, 21, 22, 23, 24, 25, 26, 27, 28, 29, 30, 31, 12, 32, 33, 34, 35, 36, 37, 38, 39, 40, 41, 42, 43, 44, 45, 46, 47, 48, 49, 50, 51, 52, 53, 54, 55, 56, 57, 58, 59, 60, 61, 62, 63, 64, 65, 66, 67, 68, 69] (by decide +kernel) (by decide +kernel)
set_option maxRecDepth 20000 in
theorem gL_men_X10_man : GoodIn wsL_men (wsV RL 24 RX10 yX10_man wsX10_man) := goodIn_app (goodIn_of _ (by decide +kernel)) ggL_men_X10_man
theorem dL_men_0 : decode cL_men 0 = .ok (.aload_n 1, 1) := by decide +kernel
theorem dL_men_1 : decode cL_men 1 = .ok (.iload_n 2, 1) := by decide +kernel
theorem dL_men_2 : decode cL_men 2 = .ok (.invokestatic 8, 3) := by decide +kernel
theorem dL_men_5 : decode cL_men 5 = .ok (.iload_n 3, 1) := by decide +kernel
theorem dL_men_6 : decode cL_men 6 = .ok (.iconst 1, 1) := by decide +kernel
theorem dL_men_7 : decode cL_men 7 = .ok (.iadd, 1) := by decide +kernel
theorem dL_men_8 : decode cL_men 8 = .ok (.invokestatic 14, 3) := by decide +kernel
theorem dL_men_11 : decode cL_men 11 = .ok (.istore 5, 2) := by decide +kernel
theorem dL_men_13 : decode cL_men 13 = .ok (.aload 4, 2) := by decide +kernel
theorem dL_men_15 : decode cL_men 15 = .ok (.bipush 20, 2) := by decide +kernel
theorem dL_men_17 : decode cL_men 17 = .ok (.iconst 0, 1) := by decide +kernel
theorem dL_men_18 : decode cL_men 18 = .ok (.iastore, 1) := by decide +kernel
theorem dL_men_19 : decode cL_men 19 = .ok (.iconst 0, 1) := by decide +kernel
theorem dL_men_20 : decode cL_men 20 = .ok (.istore 6, 2) := by decide +kernel
theorem dL_men_22 : decode cL_men 22 = .ok (.iload 6, 2) := by decide +kernel
theorem dL_men_24 : decode cL_men 24 = .ok (.iload 5, 2) := by decide +kernel
theorem dL_men_26 : decode cL_men 26 = .ok (.if_icmp .ge 94, 3) := by decide +kernel
theorem dL_men_29 : decode cL_men 29 = .ok (.aload 4, 2) := by decide +kernel
theorem dL_men_31 : decode cL_men 31 = .ok (.bipush 7, 2) := by decide +kernel
theorem dL_men_33 : decode cL_men 33 = .ok (.iload 6, 2) := by decide +kernel
theorem dL_men_35 : decode cL_men 35 = .ok (.iadd, 1) := by decide +kernel
theorem dL_men_36 : decode cL_men 36 = .ok (.aload_n 1, 1) := by decide +kernel
theorem dL_men_37 : decode cL_men 37 = .ok (.iload_n 2, 1) := by decide +kernel
theorem dL_men_38 : decode cL_men 38 = .ok (.invokestatic 8, 3) := by decide +kernel
theorem dL_men_41 : decode cL_men 41 = .ok (.iconst 3, 1) := by decide +kernel
theorem dL_men_42 : decode cL_men 42 = .ok (.iconst 4, 1) := by decide +kernel
theorem dL_men_43 : decode cL_men 43 = .ok (.iload 6, 2) := by decide +kernel
theorem dL_men_45 : decode cL_men 45 = .ok (.imul, 1) := by decide +kernel
theorem dL_men_46 : decode cL_men 46 = .ok (.iadd, 1) := by decide +kernel
theorem dL_men_47 : decode cL_men 47 = .ok (.ishr, 1) := by decide +kernel
theorem dL_men_48 : decode cL_men 48 = .ok (.iconst 5, 1) := by decide +kernel
theorem dL_men_49 : decode cL_men 49 = .ok (.invokestatic 14, 3) := by decide +kernel
theorem dL_men_52 : decode cL_men 52 = .ok (.iastore, 1) := by decide +kernel
theorem dL_men_53 : decode cL_men 53 = .ok (.aload 4, 2) := by decide +kernel
theorem dL_men_55 : decode cL_men 55 = .ok (.bipush 13, 2) := by decide +kernel
theorem dL_men_57 : decode cL_men 57 = .ok (.iload 6, 2) := by decide +kernel
theorem dL_men_59 : decode cL_men 59 = .ok (.iadd, 1) := by decide +kernel
theorem dL_men_60 : decode cL_men 60 = .ok (.aload_n 1, 1) := by decide +kernel
theorem dL_men_61 : decode cL_men 61 = .ok (.iload_n 2, 1) := by decide +kernel
theorem dL_men_62 : decode cL_men 62 = .ok (.iconst 1, 1) := by decide +kernel
theorem dL_men_63 : decode cL_men 63 = .ok (.iadd, 1) := by decide +kernel
theorem dL_men_64 : decode cL_men 64 = .ok (.invokestatic 8, 3) := by decide +kernel
theorem dL_men_67 : decode cL_men 67 = .ok (.iconst 4, 1) := by decide +kernel
theorem dL_men_68 : decode cL_men 68 = .ok (.iload 6, 2) := by decide +kernel
theorem dL_men_70 : decode cL_men 70 = .ok (.imul, 1) := by decide +kernel
theorem dL_men_71 : decode cL_men 71 = .ok (.ishr, 1) := by decide +kernel
theorem dL_men_72 : decode cL_men 72 = .ok (.bipush 7, 2) := by decide +kernel
theorem dL_men_74 : decode cL_men 74 = .ok (.invokestatic 14, 3) := by decide +kernel
theorem dL_men_77 : decode cL_men 77 = .ok (.iastore, 1) := by decide +kernel
theorem dL_men_78 : decode cL_men 78 = .ok (.aload_n 0, 1) := by decide +kernel
theorem dL_men_79 : decode cL_men 79 = .ok (.aload 4, 2) := by decide +kernel
theorem dL_men_81 : decode cL_men 81 = .ok (.bipush 7, 2) := by decide +kernel
theorem dL_men_83 : decode cL_men 83 = .ok (.iload 6, 2) := by decide +kernel
theorem dL_men_85 : decode cL_men 85 = .ok (.iadd, 1) := by decide +kernel
theorem dL_men_86 : decode cL_men 86 = .ok (.iaload, 1) := by decide +kernel
theorem dL_men_87 : decode cL_men 87 = .ok (.aload 4, 2) := by decide +kernel
theorem dL_men_89 : decode cL_men 89 = .ok (.bipush 13, 2) := by decide +kernel
theorem dL_men_91 : decode cL_men 91 = .ok (.iload 6, 2) := by decide +kernel
theorem dL_men_93 : decode cL_men 93 = .ok (.iadd, 1) := by decide +kernel
theorem dL_men_94 : decode cL_men 94 = .ok (.iaload, 1) := by decide +kernel
theorem dL_men_95 : decode cL_men 95 = .ok (.invokevirtual 24, 3) := by decide +kernel
theorem dL_men_98 : decode cL_men 98 = .ok (.iload 6, 2) := by decide +kernel
theorem dL_men_100 : decode cL_men 100 = .ok (.if_icmp .eq 5, 3) := by decide +kernel
theorem dL_men_103 : decode cL_men 103 = .ok (.iconst 0, 1) := by decide +kernel
theorem dL_men_104 : decode cL_men 104 = .ok (.ireturn, 1) := by decide +kernel
theorem dL_men_105 : decode cL_men 105 = .ok (.aload 4, 2) := by decide +kernel
theorem dL_men_107 : decode cL_men 107 = .ok (.bipush 20, 2) := by decide +kernel
theorem dL_men_109 : decode cL_men 109 = .ok (.dup2, 1) := by decide +kernel
theorem dL_men_110 : decode cL_men 110 = .ok (.iaload, 1) := by decide +kernel
theorem dL_men_111 : decode cL_men 111 = .ok (.iconst 1, 1) := by decide +kernel
theorem dL_men_112 : decode cL_men 112 = .ok (.iadd, 1) := by decide +kernel
theorem dL_men_113 : decode cL_men 113 = .ok (.iastore, 1) := by decide +kernel
theorem dL_men_114 : decode cL_men 114 = .ok (.iinc 6 1, 3) := by decide +kernel
theorem dL_men_117 : decode cL_men 117 = .ok (.goto (-95), 3) := by decide +kernel
theorem dL_men_120 : decode cL_men 120 = .ok (.iconst 1, 1) := by decide +kernel
theorem dL_men_121 : decode cL_men 121 = .ok (.ireturn, 1) := by decide +kernel
theorem dL_shaft_0 : decode cL_shaft 0 = .ok (.bipush 12, 2) := by decide +kernel
theorem dL_shaft_2 : decode cL_shaft 2 = .ok (.aload_n 0, 1) := by decide +kernel
theorem dL_shaft_3 : decode cL_shaft 3 = .ok (.bipush 51, 2) := by decide +kernel
theorem dL_shaft_5 : decode cL_shaft 5 = .ok (.iaload, 1) := by decide +kernel
theorem dL_shaft_6 : decode cL_shaft 6 = .ok (.iconst 1, 1) := by decide +kernel
theorem dL_shaft_7 : decode cL_shaft 7 = .ok (.if_icmp .ne 15, 3) := by decide +kernel
theorem dL_shaft_10 : decode cL_shaft 10 = .ok (.bipush 10, 2) := by decide +kernel
theorem dL_shaft_12 : decode cL_shaft 12 = .ok (.aload_n 0, 1) := by decide +kernel
theorem dL_shaft_13 : decode cL_shaft 13 = .ok (.bipush 52, 2) := by decide +kernel
theorem dL_shaft_15 : decode cL_shaft 15 = .ok (.iload_n 1, 1) := by decide +kernel
theorem dL_shaft_16 : decode cL_shaft 16 = .ok (.iadd, 1) := by decide +kernel
theorem dL_shaft_17 : decode cL_shaft 17 = .ok (.iaload, 1) := by decide +kernel
theorem dL_shaft_18 : decode cL_shaft 18 = .ok (.isub, 1) := by decide +kernel
theorem dL_shaft_19 : decode cL_shaft 19 = .ok (.goto 11, 3) := by decide +kernel
theorem dL_shaft_22 : decode cL_shaft 22 = .ok (.aload_n 0, 1) := by decide +kernel
theorem dL_shaft_23 : decode cL_shaft 23 = .ok (.bipush 52, 2) := by decide +kernel
theorem dL_shaft_25 : decode cL_shaft 25 = .ok (.iload_n 1, 1) := by decide +kernel
theorem dL_shaft_26 : decode cL_shaft 26 = .ok (.iadd, 1) := by decide +kernel
theorem dL_shaft_27 : decode cL_shaft 27 = .ok (.iaload, 1) := by decide +kernel
theorem dL_shaft_28 : decode cL_shaft 28 = .ok (.iconst 1, 1) := by decide +kernel
theorem dL_shaft_29 : decode cL_shaft 29 = .ok (.isub, 1) := by decide +kernel
theorem dL_shaft_30 : decode cL_shaft 30 = .ok (.imul, 1) := by decide +kernel
theorem dL_shaft_31 : decode cL_shaft 31 = .ok (.ireturn, 1) := by decide +kernel
set_option maxRecDepth 20000 in
theorem ggL_height_L_shaft : GoodIn wsL_height wsL_shaft := goodIn_r _ [4] (by decide +kernel) (by decide +kernel)
set_option maxRecDepth 20000 in
theorem gL_height_L_shaft : GoodIn wsL_height (va_wsS RL 27 yL_shaft wsL_shaft) := goodIn_app (goodIn_of _ (by decide +kernel)) ggL_height_L_shaft
theorem dL_height_0 : decode cL_height 0 = .ok (.aload_n 0, 1) := by decide +kernel
theorem dL_height_1 : decode cL_height 1 = .ok (.bipush 52, 2) := by decide +kernel
theorem dL_height_3 : decode cL_height 3 = .ok (.iload_n 1, 1) := by decide +kernel
theorem dL_height_4 : decode cL_height 4 = .ok (.iadd, 1) := by decide +kernel
theorem dL_height_5 : decode cL_height 5 = .ok (.iaload, 1) := by decide +kernel
theorem dL_height_6 : decode cL_height 6 = .ok (.ifCond .le 9, 3) := by decide +kernel
theorem dL_height_9 : decode cL_height 9 = .ok (.aload_n 0, 1) := by decide +kernel
theorem dL_height_10 : decode cL_height 10 = .ok (.iload_n 1, 1) := by decide +kernel
theorem dL_height_11 : decode cL_height 11 = .ok (.invokestatic 27, 3) := by decide +kernel
theorem dL_height_14 : decode cL_height 14 = .ok (.ireturn, 1) := by decide +kernel
theorem dL_height_15 : decode cL_height 15 = .ok (.iconst 1, 1) := by decide +kernel
theorem dL_height_16 : decode cL_height 16 = .ok (.iload_n 1, 1) := by decide +kernel
theorem dL_height_17 : decode cL_height 17 = .ok (.ishl, 1) := by decide +kernel
theorem dL_height_18 : decode cL_height 18 = .ok (.istore_n 2, 1) := by decide +kernel
theorem dL_height_19 : decode cL_height 19 = .ok (.iconst 0, 1) := by decide +kernel
theorem dL_height_20 : decode cL_height 20 = .ok (.istore_n 3, 1) := by decide +kernel
theorem dL_height_21 : decode cL_height 21 = .ok (.iload_n 3, 1) := by decide +kernel
theorem dL_height_22 : decode cL_height 22 = .ok (.bipush 7, 2) := by decide +kernel
theorem dL_height_24 : decode cL_height 24 = .ok (.if_icmp .ge 171, 3) := by decide +kernel
theorem dL_height_27 : decode cL_height 27 = .ok (.iload_n 2, 1) := by decide +kernel
theorem dL_height_28 : decode cL_height 28 = .ok (.istore 4, 2) := by decide +kernel
theorem dL_height_30 : decode cL_height 30 = .ok (.iconst 0, 1) := by decide +kernel
theorem dL_height_31 : decode cL_height 31 = .ok (.istore 5, 2) := by decide +kernel
theorem dL_height_33 : decode cL_height 33 = .ok (.iload 5, 2) := by decide +kernel
theorem dL_height_35 : decode cL_height 35 = .ok (.aload_n 0, 1) := by decide +kernel
theorem dL_height_36 : decode cL_height 36 = .ok (.iconst 0, 1) := by decide +kernel
theorem dL_height_37 : decode cL_height 37 = .ok (.iaload, 1) := by decide +kernel
theorem dL_height_38 : decode cL_height 38 = .ok (.if_icmp .ge 78, 3) := by decide +kernel
theorem dL_height_41 : decode cL_height 41 = .ok (.aload_n 0, 1) := by decide +kernel
theorem dL_height_42 : decode cL_height 42 = .ok (.bipush 41, 2) := by decide +kernel
theorem dL_height_44 : decode cL_height 44 = .ok (.iload 5, 2) := by decide +kernel
theorem dL_height_46 : decode cL_height 46 = .ok (.iadd, 1) := by decide +kernel
theorem dL_height_47 : decode cL_height 47 = .ok (.iaload, 1) := by decide +kernel
theorem dL_height_48 : decode cL_height 48 = .ok (.ifCond .ne 6, 3) := by decide +kernel
theorem dL_height_51 : decode cL_height 51 = .ok (.goto 59, 3) := by decide +kernel
theorem dL_height_54 : decode cL_height 54 = .ok (.iload_n 2, 1) := by decide +kernel
theorem dL_height_55 : decode cL_height 55 = .ok (.aload_n 0, 1) := by decide +kernel
theorem dL_height_56 : decode cL_height 56 = .ok (.iconst 1, 1) := by decide +kernel
theorem dL_height_57 : decode cL_height 57 = .ok (.iload 5, 2) := by decide +kernel
theorem dL_height_59 : decode cL_height 59 = .ok (.iadd, 1) := by decide +kernel
theorem dL_height_60 : decode cL_height 60 = .ok (.iaload, 1) := by decide +kernel
theorem dL_height_61 : decode cL_height 61 = .ok (.ishr, 1) := by decide +kernel
theorem dL_height_62 : decode cL_height 62 = .ok (.iconst 1, 1) := by decide +kernel
theorem dL_height_63 : decode cL_height 63 = .ok (.iand, 1) := by decide +kernel
theorem dL_height_64 : decode cL_height 64 = .ok (.iconst 1, 1) := by decide +kernel
theorem dL_height_65 : decode cL_height 65 = .ok (.if_icmp .ne 17, 3) := by decide +kernel
theorem dL_height_68 : decode cL_height 68 = .ok (.iload 4, 2) := by decide +kernel
theorem dL_height_70 : decode cL_height 70 = .ok (.iconst 1, 1) := by decide +kernel
theorem dL_height_71 : decode cL_height 71 = .ok (.aload_n 0, 1) := by decide +kernel
theorem dL_height_72 : decode cL_height 72 = .ok (.bipush 11, 2) := by decide +kernel
theorem dL_height_74 : decode cL_height 74 = .ok (.iload 5, 2) := by decide +kernel
theorem dL_height_76 : decode cL_height 76 = .ok (.iadd, 1) := by decide +kernel
theorem dL_height_77 : decode cL_height 77 = .ok (.iaload, 1) := by decide +kernel
theorem dL_height_78 : decode cL_height 78 = .ok (.ishl, 1) := by decide +kernel
theorem dL_height_79 : decode cL_height 79 = .ok (.ior, 1) := by decide +kernel
theorem dL_height_80 : decode cL_height 80 = .ok (.istore 4, 2) := by decide +kernel
theorem dL_height_82 : decode cL_height 82 = .ok (.iload_n 2, 1) := by decide +kernel
theorem dL_height_83 : decode cL_height 83 = .ok (.aload_n 0, 1) := by decide +kernel
theorem dL_height_84 : decode cL_height 84 = .ok (.bipush 11, 2) := by decide +kernel
theorem dL_height_86 : decode cL_height 86 = .ok (.iload 5, 2) := by decide +kernel
theorem dL_height_88 : decode cL_height 88 = .ok (.iadd, 1) := by decide +kernel
theorem dL_height_89 : decode cL_height 89 = .ok (.iaload, 1) := by decide +kernel
theorem dL_height_90 : decode cL_height 90 = .ok (.ishr, 1) := by decide +kernel
theorem dL_height_91 : decode cL_height 91 = .ok (.iconst 1, 1) := by decide +kernel
theorem dL_height_92 : decode cL_height 92 = .ok (.iand, 1) := by decide +kernel
theorem dL_height_93 : decode cL_height 93 = .ok (.iconst 1, 1) := by decide +kernel
theorem dL_height_94 : decode cL_height 94 = .ok (.if_icmp .ne 16, 3) := by decide +kernel
theorem dL_height_97 : decode cL_height 97 = .ok (.iload 4, 2) := by decide +kernel
theorem dL_height_99 : decode cL_height 99 = .ok (.iconst 1, 1) := by decide +kernel
theorem dL_height_100 : decode cL_height 100 = .ok (.aload_n 0, 1) := by decide +kernel
theorem dL_height_101 : decode cL_height 101 = .ok (.iconst 1, 1) := by decide +kernel
theorem dL_height_102 : decode cL_height 102 = .ok (.iload 5, 2) := by decide +kernel
theorem dL_height_104 : decode cL_height 104 = .ok (.iadd, 1) := by decide +kernel
theorem dL_height_105 : decode cL_height 105 = .ok (.iaload, 1) := by decide +kernel
theorem dL_height_106 : decode cL_height 106 = .ok (.ishl, 1) := by decide +kernel
theorem dL_height_107 : decode cL_height 107 = .ok (.ior, 1) := by decide +kernel
theorem dL_height_108 : decode cL_height 108 = .ok (.istore 4, 2) := by decide +kernel
theorem dL_height_110 : decode cL_height 110 = .ok (.iinc 5 1, 3) := by decide +kernel
theorem dL_height_113 : decode cL_height 113 = .ok (.goto (-80), 3) := by decide +kernel
theorem dL_height_116 : decode cL_height 116 = .ok (.iconst 0, 1) := by decide +kernel
theorem dL_height_117 : decode cL_height 117 = .ok (.istore 5, 2) := by decide +kernel
theorem dL_height_119 : decode cL_height 119 = .ok (.iconst 0, 1) := by decide +kernel
theorem dL_height_120 : decode cL_height 120 = .ok (.istore 6, 2) := by decide +kernel
theorem dL_height_122 : decode cL_height 122 = .ok (.iconst 0, 1) := by decide +kernel
theorem dL_height_123 : decode cL_height 123 = .ok (.istore 7, 2) := by decide +kernel
theorem dL_height_125 : decode cL_height 125 = .ok (.iload 7, 2) := by decide +kernel
theorem dL_height_127 : decode cL_height 127 = .ok (.bipush 7, 2) := by decide +kernel
theorem dL_height_129 : decode cL_height 129 = .ok (.if_icmp .ge 46, 3) := by decide +kernel
theorem dL_height_132 : decode cL_height 132 = .ok (.iload 4, 2) := by decide +kernel
theorem dL_height_134 : decode cL_height 134 = .ok (.iload 7, 2) := by decide +kernel
theorem dL_height_136 : decode cL_height 136 = .ok (.ishr, 1) := by decide +kernel
theorem dL_height_137 : decode cL_height 137 = .ok (.iconst 1, 1) := by decide +kernel
theorem dL_height_138 : decode cL_height 138 = .ok (.iand, 1) := by decide +kernel
theorem dL_height_139 : decode cL_height 139 = .ok (.ifCond .eq 30, 3) := by decide +kernel
theorem dL_height_142 : decode cL_height 142 = .ok (.aload_n 0, 1) := by decide +kernel
theorem dL_height_143 : decode cL_height 143 = .ok (.bipush 52, 2) := by decide +kernel
theorem dL_height_145 : decode cL_height 145 = .ok (.iload 7, 2) := by decide +kernel
theorem dL_height_147 : decode cL_height 147 = .ok (.iadd, 1) := by decide +kernel
theorem dL_height_148 : decode cL_height 148 = .ok (.iaload, 1) := by decide +kernel
theorem dL_height_149 : decode cL_height 149 = .ok (.ifCond .ne 6, 3) := by decide +kernel
theorem dL_height_152 : decode cL_height 152 = .ok (.goto 17, 3) := by decide +kernel
theorem dL_height_155 : decode cL_height 155 = .ok (.iinc 5 1, 3) := by decide +kernel
theorem dL_height_158 : decode cL_height 158 = .ok (.iload 6, 2) := by decide +kernel
theorem dL_height_160 : decode cL_height 160 = .ok (.aload_n 0, 1) := by decide +kernel
theorem dL_height_161 : decode cL_height 161 = .ok (.iload 7, 2) := by decide +kernel
theorem dL_height_163 : decode cL_height 163 = .ok (.invokestatic 27, 3) := by decide +kernel
theorem dL_height_166 : decode cL_height 166 = .ok (.iadd, 1) := by decide +kernel
theorem dL_height_167 : decode cL_height 167 = .ok (.istore 6, 2) := by decide +kernel
theorem dL_height_169 : decode cL_height 169 = .ok (.iinc 7 1, 3) := by decide +kernel
theorem dL_height_172 : decode cL_height 172 = .ok (.goto (-47), 3) := by decide +kernel
theorem dL_height_175 : decode cL_height 175 = .ok (.iload 5, 2) := by decide +kernel
theorem dL_height_177 : decode cL_height 177 = .ok (.ifCond .le 9, 3) := by decide +kernel
theorem dL_height_180 : decode cL_height 180 = .ok (.iload 6, 2) := by decide +kernel
theorem dL_height_182 : decode cL_height 182 = .ok (.iload 5, 2) := by decide +kernel
theorem dL_height_184 : decode cL_height 184 = .ok (.idiv, 1) := by decide +kernel
theorem dL_height_185 : decode cL_height 185 = .ok (.ireturn, 1) := by decide +kernel
theorem dL_height_186 : decode cL_height 186 = .ok (.iload 4, 2) := by decide +kernel
theorem dL_height_188 : decode cL_height 188 = .ok (.istore_n 2, 1) := by decide +kernel
theorem dL_height_189 : decode cL_height 189 = .ok (.iinc 3 1, 3) := by decide +kernel
theorem dL_height_192 : decode cL_height 192 = .ok (.goto (-171), 3) := by decide +kernel
theorem dL_height_195 : decode cL_height 195 = .ok (.iconst (-1), 1) := by decide +kernel
theorem dL_height_196 : decode cL_height 196 = .ok (.ireturn, 1) := by decide +kernel
set_option maxRecDepth 20000 in
theorem ggL_into_L_height : GoodIn wsL_into wsL_height := goodIn_r _ [4, 5, 6, 3, 7] (by decide +kernel) (by decide +kernel)
set_option maxRecDepth 20000 in
theorem gL_into_L_height : GoodIn wsL_into (va_wsS RL 30 yL_height wsL_height) := goodIn_app (goodIn_of _ (by decide +kernel)) ggL_into_L_height
theorem dL_into_0 : decode cL_into 0 = .ok (.aload_n 0, 1) := by decide +kernel
theorem dL_into_1 : decode cL_into 1 = .ok (.bipush 41, 2) := by decide +kernel
theorem dL_into_3 : decode cL_into 3 = .ok (.iload_n 1, 1) := by decide +kernel
theorem dL_into_4 : decode cL_into 4 = .ok (.iadd, 1) := by decide +kernel
theorem dL_into_5 : decode cL_into 5 = .ok (.iaload, 1) := by decide +kernel
theorem dL_into_6 : decode cL_into 6 = .ok (.ifCond .ne 5, 3) := by decide +kernel
theorem dL_into_9 : decode cL_into 9 = .ok (.iconst (-1), 1) := by decide +kernel
theorem dL_into_10 : decode cL_into 10 = .ok (.ireturn, 1) := by decide +kernel
theorem dL_into_11 : decode cL_into 11 = .ok (.aload_n 0, 1) := by decide +kernel
theorem dL_into_12 : decode cL_into 12 = .ok (.aload_n 0, 1) := by decide +kernel
theorem dL_into_13 : decode cL_into 13 = .ok (.iconst 1, 1) := by decide +kernel
theorem dL_into_14 : decode cL_into 14 = .ok (.iload_n 1, 1) := by decide +kernel
theorem dL_into_15 : decode cL_into 15 = .ok (.iadd, 1) := by decide +kernel
theorem dL_into_16 : decode cL_into 16 = .ok (.iaload, 1) := by decide +kernel
theorem dL_into_17 : decode cL_into 17 = .ok (.invokestatic 30, 3) := by decide +kernel
theorem dL_into_20 : decode cL_into 20 = .ok (.istore_n 2, 1) := by decide +kernel
theorem dL_into_21 : decode cL_into 21 = .ok (.aload_n 0, 1) := by decide +kernel
theorem dL_into_22 : decode cL_into 22 = .ok (.aload_n 0, 1) := by decide +kernel
theorem dL_into_23 : decode cL_into 23 = .ok (.bipush 11, 2) := by decide +kernel
theorem dL_into_25 : decode cL_into 25 = .ok (.iload_n 1, 1) := by decide +kernel
theorem dL_into_26 : decode cL_into 26 = .ok (.iadd, 1) := by decide +kernel
theorem dL_into_27 : decode cL_into 27 = .ok (.iaload, 1) := by decide +kernel
theorem dL_into_28 : decode cL_into 28 = .ok (.invokestatic 30, 3) := by decide +kernel
theorem dL_into_31 : decode cL_into 31 = .ok (.istore_n 3, 1) := by decide +kernel
theorem dL_into_32 : decode cL_into 32 = .ok (.iload_n 2, 1) := by decide +kernel
theorem dL_into_33 : decode cL_into 33 = .ok (.ifCond .lt 12, 3) := by decide +kernel
theorem dL_into_36 : decode cL_into 36 = .ok (.iload_n 3, 1) := by decide +kernel
theorem dL_into_37 : decode cL_into 37 = .ok (.ifCond .lt 8, 3) := by decide +kernel
theorem dL_into_40 : decode cL_into 40 = .ok (.iload_n 2, 1) := by decide +kernel
theorem dL_into_41 : decode cL_into 41 = .ok (.iload_n 3, 1) := by decide +kernel
theorem dL_into_42 : decode cL_into 42 = .ok (.if_icmp .ne 7, 3) := by decide +kernel
theorem dL_into_45 : decode cL_into 45 = .ok (.iconst (-1), 1) := by decide +kernel
theorem dL_into_46 : decode cL_into 46 = .ok (.goto 22, 3) := by decide +kernel
theorem dL_into_49 : decode cL_into 49 = .ok (.iload_n 2, 1) := by decide +kernel
theorem dL_into_50 : decode cL_into 50 = .ok (.iload_n 3, 1) := by decide +kernel
theorem dL_into_51 : decode cL_into 51 = .ok (.if_icmp .ge 11, 3) := by decide +kernel
theorem dL_into_54 : decode cL_into 54 = .ok (.aload_n 0, 1) := by decide +kernel
theorem dL_into_55 : decode cL_into 55 = .ok (.iconst 1, 1) := by decide +kernel
theorem dL_into_56 : decode cL_into 56 = .ok (.iload_n 1, 1) := by decide +kernel
theorem dL_into_57 : decode cL_into 57 = .ok (.iadd, 1) := by decide +kernel
theorem dL_into_58 : decode cL_into 58 = .ok (.iaload, 1) := by decide +kernel
theorem dL_into_59 : decode cL_into 59 = .ok (.goto 9, 3) := by decide +kernel
theorem dL_into_62 : decode cL_into 62 = .ok (.aload_n 0, 1) := by decide +kernel
theorem dL_into_63 : decode cL_into 63 = .ok (.bipush 11, 2) := by decide +kernel
theorem dL_into_65 : decode cL_into 65 = .ok (.iload_n 1, 1) := by decide +kernel
theorem dL_into_66 : decode cL_into 66 = .ok (.iadd, 1) := by decide +kernel
theorem dL_into_67 : decode cL_into 67 = .ok (.iaload, 1) := by decide +kernel
theorem dL_into_68 : decode cL_into 68 = .ok (.ireturn, 1) := by decide +kernel
theorem dL_other_0 : decode cL_other 0 = .ok (.aload_n 0, 1) := by decide +kernel
theorem dL_other_1 : decode cL_other 1 = .ok (.iconst 1, 1) := by decide +kernel
theorem dL_other_2 : decode cL_other 2 = .ok (.iload_n 1, 1) := by decide +kernel
theorem dL_other_3 : decode cL_other 3 = .ok (.iadd, 1) := by decide +kernel
theorem dL_other_4 : decode cL_other 4 = .ok (.iaload, 1) := by decide +kernel
theorem dL_other_5 : decode cL_other 5 = .ok (.iload_n 2, 1) := by decide +kernel
theorem dL_other_6 : decode cL_other 6 = .ok (.if_icmp .ne 12, 3) := by decide +kernel
theorem dL_other_9 : decode cL_other 9 = .ok (.aload_n 0, 1) := by decide +kernel
theorem dL_other_10 : decode cL_other 10 = .ok (.bipush 11, 2) := by decide +kernel
theorem dL_other_12 : decode cL_other 12 = .ok (.iload_n 1, 1) := by decide +kernel
theorem dL_other_13 : decode cL_other 13 = .ok (.iadd, 1) := by decide +kernel
theorem dL_other_14 : decode cL_other 14 = .ok (.iaload, 1) := by decide +kernel
theorem dL_other_15 : decode cL_other 15 = .ok (.goto 8, 3) := by decide +kernel
theorem dL_other_18 : decode cL_other 18 = .ok (.aload_n 0, 1) := by decide +kernel
theorem dL_other_19 : decode cL_other 19 = .ok (.iconst 1, 1) := by decide +kernel
theorem dL_other_20 : decode cL_other 20 = .ok (.iload_n 1, 1) := by decide +kernel
theorem dL_other_21 : decode cL_other 21 = .ok (.iadd, 1) := by decide +kernel
theorem dL_other_22 : decode cL_other 22 = .ok (.iaload, 1) := by decide +kernel
theorem dL_other_23 : decode cL_other 23 = .ok (.ireturn, 1) := by decide +kernel
set_option maxRecDepth 20000 in
theorem ggL_air_L_into : GoodIn wsL_air wsL_into := goodIn_r _ [5, 6, 7, 4, 8, 9, 10, 11] (by decide +kernel) (by decide +kernel)
set_option maxRecDepth 20000 in
theorem gL_air_L_into : GoodIn wsL_air (va_wsS RL 33 yL_into wsL_into) := goodIn_app (goodIn_of _ (by decide +kernel)) ggL_air_L_into
theorem dL_air_0 : decode cL_air 0 = .ok (.bipush 10, 2) := by decide +kernel
theorem dL_air_2 : decode cL_air 2 = .ok (.newarray .int, 2) := by decide +kernel
theorem dL_air_4 : decode cL_air 4 = .ok (.astore_n 1, 1) := by decide +kernel
theorem dL_air_5 : decode cL_air 5 = .ok (.iconst 0, 1) := by decide +kernel
theorem dL_air_6 : decode cL_air 6 = .ok (.istore_n 2, 1) := by decide +kernel
theorem dL_air_7 : decode cL_air 7 = .ok (.iload_n 2, 1) := by decide +kernel
theorem dL_air_8 : decode cL_air 8 = .ok (.bipush 10, 2) := by decide +kernel
theorem dL_air_10 : decode cL_air 10 = .ok (.if_icmp .ge 28, 3) := by decide +kernel
theorem dL_air_13 : decode cL_air 13 = .ok (.aload_n 1, 1) := by decide +kernel
theorem dL_air_14 : decode cL_air 14 = .ok (.iload_n 2, 1) := by decide +kernel
theorem dL_air_15 : decode cL_air 15 = .ok (.iload_n 2, 1) := by decide +kernel
theorem dL_air_16 : decode cL_air 16 = .ok (.aload_n 0, 1) := by decide +kernel
theorem dL_air_17 : decode cL_air 17 = .ok (.iconst 0, 1) := by decide +kernel
theorem dL_air_18 : decode cL_air 18 = .ok (.iaload, 1) := by decide +kernel
theorem dL_air_19 : decode cL_air 19 = .ok (.if_icmp .ge 11, 3) := by decide +kernel
theorem dL_air_22 : decode cL_air 22 = .ok (.aload_n 0, 1) := by decide +kernel
theorem dL_air_23 : decode cL_air 23 = .ok (.iload_n 2, 1) := by decide +kernel
theorem dL_air_24 : decode cL_air 24 = .ok (.invokestatic 33, 3) := by decide +kernel
theorem dL_air_27 : decode cL_air 27 = .ok (.goto 4, 3) := by decide +kernel
theorem dL_air_30 : decode cL_air 30 = .ok (.iconst (-1), 1) := by decide +kernel
theorem dL_air_31 : decode cL_air 31 = .ok (.iastore, 1) := by decide +kernel
theorem dL_air_32 : decode cL_air 32 = .ok (.iinc 2 1, 3) := by decide +kernel
theorem dL_air_35 : decode cL_air 35 = .ok (.goto (-28), 3) := by decide +kernel
theorem dL_air_38 : decode cL_air 38 = .ok (.aload_n 1, 1) := by decide +kernel
theorem dL_air_39 : decode cL_air 39 = .ok (.areturn, 1) := by decide +kernel
theorem dL_breathes_0 : decode cL_breathes 0 = .ok (.iconst 0, 1) := by decide +kernel
theorem dL_breathes_1 : decode cL_breathes 1 = .ok (.istore_n 3, 1) := by decide +kernel
theorem dL_breathes_2 : decode cL_breathes 2 = .ok (.iload_n 3, 1) := by decide +kernel
theorem dL_breathes_3 : decode cL_breathes 3 = .ok (.aload_n 0, 1) := by decide +kernel
theorem dL_breathes_4 : decode cL_breathes 4 = .ok (.iconst 0, 1) := by decide +kernel
theorem dL_breathes_5 : decode cL_breathes 5 = .ok (.iaload, 1) := by decide +kernel
theorem dL_breathes_6 : decode cL_breathes 6 = .ok (.if_icmp .ge 36, 3) := by decide +kernel
theorem dL_breathes_9 : decode cL_breathes 9 = .ok (.aload_n 1, 1) := by decide +kernel
theorem dL_breathes_10 : decode cL_breathes 10 = .ok (.iload_n 3, 1) := by decide +kernel
theorem dL_breathes_11 : decode cL_breathes 11 = .ok (.iaload, 1) := by decide +kernel
theorem dL_breathes_12 : decode cL_breathes 12 = .ok (.ifCond .lt 24, 3) := by decide +kernel
theorem dL_breathes_15 : decode cL_breathes 15 = .ok (.aload_n 0, 1) := by decide +kernel
theorem dL_breathes_16 : decode cL_breathes 16 = .ok (.iconst 1, 1) := by decide +kernel
theorem dL_breathes_17 : decode cL_breathes 17 = .ok (.iload_n 3, 1) := by decide +kernel
theorem dL_breathes_18 : decode cL_breathes 18 = .ok (.iadd, 1) := by decide +kernel
theorem dL_breathes_19 : decode cL_breathes 19 = .ok (.iaload, 1) := by decide +kernel
theorem dL_breathes_20 : decode cL_breathes 20 = .ok (.iload_n 2, 1) := by decide +kernel
theorem dL_breathes_21 : decode cL_breathes 21 = .ok (.if_icmp .eq 13, 3) := by decide +kernel
theorem dL_breathes_24 : decode cL_breathes 24 = .ok (.aload_n 0, 1) := by decide +kernel
theorem dL_breathes_25 : decode cL_breathes 25 = .ok (.bipush 11, 2) := by decide +kernel
theorem dL_breathes_27 : decode cL_breathes 27 = .ok (.iload_n 3, 1) := by decide +kernel
theorem dL_breathes_28 : decode cL_breathes 28 = .ok (.iadd, 1) := by decide +kernel
theorem dL_breathes_29 : decode cL_breathes 29 = .ok (.iaload, 1) := by decide +kernel
theorem dL_breathes_30 : decode cL_breathes 30 = .ok (.iload_n 2, 1) := by decide +kernel
theorem dL_breathes_31 : decode cL_breathes 31 = .ok (.if_icmp .ne 5, 3) := by decide +kernel
theorem dL_breathes_34 : decode cL_breathes 34 = .ok (.iconst 1, 1) := by decide +kernel
theorem dL_breathes_35 : decode cL_breathes 35 = .ok (.ireturn, 1) := by decide +kernel
theorem dL_breathes_36 : decode cL_breathes 36 = .ok (.iinc 3 1, 3) := by decide +kernel
theorem dL_breathes_39 : decode cL_breathes 39 = .ok (.goto (-37), 3) := by decide +kernel
theorem dL_breathes_42 : decode cL_breathes 42 = .ok (.iconst 0, 1) := by decide +kernel
theorem dL_breathes_43 : decode cL_breathes 43 = .ok (.ireturn, 1) := by decide +kernel
theorem dL_bears_0 : decode cL_bears 0 = .ok (.iload_n 0, 1) := by decide +kernel
theorem dL_bears_1 : decode cL_bears 1 = .ok (.iconst 2, 1) := by decide +kernel
theorem dL_bears_2 : decode cL_bears 2 = .ok (.if_icmp .ne 7, 3) := by decide +kernel
theorem dL_bears_5 : decode cL_bears 5 = .ok (.iconst 1, 1) := by decide +kernel
theorem dL_bears_6 : decode cL_bears 6 = .ok (.goto 23, 3) := by decide +kernel
theorem dL_bears_9 : decode cL_bears 9 = .ok (.iload_n 0, 1) := by decide +kernel
theorem dL_bears_10 : decode cL_bears 10 = .ok (.iconst 3, 1) := by decide +kernel
theorem dL_bears_11 : decode cL_bears 11 = .ok (.if_icmp .ne 7, 3) := by decide +kernel
theorem dL_bears_14 : decode cL_bears 14 = .ok (.iconst 2, 1) := by decide +kernel
theorem dL_bears_15 : decode cL_bears 15 = .ok (.goto 14, 3) := by decide +kernel
theorem dL_bears_18 : decode cL_bears 18 = .ok (.iload_n 0, 1) := by decide +kernel
theorem dL_bears_19 : decode cL_bears 19 = .ok (.iconst 4, 1) := by decide +kernel
theorem dL_bears_20 : decode cL_bears 20 = .ok (.if_icmp .ne 8, 3) := by decide +kernel
theorem dL_bears_23 : decode cL_bears 23 = .ok (.bipush 6, 2) := by decide +kernel
theorem dL_bears_25 : decode cL_bears 25 = .ok (.goto 4, 3) := by decide +kernel
theorem dL_bears_28 : decode cL_bears 28 = .ok (.iconst 4, 1) := by decide +kernel
theorem dL_bears_29 : decode cL_bears 29 = .ok (.ireturn, 1) := by decide +kernel
set_option maxRecDepth 20000 in
theorem ggL_minute_L_breathes : GoodIn wsL_minute wsL_breathes := goodIn_r _ [4] (by decide +kernel) (by decide +kernel)
set_option maxRecDepth 20000 in
theorem gL_minute_L_breathes : GoodIn wsL_minute (va_wsS RL 36 yL_breathes wsL_breathes) := goodIn_app (goodIn_of _ (by decide +kernel)) ggL_minute_L_breathes
set_option maxRecDepth 20000 in
theorem ggL_minute_L_bears : GoodIn wsL_minute wsL_bears := goodIn_r _ [7] (by decide +kernel) (by decide +kernel)
set_option maxRecDepth 20000 in
theorem gL_minute_L_bears : GoodIn wsL_minute (va_wsS RL 40 yL_bears wsL_bears) := goodIn_app (goodIn_of _ (by decide +kernel)) ggL_minute_L_bears
theorem dL_minute_0 : decode cL_minute 0 = .ok (.iconst 0, 1) := by decide +kernel
theorem dL_minute_1 : decode cL_minute 1 = .ok (.istore_n 3, 1) := by decide +kernel
theorem dL_minute_2 : decode cL_minute 2 = .ok (.iload_n 3, 1) := by decide +kernel
theorem dL_minute_3 : decode cL_minute 3 = .ok (.bipush 7, 2) := by decide +kernel
theorem dL_minute_5 : decode cL_minute 5 = .ok (.if_icmp .ge 43, 3) := by decide +kernel
theorem dL_minute_8 : decode cL_minute 8 = .ok (.aload_n 2, 1) := by decide +kernel
theorem dL_minute_9 : decode cL_minute 9 = .ok (.iload_n 3, 1) := by decide +kernel
theorem dL_minute_10 : decode cL_minute 10 = .ok (.aload_n 0, 1) := by decide +kernel
theorem dL_minute_11 : decode cL_minute 11 = .ok (.aload_n 1, 1) := by decide +kernel
theorem dL_minute_12 : decode cL_minute 12 = .ok (.iload_n 3, 1) := by decide +kernel
theorem dL_minute_13 : decode cL_minute 13 = .ok (.invokestatic 36, 3) := by decide +kernel
theorem dL_minute_16 : decode cL_minute 16 = .ok (.ifCond .eq 7, 3) := by decide +kernel
theorem dL_minute_19 : decode cL_minute 19 = .ok (.iconst 0, 1) := by decide +kernel
theorem dL_minute_20 : decode cL_minute 20 = .ok (.goto 21, 3) := by decide +kernel
theorem dL_minute_23 : decode cL_minute 23 = .ok (.aload_n 2, 1) := by decide +kernel
theorem dL_minute_24 : decode cL_minute 24 = .ok (.iload_n 3, 1) := by decide +kernel
theorem dL_minute_25 : decode cL_minute 25 = .ok (.iaload, 1) := by decide +kernel
theorem dL_minute_26 : decode cL_minute 26 = .ok (.bipush 9, 2) := by decide +kernel
theorem dL_minute_28 : decode cL_minute 28 = .ok (.if_icmp .ge 11, 3) := by decide +kernel
theorem dL_minute_31 : decode cL_minute 31 = .ok (.aload_n 2, 1) := by decide +kernel
theorem dL_minute_32 : decode cL_minute 32 = .ok (.iload_n 3, 1) := by decide +kernel
theorem dL_minute_33 : decode cL_minute 33 = .ok (.iaload, 1) := by decide +kernel
theorem dL_minute_34 : decode cL_minute 34 = .ok (.iconst 1, 1) := by decide +kernel
theorem dL_minute_35 : decode cL_minute 35 = .ok (.iadd, 1) := by decide +kernel
theorem dL_minute_36 : decode cL_minute 36 = .ok (.goto 5, 3) := by decide +kernel
theorem dL_minute_39 : decode cL_minute 39 = .ok (.bipush 9, 2) := by decide +kernel
theorem dL_minute_41 : decode cL_minute 41 = .ok (.iastore, 1) := by decide +kernel
theorem dL_minute_42 : decode cL_minute 42 = .ok (.iinc 3 1, 3) := by decide +kernel
theorem dL_minute_45 : decode cL_minute 45 = .ok (.goto (-43), 3) := by decide +kernel
theorem dL_minute_48 : decode cL_minute 48 = .ok (.iconst 0, 1) := by decide +kernel
theorem dL_minute_49 : decode cL_minute 49 = .ok (.istore_n 3, 1) := by decide +kernel
theorem dL_minute_50 : decode cL_minute 50 = .ok (.iconst 0, 1) := by decide +kernel
theorem dL_minute_51 : decode cL_minute 51 = .ok (.istore 4, 2) := by decide +kernel
theorem dL_minute_53 : decode cL_minute 53 = .ok (.iload 4, 2) := by decide +kernel
theorem dL_minute_55 : decode cL_minute 55 = .ok (.aload_n 2, 1) := by decide +kernel
theorem dL_minute_56 : decode cL_minute 56 = .ok (.bipush 20, 2) := by decide +kernel
theorem dL_minute_58 : decode cL_minute 58 = .ok (.iaload, 1) := by decide +kernel
theorem dL_minute_59 : decode cL_minute 59 = .ok (.if_icmp .ge 61, 3) := by decide +kernel
theorem dL_minute_62 : decode cL_minute 62 = .ok (.aload_n 2, 1) := by decide +kernel
theorem dL_minute_63 : decode cL_minute 63 = .ok (.bipush 19, 2) := by decide +kernel
theorem dL_minute_65 : decode cL_minute 65 = .ok (.iaload, 1) := by decide +kernel
theorem dL_minute_66 : decode cL_minute 66 = .ok (.iload 4, 2) := by decide +kernel
theorem dL_minute_68 : decode cL_minute 68 = .ok (.ishr, 1) := by decide +kernel
theorem dL_minute_69 : decode cL_minute 69 = .ok (.iconst 1, 1) := by decide +kernel
theorem dL_minute_70 : decode cL_minute 70 = .ok (.iand, 1) := by decide +kernel
theorem dL_minute_71 : decode cL_minute 71 = .ok (.iconst 1, 1) := by decide +kernel
theorem dL_minute_72 : decode cL_minute 72 = .ok (.if_icmp .eq 42, 3) := by decide +kernel
theorem dL_minute_75 : decode cL_minute 75 = .ok (.aload_n 2, 1) := by decide +kernel
theorem dL_minute_76 : decode cL_minute 76 = .ok (.aload_n 2, 1) := by decide +kernel
theorem dL_minute_77 : decode cL_minute 77 = .ok (.bipush 13, 2) := by decide +kernel
theorem dL_minute_79 : decode cL_minute 79 = .ok (.iload 4, 2) := by decide +kernel
theorem dL_minute_81 : decode cL_minute 81 = .ok (.iadd, 1) := by decide +kernel
theorem dL_minute_82 : decode cL_minute 82 = .ok (.iaload, 1) := by decide +kernel
theorem dL_minute_83 : decode cL_minute 83 = .ok (.iaload, 1) := by decide +kernel
theorem dL_minute_84 : decode cL_minute 84 = .ok (.aload_n 2, 1) := by decide +kernel
theorem dL_minute_85 : decode cL_minute 85 = .ok (.bipush 7, 2) := by decide +kernel
theorem dL_minute_87 : decode cL_minute 87 = .ok (.iload 4, 2) := by decide +kernel
theorem dL_minute_89 : decode cL_minute 89 = .ok (.iadd, 1) := by decide +kernel
theorem dL_minute_90 : decode cL_minute 90 = .ok (.iaload, 1) := by decide +kernel
theorem dL_minute_91 : decode cL_minute 91 = .ok (.invokestatic 40, 3) := by decide +kernel
theorem dL_minute_94 : decode cL_minute 94 = .ok (.if_icmp .gt 6, 3) := by decide +kernel
theorem dL_minute_97 : decode cL_minute 97 = .ok (.goto 17, 3) := by decide +kernel
theorem dL_minute_100 : decode cL_minute 100 = .ok (.aload_n 2, 1) := by decide +kernel
theorem dL_minute_101 : decode cL_minute 101 = .ok (.bipush 19, 2) := by decide +kernel
theorem dL_minute_103 : decode cL_minute 103 = .ok (.dup2, 1) := by decide +kernel
theorem dL_minute_104 : decode cL_minute 104 = .ok (.iaload, 1) := by decide +kernel
theorem dL_minute_105 : decode cL_minute 105 = .ok (.iconst 1, 1) := by decide +kernel
theorem dL_minute_106 : decode cL_minute 106 = .ok (.iload 4, 2) := by decide +kernel
theorem dL_minute_108 : decode cL_minute 108 = .ok (.ishl, 1) := by decide +kernel
theorem dL_minute_109 : decode cL_minute 109 = .ok (.ior, 1) := by decide +kernel
theorem dL_minute_110 : decode cL_minute 110 = .ok (.iastore, 1) := by decide +kernel
theorem dL_minute_111 : decode cL_minute 111 = .ok (.iinc 3 1, 3) := by decide +kernel
theorem dL_minute_114 : decode cL_minute 114 = .ok (.iinc 4 1, 3) := by decide +kernel
theorem dL_minute_117 : decode cL_minute 117 = .ok (.goto (-64), 3) := by decide +kernel
theorem dL_minute_120 : decode cL_minute 120 = .ok (.iload_n 3, 1) := by decide +kernel
theorem dL_minute_121 : decode cL_minute 121 = .ok (.ireturn, 1) := by decide +kernel
set_option maxRecDepth 20000 in
theorem ggL_stands_L_air : GoodIn wsL_stands wsL_air := goodIn_r _ [4, 5, 6, 7, 3, 8, 9, 10, 11, 12, 13, 14] (by decide +kernel) (by decide +kernel)
set_option maxRecDepth 20000 in
theorem gL_stands_L_air : GoodIn wsL_stands (va_wsS RL 44 yL_air wsL_air) := goodIn_app (goodIn_of _ (by decide +kernel)) ggL_stands_L_air
set_option maxRecDepth 20000 in
theorem ggL_stands_X10_gallery : GoodIn wsL_stands wsX10_gallery := goodIn_r _ [19, 20, 21, 22, 23, 24, 25, 26, 27, 28, 29, 30, 31, 32, 33, 34, 35, 36, 37, 38, 39, 40, 41, 42, 18, 43, 105, 106, 107, 108, 109, 110, 111, 112, 113, 114, 115, 116, 117, 118, 119, 120, 121, 122, 123, 124, 125, 126, 127, 128, 129, 130, 131, 132, 133, 134, 135, 136, 137] (by decide +kernel) (by decide +kernel)
set_option maxRecDepth 20000 in
theorem gL_stands_X10_gallery : GoodIn wsL_stands (wsV RL 48 RX10 yX10_gallery wsX10_gallery) := goodIn_app (goodIn_of _ (by decide +kernel)) ggL_stands_X10_gallery
set_option maxRecDepth 20000 in
theorem ggL_stands_X10_knot : GoodIn wsL_stands wsX10_knot := goodIn_r _ [47, 20, 48, 27, 49, 50, 25, 51, 52, 53, 54, 32, 55, 34, 56, 57, 18, 58, 35, 36, 37, 38, 39, 40, 41, 42, 43, 105, 106, 107, 108, 109, 110, 111, 112, 113, 114, 115, 116, 117, 118, 119, 120, 121, 122, 123, 124, 125, 126, 133, 134, 135, 136, 127, 128, 129, 130, 131, 132, 137] (by decide +kernel) (by decide +kernel)
set_option maxRecDepth 20000 in
theorem gL_stands_X10_knot : GoodIn wsL_stands (wsV RL 51 RX10 yX10_knot wsX10_knot) := goodIn_app (goodIn_of _ (by decide +kernel)) ggL_stands_X10_knot
set_option maxRecDepth 20000 in
theorem ggL_stands_L_height : GoodIn wsL_stands wsL_height := goodIn_r _ [11, 12, 13, 3, 14] (by decide +kernel) (by decide +kernel)
set_option maxRecDepth 20000 in
theorem gL_stands_L_height : GoodIn wsL_stands (va_wsS RL 30 yL_height wsL_height) := goodIn_app (goodIn_of _ (by decide +kernel)) ggL_stands_L_height
set_option maxRecDepth 20000 in
theorem ggL_stands_L_breathes : GoodIn wsL_stands wsL_breathes := goodIn_r _ [61] (by decide +kernel) (by decide +kernel)
set_option maxRecDepth 20000 in
theorem gL_stands_L_breathes : GoodIn wsL_stands (va_wsS RL 36 yL_breathes wsL_breathes) := goodIn_app (goodIn_of _ (by decide +kernel)) ggL_stands_L_breathes
set_option maxRecDepth 20000 in
theorem ggL_stands_X10_about : GoodIn wsL_stands wsX10_about := goodIn_r _ [65, 66, 67, 25, 68, 69, 70, 71, 72, 73, 74, 75, 35, 36, 37, 38, 39, 40, 41, 42, 18, 43, 76, 77, 78, 79, 80, 81, 105, 106, 107, 108, 109, 110, 111, 112, 113, 114, 115, 116, 117, 118, 119, 138, 139, 127, 128, 129, 130, 131, 132, 137] (by decide +kernel) (by decide +kernel)
set_option maxRecDepth 20000 in
theorem gL_stands_X10_about : GoodIn wsL_stands (wsV RL 54 RX10 yX10_about wsX10_about) := goodIn_app (goodIn_of _ (by decide +kernel)) ggL_stands_X10_about
set_option maxRecDepth 20000 in
theorem ggL_stands_L_bears : GoodIn wsL_stands wsL_bears := goodIn_r _ [84] (by decide +kernel) (by decide +kernel)
set_option maxRecDepth 20000 in
theorem gL_stands_L_bears : GoodIn wsL_stands (va_wsS RL 40 yL_bears wsL_bears) := goodIn_app (goodIn_of _ (by decide +kernel)) ggL_stands_L_bears
set_option maxRecDepth 20000 in
theorem ggL_stands_X10_count : GoodIn wsL_stands wsX10_count := goodIn_r _ [88, 20, 89, 24, 90, 66, 91, 25, 92, 93, 94, 95, 96, 97, 98, 99, 100, 101, 102, 103, 104, 105, 106, 107, 108, 109, 110, 111, 112, 113, 114, 115, 116, 117, 118, 119, 120, 121, 122, 123, 124, 125, 126, 138, 139, 127, 128, 129, 130, 131, 132, 140, 141, 142] (by decide +kernel) (by decide +kernel)
set_option maxRecDepth 20000 in
theorem gL_stands_X10_count : GoodIn wsL_stands (wsV RL 57 RX10 yX10_count wsX10_count) := goodIn_app (goodIn_of _ (by decide +kernel)) ggL_stands_X10_count
theorem dL_stands_0 : decode cL_stands 0 = .ok (.aload_n 1, 1) := by decide +kernel
theorem dL_stands_1 : decode cL_stands 1 = .ok (.invokestatic 44, 3) := by decide +kernel
theorem dL_stands_4 : decode cL_stands 4 = .ok (.astore_n 3, 1) := by decide +kernel
theorem dL_stands_5 : decode cL_stands 5 = .ok (.iconst 0, 1) := by decide +kernel
theorem dL_stands_6 : decode cL_stands 6 = .ok (.istore 4, 2) := by decide +kernel
theorem dL_stands_8 : decode cL_stands 8 = .ok (.iload 4, 2) := by decide +kernel
theorem dL_stands_10 : decode cL_stands 10 = .ok (.aload_n 1, 1) := by decide +kernel
theorem dL_stands_11 : decode cL_stands 11 = .ok (.iconst 0, 1) := by decide +kernel
theorem dL_stands_12 : decode cL_stands 12 = .ok (.iaload, 1) := by decide +kernel
theorem dL_stands_13 : decode cL_stands 13 = .ok (.if_icmp .ge 109, 3) := by decide +kernel
theorem dL_stands_16 : decode cL_stands 16 = .ok (.aload_n 0, 1) := by decide +kernel
theorem dL_stands_17 : decode cL_stands 17 = .ok (.iload 4, 2) := by decide +kernel
theorem dL_stands_19 : decode cL_stands 19 = .ok (.iconst 0, 1) := by decide +kernel
theorem dL_stands_20 : decode cL_stands 20 = .ok (.invokevirtual 48, 3) := by decide +kernel
theorem dL_stands_23 : decode cL_stands 23 = .ok (.aload_n 1, 1) := by decide +kernel
theorem dL_stands_24 : decode cL_stands 24 = .ok (.iconst 1, 1) := by decide +kernel
theorem dL_stands_25 : decode cL_stands 25 = .ok (.iload 4, 2) := by decide +kernel
theorem dL_stands_27 : decode cL_stands 27 = .ok (.iadd, 1) := by decide +kernel
theorem dL_stands_28 : decode cL_stands 28 = .ok (.iaload, 1) := by decide +kernel
theorem dL_stands_29 : decode cL_stands 29 = .ok (.if_icmp .ne 85, 3) := by decide +kernel
theorem dL_stands_32 : decode cL_stands 32 = .ok (.aload_n 0, 1) := by decide +kernel
theorem dL_stands_33 : decode cL_stands 33 = .ok (.iload 4, 2) := by decide +kernel
theorem dL_stands_35 : decode cL_stands 35 = .ok (.iconst 1, 1) := by decide +kernel
theorem dL_stands_36 : decode cL_stands 36 = .ok (.invokevirtual 48, 3) := by decide +kernel
theorem dL_stands_39 : decode cL_stands 39 = .ok (.aload_n 1, 1) := by decide +kernel
theorem dL_stands_40 : decode cL_stands 40 = .ok (.bipush 11, 2) := by decide +kernel
theorem dL_stands_42 : decode cL_stands 42 = .ok (.iload 4, 2) := by decide +kernel
theorem dL_stands_44 : decode cL_stands 44 = .ok (.iadd, 1) := by decide +kernel
theorem dL_stands_45 : decode cL_stands 45 = .ok (.iaload, 1) := by decide +kernel
theorem dL_stands_46 : decode cL_stands 46 = .ok (.if_icmp .ne 68, 3) := by decide +kernel
theorem dL_stands_49 : decode cL_stands 49 = .ok (.aload_n 0, 1) := by decide +kernel
theorem dL_stands_50 : decode cL_stands 50 = .ok (.iload 4, 2) := by decide +kernel
theorem dL_stands_52 : decode cL_stands 52 = .ok (.iconst 2, 1) := by decide +kernel
theorem dL_stands_53 : decode cL_stands 53 = .ok (.invokevirtual 48, 3) := by decide +kernel
theorem dL_stands_56 : decode cL_stands 56 = .ok (.aload_n 1, 1) := by decide +kernel
theorem dL_stands_57 : decode cL_stands 57 = .ok (.bipush 21, 2) := by decide +kernel
theorem dL_stands_59 : decode cL_stands 59 = .ok (.iload 4, 2) := by decide +kernel
theorem dL_stands_61 : decode cL_stands 61 = .ok (.iadd, 1) := by decide +kernel
theorem dL_stands_62 : decode cL_stands 62 = .ok (.iaload, 1) := by decide +kernel
theorem dL_stands_63 : decode cL_stands 63 = .ok (.if_icmp .ne 51, 3) := by decide +kernel
theorem dL_stands_66 : decode cL_stands 66 = .ok (.aload_n 0, 1) := by decide +kernel
theorem dL_stands_67 : decode cL_stands 67 = .ok (.iload 4, 2) := by decide +kernel
theorem dL_stands_69 : decode cL_stands 69 = .ok (.iconst 3, 1) := by decide +kernel
theorem dL_stands_70 : decode cL_stands 70 = .ok (.invokevirtual 48, 3) := by decide +kernel
theorem dL_stands_73 : decode cL_stands 73 = .ok (.aload_n 1, 1) := by decide +kernel
theorem dL_stands_74 : decode cL_stands 74 = .ok (.bipush 31, 2) := by decide +kernel
theorem dL_stands_76 : decode cL_stands 76 = .ok (.iload 4, 2) := by decide +kernel
theorem dL_stands_78 : decode cL_stands 78 = .ok (.iadd, 1) := by decide +kernel
theorem dL_stands_79 : decode cL_stands 79 = .ok (.iaload, 1) := by decide +kernel
theorem dL_stands_80 : decode cL_stands 80 = .ok (.if_icmp .ne 34, 3) := by decide +kernel
theorem dL_stands_83 : decode cL_stands 83 = .ok (.aload_n 0, 1) := by decide +kernel
theorem dL_stands_84 : decode cL_stands 84 = .ok (.iload 4, 2) := by decide +kernel
theorem dL_stands_86 : decode cL_stands 86 = .ok (.iconst 4, 1) := by decide +kernel
theorem dL_stands_87 : decode cL_stands 87 = .ok (.invokevirtual 48, 3) := by decide +kernel
theorem dL_stands_90 : decode cL_stands 90 = .ok (.aload_n 1, 1) := by decide +kernel
theorem dL_stands_91 : decode cL_stands 91 = .ok (.bipush 41, 2) := by decide +kernel
theorem dL_stands_93 : decode cL_stands 93 = .ok (.iload 4, 2) := by decide +kernel
theorem dL_stands_95 : decode cL_stands 95 = .ok (.iadd, 1) := by decide +kernel
theorem dL_stands_96 : decode cL_stands 96 = .ok (.iaload, 1) := by decide +kernel
theorem dL_stands_97 : decode cL_stands 97 = .ok (.if_icmp .ne 17, 3) := by decide +kernel
theorem dL_stands_100 : decode cL_stands 100 = .ok (.aload_n 0, 1) := by decide +kernel
theorem dL_stands_101 : decode cL_stands 101 = .ok (.iload 4, 2) := by decide +kernel
theorem dL_stands_103 : decode cL_stands 103 = .ok (.iconst 5, 1) := by decide +kernel
theorem dL_stands_104 : decode cL_stands 104 = .ok (.invokevirtual 48, 3) := by decide +kernel
theorem dL_stands_107 : decode cL_stands 107 = .ok (.aload_n 3, 1) := by decide +kernel
theorem dL_stands_108 : decode cL_stands 108 = .ok (.iload 4, 2) := by decide +kernel
theorem dL_stands_110 : decode cL_stands 110 = .ok (.iaload, 1) := by decide +kernel
theorem dL_stands_111 : decode cL_stands 111 = .ok (.if_icmp .eq 5, 3) := by decide +kernel
theorem dL_stands_114 : decode cL_stands 114 = .ok (.iconst 0, 1) := by decide +kernel
theorem dL_stands_115 : decode cL_stands 115 = .ok (.ireturn, 1) := by decide +kernel
theorem dL_stands_116 : decode cL_stands 116 = .ok (.iinc 4 1, 3) := by decide +kernel
theorem dL_stands_119 : decode cL_stands 119 = .ok (.goto (-111), 3) := by decide +kernel
theorem dL_stands_122 : decode cL_stands 122 = .ok (.iconst 0, 1) := by decide +kernel
theorem dL_stands_123 : decode cL_stands 123 = .ok (.istore 4, 2) := by decide +kernel
theorem dL_stands_125 : decode cL_stands 125 = .ok (.iload 4, 2) := by decide +kernel
theorem dL_stands_127 : decode cL_stands 127 = .ok (.bipush 7, 2) := by decide +kernel
theorem dL_stands_129 : decode cL_stands 129 = .ok (.if_icmp .ge 85, 3) := by decide +kernel
theorem dL_stands_132 : decode cL_stands 132 = .ok (.aload_n 0, 1) := by decide +kernel
theorem dL_stands_133 : decode cL_stands 133 = .ok (.iload 4, 2) := by decide +kernel
theorem dL_stands_135 : decode cL_stands 135 = .ok (.iconst 0, 1) := by decide +kernel
theorem dL_stands_136 : decode cL_stands 136 = .ok (.invokevirtual 51, 3) := by decide +kernel
theorem dL_stands_139 : decode cL_stands 139 = .ok (.aload_n 1, 1) := by decide +kernel
theorem dL_stands_140 : decode cL_stands 140 = .ok (.bipush 52, 2) := by decide +kernel
theorem dL_stands_142 : decode cL_stands 142 = .ok (.iload 4, 2) := by decide +kernel
theorem dL_stands_144 : decode cL_stands 144 = .ok (.iadd, 1) := by decide +kernel
theorem dL_stands_145 : decode cL_stands 145 = .ok (.iaload, 1) := by decide +kernel
theorem dL_stands_146 : decode cL_stands 146 = .ok (.iconst 1, 1) := by decide +kernel
theorem dL_stands_147 : decode cL_stands 147 = .ok (.isub, 1) := by decide +kernel
theorem dL_stands_148 : decode cL_stands 148 = .ok (.if_icmp .ne 58, 3) := by decide +kernel
theorem dL_stands_151 : decode cL_stands 151 = .ok (.aload_n 0, 1) := by decide +kernel
theorem dL_stands_152 : decode cL_stands 152 = .ok (.iload 4, 2) := by decide +kernel
theorem dL_stands_154 : decode cL_stands 154 = .ok (.iconst 1, 1) := by decide +kernel
theorem dL_stands_155 : decode cL_stands 155 = .ok (.invokevirtual 51, 3) := by decide +kernel
theorem dL_stands_158 : decode cL_stands 158 = .ok (.aload_n 1, 1) := by decide +kernel
theorem dL_stands_159 : decode cL_stands 159 = .ok (.iload 4, 2) := by decide +kernel
theorem dL_stands_161 : decode cL_stands 161 = .ok (.invokestatic 30, 3) := by decide +kernel
theorem dL_stands_164 : decode cL_stands 164 = .ok (.if_icmp .ne 42, 3) := by decide +kernel
theorem dL_stands_167 : decode cL_stands 167 = .ok (.aload_n 0, 1) := by decide +kernel
theorem dL_stands_168 : decode cL_stands 168 = .ok (.iload 4, 2) := by decide +kernel
theorem dL_stands_170 : decode cL_stands 170 = .ok (.iconst 2, 1) := by decide +kernel
theorem dL_stands_171 : decode cL_stands 171 = .ok (.invokevirtual 51, 3) := by decide +kernel
theorem dL_stands_174 : decode cL_stands 174 = .ok (.aload_n 1, 1) := by decide +kernel
theorem dL_stands_175 : decode cL_stands 175 = .ok (.aload_n 3, 1) := by decide +kernel
