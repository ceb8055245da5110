theorem dL_stands_176 : decode cL_stands 176 = .ok (.iload 4, 2) := by decide +kernel
theorem dL_stands_178 : decode cL_stands 178 = .ok (.invokestatic 36, 3) := by decide +kernel
theorem dL_stands_181 : decode cL_stands 181 = .ok (.ifCond .eq 7, 3) := by decide +kernel
theorem dL_stands_184 : decode cL_stands 184 = .ok (.iconst 1, 1) := by decide +kernel
theorem dL_stands_185 : decode cL_stands 185 = .ok (.goto 4, 3) := by decide +kernel
theorem dL_stands_188 : decode cL_stands 188 = .ok (.iconst 0, 1) := by decide +kernel
theorem dL_stands_189 : decode cL_stands 189 = .ok (.if_icmp .ne 17, 3) := by decide +kernel
theorem dL_stands_192 : decode cL_stands 192 = .ok (.aload_n 0, 1) := by decide +kernel
theorem dL_stands_193 : decode cL_stands 193 = .ok (.iload 4, 2) := by decide +kernel
theorem dL_stands_195 : decode cL_stands 195 = .ok (.iconst 3, 1) := by decide +kernel
theorem dL_stands_196 : decode cL_stands 196 = .ok (.invokevirtual 51, 3) := by decide +kernel
theorem dL_stands_199 : decode cL_stands 199 = .ok (.aload_n 2, 1) := by decide +kernel
theorem dL_stands_200 : decode cL_stands 200 = .ok (.iload 4, 2) := by decide +kernel
theorem dL_stands_202 : decode cL_stands 202 = .ok (.iaload, 1) := by decide +kernel
theorem dL_stands_203 : decode cL_stands 203 = .ok (.if_icmp .eq 5, 3) := by decide +kernel
theorem dL_stands_206 : decode cL_stands 206 = .ok (.iconst 0, 1) := by decide +kernel
theorem dL_stands_207 : decode cL_stands 207 = .ok (.ireturn, 1) := by decide +kernel
theorem dL_stands_208 : decode cL_stands 208 = .ok (.iinc 4 1, 3) := by decide +kernel
theorem dL_stands_211 : decode cL_stands 211 = .ok (.goto (-86), 3) := by decide +kernel
theorem dL_stands_214 : decode cL_stands 214 = .ok (.iconst 0, 1) := by decide +kernel
theorem dL_stands_215 : decode cL_stands 215 = .ok (.istore 4, 2) := by decide +kernel
theorem dL_stands_217 : decode cL_stands 217 = .ok (.iload 4, 2) := by decide +kernel
theorem dL_stands_219 : decode cL_stands 219 = .ok (.aload_n 2, 1) := by decide +kernel
theorem dL_stands_220 : decode cL_stands 220 = .ok (.bipush 20, 2) := by decide +kernel
theorem dL_stands_222 : decode cL_stands 222 = .ok (.iaload, 1) := by decide +kernel
theorem dL_stands_223 : decode cL_stands 223 = .ok (.if_icmp .ge 84, 3) := by decide +kernel
theorem dL_stands_226 : decode cL_stands 226 = .ok (.aload_n 0, 1) := by decide +kernel
theorem dL_stands_227 : decode cL_stands 227 = .ok (.iload 4, 2) := by decide +kernel
theorem dL_stands_229 : decode cL_stands 229 = .ok (.iconst 0, 1) := by decide +kernel
theorem dL_stands_230 : decode cL_stands 230 = .ok (.invokevirtual 54, 3) := by decide +kernel
theorem dL_stands_233 : decode cL_stands 233 = .ok (.aload_n 2, 1) := by decide +kernel
theorem dL_stands_234 : decode cL_stands 234 = .ok (.bipush 7, 2) := by decide +kernel
theorem dL_stands_236 : decode cL_stands 236 = .ok (.iload 4, 2) := by decide +kernel
theorem dL_stands_238 : decode cL_stands 238 = .ok (.iadd, 1) := by decide +kernel
theorem dL_stands_239 : decode cL_stands 239 = .ok (.iaload, 1) := by decide +kernel
theorem dL_stands_240 : decode cL_stands 240 = .ok (.if_icmp .ne 59, 3) := by decide +kernel
theorem dL_stands_243 : decode cL_stands 243 = .ok (.aload_n 0, 1) := by decide +kernel
theorem dL_stands_244 : decode cL_stands 244 = .ok (.iload 4, 2) := by decide +kernel
theorem dL_stands_246 : decode cL_stands 246 = .ok (.iconst 1, 1) := by decide +kernel
theorem dL_stands_247 : decode cL_stands 247 = .ok (.invokevirtual 54, 3) := by decide +kernel
theorem dL_stands_250 : decode cL_stands 250 = .ok (.aload_n 2, 1) := by decide +kernel
theorem dL_stands_251 : decode cL_stands 251 = .ok (.bipush 13, 2) := by decide +kernel
theorem dL_stands_253 : decode cL_stands 253 = .ok (.iload 4, 2) := by decide +kernel
theorem dL_stands_255 : decode cL_stands 255 = .ok (.iadd, 1) := by decide +kernel
theorem dL_stands_256 : decode cL_stands 256 = .ok (.iaload, 1) := by decide +kernel
theorem dL_stands_257 : decode cL_stands 257 = .ok (.if_icmp .ne 42, 3) := by decide +kernel
theorem dL_stands_260 : decode cL_stands 260 = .ok (.aload_n 0, 1) := by decide +kernel
theorem dL_stands_261 : decode cL_stands 261 = .ok (.iload 4, 2) := by decide +kernel
theorem dL_stands_263 : decode cL_stands 263 = .ok (.iconst 2, 1) := by decide +kernel
theorem dL_stands_264 : decode cL_stands 264 = .ok (.invokevirtual 54, 3) := by decide +kernel
theorem dL_stands_267 : decode cL_stands 267 = .ok (.aload_n 2, 1) := by decide +kernel
theorem dL_stands_268 : decode cL_stands 268 = .ok (.bipush 19, 2) := by decide +kernel
theorem dL_stands_270 : decode cL_stands 270 = .ok (.iaload, 1) := by decide +kernel
theorem dL_stands_271 : decode cL_stands 271 = .ok (.iload 4, 2) := by decide +kernel
theorem dL_stands_273 : decode cL_stands 273 = .ok (.ishr, 1) := by decide +kernel
theorem dL_stands_274 : decode cL_stands 274 = .ok (.iconst 1, 1) := by decide +kernel
theorem dL_stands_275 : decode cL_stands 275 = .ok (.iand, 1) := by decide +kernel
theorem dL_stands_276 : decode cL_stands 276 = .ok (.if_icmp .ne 23, 3) := by decide +kernel
theorem dL_stands_279 : decode cL_stands 279 = .ok (.aload_n 0, 1) := by decide +kernel
theorem dL_stands_280 : decode cL_stands 280 = .ok (.iload 4, 2) := by decide +kernel
theorem dL_stands_282 : decode cL_stands 282 = .ok (.iconst 3, 1) := by decide +kernel
theorem dL_stands_283 : decode cL_stands 283 = .ok (.invokevirtual 54, 3) := by decide +kernel
theorem dL_stands_286 : decode cL_stands 286 = .ok (.aload_n 2, 1) := by decide +kernel
theorem dL_stands_287 : decode cL_stands 287 = .ok (.bipush 7, 2) := by decide +kernel
theorem dL_stands_289 : decode cL_stands 289 = .ok (.iload 4, 2) := by decide +kernel
theorem dL_stands_291 : decode cL_stands 291 = .ok (.iadd, 1) := by decide +kernel
theorem dL_stands_292 : decode cL_stands 292 = .ok (.iaload, 1) := by decide +kernel
theorem dL_stands_293 : decode cL_stands 293 = .ok (.invokestatic 40, 3) := by decide +kernel
theorem dL_stands_296 : decode cL_stands 296 = .ok (.if_icmp .eq 5, 3) := by decide +kernel
theorem dL_stands_299 : decode cL_stands 299 = .ok (.iconst 0, 1) := by decide +kernel
theorem dL_stands_300 : decode cL_stands 300 = .ok (.ireturn, 1) := by decide +kernel
theorem dL_stands_301 : decode cL_stands 301 = .ok (.iinc 4 1, 3) := by decide +kernel
theorem dL_stands_304 : decode cL_stands 304 = .ok (.goto (-87), 3) := by decide +kernel
theorem dL_stands_307 : decode cL_stands 307 = .ok (.aload_n 0, 1) := by decide +kernel
theorem dL_stands_308 : decode cL_stands 308 = .ok (.iconst 3, 1) := by decide +kernel
theorem dL_stands_309 : decode cL_stands 309 = .ok (.invokevirtual 57, 3) := by decide +kernel
theorem dL_stands_312 : decode cL_stands 312 = .ok (.aload_n 2, 1) := by decide +kernel
theorem dL_stands_313 : decode cL_stands 313 = .ok (.bipush 20, 2) := by decide +kernel
theorem dL_stands_315 : decode cL_stands 315 = .ok (.iaload, 1) := by decide +kernel
theorem dL_stands_316 : decode cL_stands 316 = .ok (.if_icmp .ne 31, 3) := by decide +kernel
theorem dL_stands_319 : decode cL_stands 319 = .ok (.aload_n 0, 1) := by decide +kernel
theorem dL_stands_320 : decode cL_stands 320 = .ok (.iconst 4, 1) := by decide +kernel
theorem dL_stands_321 : decode cL_stands 321 = .ok (.invokevirtual 57, 3) := by decide +kernel
theorem dL_stands_324 : decode cL_stands 324 = .ok (.aload_n 1, 1) := by decide +kernel
theorem dL_stands_325 : decode cL_stands 325 = .ok (.bipush 51, 2) := by decide +kernel
theorem dL_stands_327 : decode cL_stands 327 = .ok (.iaload, 1) := by decide +kernel
theorem dL_stands_328 : decode cL_stands 328 = .ok (.if_icmp .ne 19, 3) := by decide +kernel
theorem dL_stands_331 : decode cL_stands 331 = .ok (.aload_n 0, 1) := by decide +kernel
theorem dL_stands_332 : decode cL_stands 332 = .ok (.iconst 5, 1) := by decide +kernel
theorem dL_stands_333 : decode cL_stands 333 = .ok (.invokevirtual 57, 3) := by decide +kernel
theorem dL_stands_336 : decode cL_stands 336 = .ok (.aload_n 2, 1) := by decide +kernel
theorem dL_stands_337 : decode cL_stands 337 = .ok (.bipush 21, 2) := by decide +kernel
theorem dL_stands_339 : decode cL_stands 339 = .ok (.iaload, 1) := by decide +kernel
theorem dL_stands_340 : decode cL_stands 340 = .ok (.if_icmp .ne 7, 3) := by decide +kernel
theorem dL_stands_343 : decode cL_stands 343 = .ok (.iconst 1, 1) := by decide +kernel
theorem dL_stands_344 : decode cL_stands 344 = .ok (.goto 4, 3) := by decide +kernel
theorem dL_stands_347 : decode cL_stands 347 = .ok (.iconst 0, 1) := by decide +kernel
theorem dL_stands_348 : decode cL_stands 348 = .ok (.ireturn, 1) := by decide +kernel
set_option maxRecDepth 20000 in
theorem ggL_law_X10_init : GoodIn wsL_law wsX10_init := goodIn_k _ [(0, 7), (0, 8), (0, 9), (0, 10), (0, 11), (0, 12), (0, 13), (0, 14), (0, 15), (0, 16), (0, 17), (0, 18), (0, 19), (0, 20), (0, 21), (0, 22), (0, 23), (1, 0), (1, 1), (1, 2), (1, 3), (1, 4), (1, 5), (1, 6), (1, 7), (1, 8), (1, 9), (1, 10), (1, 11), (1, 12), (1, 13), (1, 14), (1, 15), (1, 16), (1, 17), (1, 18), (1, 19), (1, 20), (1, 21), (1, 22), (1, 23), (2, 0), (2, 1), (2, 2), (2, 3), (2, 4), (2, 5), (2, 6), (2, 7), (2, 8), (2, 9), (2, 10), (2, 11), (2, 12), (2, 13), (0, 3), (2, 14), (2, 15), (2, 16), (2, 17), (2, 18), (2, 19), (2, 20), (2, 21), (2, 22), (2, 23), (3, 0), (3, 1), (3, 2), (3, 3), (3, 4), (3, 5), (3, 6), (3, 7), (3, 8), (3, 9), (3, 10), (3, 11), (3, 12), (3, 13), (3, 14), (3, 15), (3, 16), (3, 17), (3, 18), (3, 19), (3, 20), (3, 21), (3, 22), (3, 23), (4, 0), (4, 1), (4, 2), (4, 3), (4, 4), (4, 5), (4, 6), (4, 7), (4, 8), (4, 9), (4, 10), (4, 11), (4, 12), (4, 13), (4, 14), (4, 15), (4, 16), (4, 17), (23, 0), (23, 1), (23, 2), (22, 0), (22, 1), (22, 2), (22, 3), (22, 4), (22, 5), (22, 6), (22, 7), (22, 8), (22, 9), (22, 10), (22, 11), (22, 12), (22, 13), (22, 14), (24, 0), (24, 1), (24, 2), (24, 3), (24, 4), (24, 5), (24, 6), (25, 0), (25, 1), (25, 2), (25, 3), (26, 0), (27, 0), (27, 1), (28, 0), (28, 1), (28, 2), (28, 3), (28, 4), (28, 5), (29, 0), (30, 0), (30, 1), (30, 2), (30, 3), (30, 4), (31, 0), (32, 0), (32, 1), (32, 2), (32, 3)] (by decide +kernel) (by decide +kernel)
set_option maxRecDepth 20000 in
theorem gL_law_X10_init : GoodIn wsL_law (wsX10_init) := ggL_law_X10_init
set_option maxRecDepth 20000 in
theorem ggL_law_L_mineText : GoodIn wsL_law wsL_mineText := goodIn_k _ [(4, 21), (4, 22), (4, 23), (4, 20), (5, 0), (5, 1), (5, 2), (5, 3), (5, 4)] (by decide +kernel) (by decide +kernel)
set_option maxRecDepth 20000 in
theorem gL_law_L_mineText : GoodIn wsL_law (va_wsS RL 61 yL_mineText wsL_mineText) := goodIn_app (goodIn_of _ (by decide +kernel)) ggL_law_L_mineText
set_option maxRecDepth 20000 in
theorem ggL_law_L_write : GoodIn wsL_law wsL_write := goodIn_k _ [(5, 7), (5, 8), (5, 9), (5, 10), (0, 2), (5, 11), (0, 14), (5, 12), (5, 13), (5, 14), (0, 13), (5, 15), (5, 16), (5, 17), (5, 18), (5, 19), (5, 20), (5, 21), (5, 22), (5, 23), (2, 5), (6, 0), (6, 1), (6, 2), (6, 3), (2, 4), (6, 4), (2, 14), (22, 0), (22, 1), (22, 2), (22, 3), (22, 4), (22, 5), (22, 6), (22, 7), (22, 8), (22, 9), (22, 10), (22, 11), (22, 12), (22, 13), (22, 14), (23, 0), (23, 1), (23, 2), (31, 0)] (by decide +kernel) (by decide +kernel)
set_option maxRecDepth 20000 in
theorem gL_law_L_write : GoodIn wsL_law (va_wsS RL 65 yL_write wsL_write) := goodIn_app (goodIn_of _ (by decide +kernel)) ggL_law_L_write
set_option maxRecDepth 20000 in
theorem ggL_law_X10_fault : GoodIn wsL_law wsX10_fault := goodIn_k _ [(6, 8), (0, 14), (6, 9), (6, 10), (6, 11), (0, 13), (6, 12), (2, 9), (6, 0), (2, 5), (6, 13), (6, 14), (6, 15), (2, 8), (6, 16), (6, 17), (6, 18), (6, 19), (6, 20), (6, 21), (6, 22), (2, 4), (6, 23), (2, 14), (7, 0), (7, 1), (7, 2), (7, 3), (7, 4), (7, 5), (0, 2), (7, 6), (7, 7), (7, 8), (7, 9), (7, 10), (7, 11), (7, 12), (7, 13), (7, 14), (7, 15), (7, 16), (22, 0), (22, 1), (22, 2), (22, 3), (22, 4), (22, 5), (22, 6), (22, 7), (22, 8), (22, 9), (22, 10), (22, 11), (22, 12), (22, 13), (22, 14), (23, 0), (23, 1), (23, 2), (32, 0), (32, 1), (32, 2), (32, 3), (31, 0)] (by decide +kernel) (by decide +kernel)
set_option maxRecDepth 20000 in
theorem gL_law_X10_fault : GoodIn wsL_law (wsV RL 69 RX10 yX10_fault wsX10_fault) := goodIn_app (goodIn_of _ (by decide +kernel)) ggL_law_X10_fault
set_option maxRecDepth 20000 in
theorem ggL_law_X10_mine : GoodIn wsL_law wsX10_mine := goodIn_k _ [(7, 20), (0, 14), (0, 18), (5, 12), (1, 7), (7, 21), (1, 11), (7, 22), (7, 23), (8, 0), (8, 1), (8, 2), (0, 13), (8, 3), (6, 0), (2, 9), (8, 4), (6, 10), (6, 11), (6, 12), (2, 5), (6, 13), (6, 14), (6, 15), (2, 8), (6, 16), (6, 17), (6, 18), (6, 19), (6, 20), (6, 21), (6, 22), (2, 4), (6, 23), (2, 14), (7, 0), (7, 1), (7, 2), (7, 3), (7, 4), (7, 5), (0, 2), (7, 6), (7, 7), (7, 8), (7, 9), (7, 10), (7, 11), (7, 12), (7, 13), (7, 14), (7, 15), (7, 16), (8, 5), (8, 6), (8, 7), (8, 8), (8, 9), (8, 10), (8, 11), (8, 12), (8, 13), (8, 14), (8, 15), (8, 16), (8, 17), (8, 18), (0, 17), (8, 19), (8, 20), (8, 21), (8, 22), (2, 22), (2, 23), (3, 0), (8, 23), (9, 0), (9, 1), (9, 2), (9, 3), (9, 4), (6, 2), (6, 3), (6, 4), (9, 5), (9, 6), (9, 7), (9, 8), (3, 1), (9, 9), (9, 10), (9, 11), (9, 12), (9, 13), (9, 14), (9, 15), (9, 16), (9, 17), (9, 18), (9, 19), (9, 20), (9, 21), (1, 10), (9, 22), (9, 23), (10, 0), (4, 3), (10, 1), (10, 2), (10, 3), (10, 4), (10, 5), (10, 6), (10, 7), (0, 22), (10, 8), (10, 9), (1, 3), (10, 10), (10, 11), (10, 12), (0, 21), (10, 13), (3, 7), (3, 9), (10, 14), (10, 15), (10, 16), (10, 17), (10, 18), (10, 19), (10, 20), (10, 21), (10, 22), (10, 23), (11, 0), (11, 1), (11, 2), (11, 3), (11, 4), (11, 5), (11, 6), (11, 7), (11, 8), (11, 9), (11, 10), (11, 11), (11, 12), (11, 13), (11, 14), (11, 15), (11, 16), (3, 8), (11, 17), (11, 18), (11, 19), (11, 20), (11, 21), (11, 22), (11, 23), (12, 0), (12, 1), (12, 2), (12, 3), (12, 4), (1, 2), (12, 5), (3, 15), (12, 6), (12, 7), (12, 8), (12, 9), (12, 10), (12, 11), (12, 12), (12, 13), (12, 14), (12, 15), (12, 16), (12, 17), (12, 18), (12, 19), (12, 20), (12, 21), (12, 22), (12, 23), (13, 0), (13, 1), (22, 0), (22, 1), (22, 2), (22, 3), (22, 4), (22, 5), (22, 6), (22, 7), (22, 8), (22, 9), (22, 10), (22, 11), (22, 12), (22, 13), (22, 14), (23, 0), (23, 1), (23, 2), (27, 0), (27, 1), (24, 0), (24, 1), (24, 2), (24, 3), (24, 4), (24, 5), (24, 6), (32, 0), (32, 1), (32, 2), (32, 3), (31, 0), (28, 0), (28, 1), (28, 2), (28, 3), (28, 4), (28, 5), (25, 0), (25, 1), (25, 2), (25, 3), (26, 0)] (by decide +kernel) (by decide +kernel)
set_option maxRecDepth 20000 in
theorem gL_law_X10_mine : GoodIn wsL_law (wsV RL 73 RX10 yX10_mine wsX10_mine) := goodIn_app (goodIn_of _ (by decide +kernel)) ggL_law_X10_mine
set_option maxRecDepth 20000 in
theorem ggL_law_L_men : GoodIn wsL_law wsL_men := goodIn_k _ [(13, 4), (4, 22), (4, 23), (4, 20), (5, 0), (5, 1), (5, 2), (5, 3), (5, 4), (13, 5), (13, 6), (13, 7), (0, 2), (13, 8), (0, 18), (1, 7), (7, 21), (13, 9), (1, 11), (13, 10), (13, 11), (13, 12), (13, 13), (0, 17), (13, 14), (8, 20), (13, 15), (13, 16), (1, 6), (13, 17), (13, 18), (7, 5), (7, 6), (13, 19), (6, 2), (6, 3), (2, 4), (6, 4), (2, 14), (22, 0), (22, 1), (22, 2), (22, 3), (22, 4), (22, 5), (22, 6), (22, 7), (22, 8), (22, 9), (22, 10), (22, 11), (22, 12), (22, 13), (22, 14), (27, 0), (27, 1), (28, 0), (28, 1), (28, 2), (28, 3), (28, 4), (28, 5), (24, 0), (24, 1), (24, 2), (24, 3), (24, 4), (24, 5), (24, 6), (31, 0)] (by decide +kernel) (by decide +kernel)
set_option maxRecDepth 20000 in
theorem gL_law_L_men : GoodIn wsL_law (va_wsS RL 76 yL_men wsL_men) := goodIn_app (goodIn_of _ (by decide +kernel)) ggL_law_L_men
set_option maxRecDepth 20000 in
theorem ggL_law_L_stands : GoodIn wsL_law wsL_stands := goodIn_k _ [(13, 22), (13, 23), (14, 0), (4, 20), (14, 1), (0, 3), (14, 2), (14, 3), (14, 4), (14, 5), (14, 6), (14, 7), (14, 8), (14, 9), (14, 10), (14, 11), (14, 12), (14, 13), (0, 2), (14, 14), (0, 18), (14, 15), (14, 16), (14, 17), (14, 18), (1, 11), (10, 8), (0, 22), (14, 19), (14, 20), (14, 21), (14, 22), (0, 17), (14, 23), (8, 20), (15, 0), (6, 21), (6, 22), (2, 4), (6, 23), (2, 14), (15, 1), (7, 15), (7, 16), (15, 2), (15, 3), (15, 4), (15, 5), (15, 6), (15, 7), (15, 8), (15, 9), (13, 11), (13, 12), (13, 13), (13, 14), (13, 18), (7, 5), (7, 6), (15, 10), (15, 11), (15, 12), (15, 13), (15, 14), (15, 15), (15, 16), (1, 7), (13, 9), (13, 10), (15, 17), (15, 18), (15, 19), (15, 20), (1, 6), (15, 21), (15, 22), (15, 23), (16, 0), (16, 1), (16, 2), (3, 21), (16, 3), (16, 4), (16, 5), (16, 6), (16, 7), (16, 8), (16, 9), (16, 10), (7, 23), (16, 11), (7, 21), (10, 9), (16, 12), (0, 14), (5, 12), (7, 22), (16, 13), (16, 14), (8, 10), (8, 11), (8, 12), (8, 13), (8, 14), (8, 15), (22, 0), (22, 1), (22, 2), (22, 3), (22, 4), (22, 5), (22, 6), (22, 7), (22, 8), (22, 9), (22, 10), (22, 11), (22, 12), (22, 13), (22, 14), (24, 0), (24, 1), (24, 2), (24, 3), (24, 4), (24, 5), (24, 6), (28, 0), (28, 1), (28, 2), (28, 3), (28, 4), (28, 5), (25, 0), (25, 1), (25, 2), (25, 3), (31, 0), (27, 0), (27, 1), (23, 0), (23, 1), (23, 2)] (by decide +kernel) (by decide +kernel)
set_option maxRecDepth 20000 in
theorem gL_law_L_stands : GoodIn wsL_law (va_wsS RL 80 yL_stands wsL_stands) := goodIn_app (goodIn_of _ (by decide +kernel)) ggL_law_L_stands
set_option maxRecDepth 20000 in
theorem ggL_law_X10_as : GoodIn wsL_law wsX10_as := goodIn_k _ [(16, 18), (1, 7), (15, 18), (15, 19), (15, 20), (1, 6), (15, 21), (15, 22), (13, 15), (13, 16), (13, 17), (16, 19), (16, 20), (16, 21), (16, 22), (3, 21), (16, 3), (6, 21), (6, 22), (2, 4), (6, 23), (2, 14), (22, 0), (22, 1), (22, 2), (22, 3), (22, 4), (22, 5), (22, 6), (22, 7), (22, 8), (22, 9), (22, 10), (22, 11), (22, 12), (22, 13), (22, 14), (27, 0), (27, 1), (31, 0)] (by decide +kernel) (by decide +kernel)
set_option maxRecDepth 20000 in
theorem gL_law_X10_as : GoodIn wsL_law (wsV RL 84 RX10 yX10_as wsX10_as) := goodIn_app (goodIn_of _ (by decide +kernel)) ggL_law_X10_as
set_option maxRecDepth 20000 in
theorem ggL_law_L_cell : GoodIn wsL_law wsL_cell := goodIn_k _ [(5, 0), (5, 1)] (by decide +kernel) (by decide +kernel)
set_option maxRecDepth 20000 in
theorem gL_law_L_cell : GoodIn wsL_law (va_wsS RL 8 yL_cell wsL_cell) := goodIn_app (goodIn_of _ (by decide +kernel)) ggL_law_L_cell
set_option maxRecDepth 20000 in
theorem ggL_law_L_at : GoodIn wsL_law wsL_at := goodIn_k _ [(5, 4)] (by decide +kernel) (by decide +kernel)
set_option maxRecDepth 20000 in
theorem gL_law_L_at : GoodIn wsL_law (va_wsS RL 14 yL_at wsL_at) := goodIn_app (goodIn_of _ (by decide +kernel)) ggL_law_L_at
set_option maxRecDepth 20000 in
theorem ggL_law_X10_door : GoodIn wsL_law wsX10_door := goodIn_k _ [(17, 2), (0, 18), (14, 18), (1, 11), (10, 8), (14, 20), (14, 21), (14, 22), (0, 17), (14, 23), (8, 20), (15, 1), (7, 15), (0, 2), (7, 16), (10, 4), (10, 5), (10, 6), (10, 7), (0, 22), (10, 9), (1, 3), (10, 10), (10, 11), (10, 12), (0, 21), (10, 13), (3, 7), (3, 9), (10, 14), (10, 15), (10, 16), (10, 17), (10, 18), (10, 19), (10, 20), (10, 21), (10, 22), (6, 2), (6, 3), (2, 4), (6, 4), (2, 14), (10, 23), (6, 21), (6, 22), (6, 23), (11, 0), (11, 1), (11, 2), (11, 3), (11, 4), (11, 5), (11, 6), (11, 7), (8, 10), (8, 11), (8, 12), (8, 13), (8, 14), (8, 15), (11, 8), (11, 9), (11, 10), (11, 11), (3, 1), (8, 23), (11, 12), (11, 13), (11, 14), (11, 15), (11, 16), (3, 8), (11, 17), (11, 18), (11, 19), (11, 20), (11, 21), (11, 22), (11, 23), (12, 0), (12, 1), (12, 2), (12, 3), (12, 4), (1, 2), (12, 5), (3, 15), (12, 6), (9, 12), (9, 13), (9, 14), (12, 7), (12, 8), (12, 9), (12, 10), (12, 11), (2, 22), (2, 23), (12, 12), (12, 13), (12, 14), (12, 15), (12, 16), (12, 17), (12, 18), (12, 19), (12, 20), (12, 21), (12, 22), (12, 23), (13, 0), (13, 1), (22, 0), (22, 1), (22, 2), (22, 3), (22, 4), (22, 5), (22, 6), (22, 7), (22, 8), (22, 9), (22, 10), (22, 11), (22, 12), (22, 13), (22, 14), (24, 0), (24, 1), (24, 2), (24, 3), (24, 4), (24, 5), (24, 6), (28, 0), (28, 1), (28, 2), (28, 3), (28, 4), (28, 5), (25, 0), (25, 1), (25, 2), (25, 3), (31, 0), (26, 0)] (by decide +kernel) (by decide +kernel)
set_option maxRecDepth 20000 in
theorem gL_law_X10_door : GoodIn wsL_law (wsV RL 87 RX10 yX10_door wsX10_door) := goodIn_app (goodIn_of _ (by decide +kernel)) ggL_law_X10_door
set_option maxRecDepth 20000 in
theorem ggL_law_X10_turn : GoodIn wsL_law wsX10_turn := goodIn_k _ [(17, 6), (0, 18), (1, 11), (10, 9), (13, 11), (13, 12), (13, 13), (0, 17), (13, 14), (8, 20), (10, 4), (10, 5), (10, 6), (0, 2), (10, 7), (0, 22), (10, 8), (1, 3), (10, 10), (10, 11), (10, 12), (0, 21), (10, 13), (3, 7), (3, 9), (10, 14), (10, 15), (10, 16), (10, 17), (10, 18), (10, 19), (10, 20), (10, 21), (10, 22), (6, 2), (6, 3), (2, 4), (6, 4), (2, 14), (7, 15), (7, 16), (10, 23), (6, 21), (6, 22), (6, 23), (11, 0), (11, 1), (11, 2), (11, 3), (11, 4), (11, 5), (11, 6), (11, 7), (8, 10), (8, 11), (8, 12), (8, 13), (8, 14), (8, 15), (11, 8), (11, 9), (11, 10), (11, 11), (3, 1), (8, 23), (11, 12), (11, 13), (11, 14), (11, 15), (11, 16), (3, 8), (11, 17), (11, 18), (11, 19), (11, 20), (11, 21), (11, 22), (11, 23), (12, 0), (12, 1), (12, 2), (12, 3), (12, 4), (1, 2), (12, 5), (3, 15), (12, 6), (9, 12), (9, 13), (9, 14), (12, 7), (12, 8), (12, 9), (12, 10), (12, 11), (2, 22), (2, 23), (12, 12), (12, 13), (12, 14), (12, 15), (12, 16), (12, 17), (12, 18), (12, 19), (12, 20), (12, 21), (12, 22), (12, 23), (13, 0), (13, 1), (22, 0), (22, 1), (22, 2), (22, 3), (22, 4), (22, 5), (22, 6), (22, 7), (22, 8), (22, 9), (22, 10), (22, 11), (22, 12), (22, 13), (22, 14), (28, 0), (28, 1), (28, 2), (28, 3), (28, 4), (28, 5), (24, 0), (24, 1), (24, 2), (24, 3), (24, 4), (24, 5), (24, 6), (25, 0), (25, 1), (25, 2), (25, 3), (31, 0), (26, 0)] (by decide +kernel) (by decide +kernel)
