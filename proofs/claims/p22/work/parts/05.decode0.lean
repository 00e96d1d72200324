theorem dJ6_bitCount_0f7a4_0 : decode cJ6_bitCount_0f7a4 0 = .ok (.iload_n 0, 1) := by decide +kernel
theorem dJ6_bitCount_0f7a4_1 : decode cJ6_bitCount_0f7a4 1 = .ok (.iload_n 0, 1) := by decide +kernel
theorem dJ6_bitCount_0f7a4_2 : decode cJ6_bitCount_0f7a4 2 = .ok (.iconst 1, 1) := by decide +kernel
theorem dJ6_bitCount_0f7a4_3 : decode cJ6_bitCount_0f7a4 3 = .ok (.iushr, 1) := by decide +kernel
theorem dJ6_bitCount_0f7a4_4 : decode cJ6_bitCount_0f7a4 4 = .ok (.ldc_w 265, 3) := by decide +kernel
theorem dJ6_bitCount_0f7a4_7 : decode cJ6_bitCount_0f7a4 7 = .ok (.iand, 1) := by decide +kernel
theorem dJ6_bitCount_0f7a4_8 : decode cJ6_bitCount_0f7a4 8 = .ok (.isub, 1) := by decide +kernel
theorem dJ6_bitCount_0f7a4_9 : decode cJ6_bitCount_0f7a4 9 = .ok (.istore_n 0, 1) := by decide +kernel
theorem dJ6_bitCount_0f7a4_10 : decode cJ6_bitCount_0f7a4 10 = .ok (.iload_n 0, 1) := by decide +kernel
theorem dJ6_bitCount_0f7a4_11 : decode cJ6_bitCount_0f7a4 11 = .ok (.ldc_w 266, 3) := by decide +kernel
theorem dJ6_bitCount_0f7a4_14 : decode cJ6_bitCount_0f7a4 14 = .ok (.iand, 1) := by decide +kernel
theorem dJ6_bitCount_0f7a4_15 : decode cJ6_bitCount_0f7a4 15 = .ok (.iload_n 0, 1) := by decide +kernel
theorem dJ6_bitCount_0f7a4_16 : decode cJ6_bitCount_0f7a4 16 = .ok (.iconst 2, 1) := by decide +kernel
theorem dJ6_bitCount_0f7a4_17 : decode cJ6_bitCount_0f7a4 17 = .ok (.iushr, 1) := by decide +kernel
theorem dJ6_bitCount_0f7a4_18 : decode cJ6_bitCount_0f7a4 18 = .ok (.ldc_w 266, 3) := by decide +kernel
theorem dJ6_bitCount_0f7a4_21 : decode cJ6_bitCount_0f7a4 21 = .ok (.iand, 1) := by decide +kernel
theorem dJ6_bitCount_0f7a4_22 : decode cJ6_bitCount_0f7a4 22 = .ok (.iadd, 1) := by decide +kernel
theorem dJ6_bitCount_0f7a4_23 : decode cJ6_bitCount_0f7a4 23 = .ok (.istore_n 0, 1) := by decide +kernel
theorem dJ6_bitCount_0f7a4_24 : decode cJ6_bitCount_0f7a4 24 = .ok (.iload_n 0, 1) := by decide +kernel
theorem dJ6_bitCount_0f7a4_25 : decode cJ6_bitCount_0f7a4 25 = .ok (.iload_n 0, 1) := by decide +kernel
theorem dJ6_bitCount_0f7a4_26 : decode cJ6_bitCount_0f7a4 26 = .ok (.iconst 4, 1) := by decide +kernel
theorem dJ6_bitCount_0f7a4_27 : decode cJ6_bitCount_0f7a4 27 = .ok (.iushr, 1) := by decide +kernel
theorem dJ6_bitCount_0f7a4_28 : decode cJ6_bitCount_0f7a4 28 = .ok (.iadd, 1) := by decide +kernel
theorem dJ6_bitCount_0f7a4_29 : decode cJ6_bitCount_0f7a4 29 = .ok (.ldc_w 267, 3) := by decide +kernel
theorem dJ6_bitCount_0f7a4_32 : decode cJ6_bitCount_0f7a4 32 = .ok (.iand, 1) := by decide +kernel
theorem dJ6_bitCount_0f7a4_33 : decode cJ6_bitCount_0f7a4 33 = .ok (.istore_n 0, 1) := by decide +kernel
theorem dJ6_bitCount_0f7a4_34 : decode cJ6_bitCount_0f7a4 34 = .ok (.iload_n 0, 1) := by decide +kernel
theorem dJ6_bitCount_0f7a4_35 : decode cJ6_bitCount_0f7a4 35 = .ok (.iload_n 0, 1) := by decide +kernel
theorem dJ6_bitCount_0f7a4_36 : decode cJ6_bitCount_0f7a4 36 = .ok (.bipush 8, 2) := by decide +kernel
theorem dJ6_bitCount_0f7a4_38 : decode cJ6_bitCount_0f7a4 38 = .ok (.iushr, 1) := by decide +kernel
theorem dJ6_bitCount_0f7a4_39 : decode cJ6_bitCount_0f7a4 39 = .ok (.iadd, 1) := by decide +kernel
theorem dJ6_bitCount_0f7a4_40 : decode cJ6_bitCount_0f7a4 40 = .ok (.istore_n 0, 1) := by decide +kernel
theorem dJ6_bitCount_0f7a4_41 : decode cJ6_bitCount_0f7a4 41 = .ok (.iload_n 0, 1) := by decide +kernel
theorem dJ6_bitCount_0f7a4_42 : decode cJ6_bitCount_0f7a4 42 = .ok (.iload_n 0, 1) := by decide +kernel
theorem dJ6_bitCount_0f7a4_43 : decode cJ6_bitCount_0f7a4 43 = .ok (.bipush 16, 2) := by decide +kernel
theorem dJ6_bitCount_0f7a4_45 : decode cJ6_bitCount_0f7a4 45 = .ok (.iushr, 1) := by decide +kernel
theorem dJ6_bitCount_0f7a4_46 : decode cJ6_bitCount_0f7a4 46 = .ok (.iadd, 1) := by decide +kernel
theorem dJ6_bitCount_0f7a4_47 : decode cJ6_bitCount_0f7a4 47 = .ok (.istore_n 0, 1) := by decide +kernel
theorem dJ6_bitCount_0f7a4_48 : decode cJ6_bitCount_0f7a4 48 = .ok (.iload_n 0, 1) := by decide +kernel
theorem dJ6_bitCount_0f7a4_49 : decode cJ6_bitCount_0f7a4 49 = .ok (.bipush 63, 2) := by decide +kernel
theorem dJ6_bitCount_0f7a4_51 : decode cJ6_bitCount_0f7a4 51 = .ok (.iand, 1) := by decide +kernel
theorem dJ6_bitCount_0f7a4_52 : decode cJ6_bitCount_0f7a4 52 = .ok (.ireturn, 1) := by decide +kernel
theorem dJ9_max_7cf53_0 : decode cJ9_max_7cf53 0 = .ok (.iload_n 0, 1) := by decide +kernel
theorem dJ9_max_7cf53_1 : decode cJ9_max_7cf53 1 = .ok (.iload_n 1, 1) := by decide +kernel
theorem dJ9_max_7cf53_2 : decode cJ9_max_7cf53 2 = .ok (.if_icmp .lt 7, 3) := by decide +kernel
theorem dJ9_max_7cf53_5 : decode cJ9_max_7cf53 5 = .ok (.iload_n 0, 1) := by decide +kernel
theorem dJ9_max_7cf53_6 : decode cJ9_max_7cf53 6 = .ok (.goto 4, 3) := by decide +kernel
theorem dJ9_max_7cf53_9 : decode cJ9_max_7cf53 9 = .ok (.iload_n 1, 1) := by decide +kernel
theorem dJ9_max_7cf53_10 : decode cJ9_max_7cf53 10 = .ok (.ireturn, 1) := by decide +kernel
theorem dJ9_min_7cf53_0 : decode cJ9_min_7cf53 0 = .ok (.iload_n 0, 1) := by decide +kernel
theorem dJ9_min_7cf53_1 : decode cJ9_min_7cf53 1 = .ok (.iload_n 1, 1) := by decide +kernel
theorem dJ9_min_7cf53_2 : decode cJ9_min_7cf53 2 = .ok (.if_icmp .gt 7, 3) := by decide +kernel
theorem dJ9_min_7cf53_5 : decode cJ9_min_7cf53 5 = .ok (.iload_n 0, 1) := by decide +kernel
theorem dJ9_min_7cf53_6 : decode cJ9_min_7cf53 6 = .ok (.goto 4, 3) := by decide +kernel
theorem dJ9_min_7cf53_9 : decode cJ9_min_7cf53 9 = .ok (.iload_n 1, 1) := by decide +kernel
theorem dJ9_min_7cf53_10 : decode cJ9_min_7cf53 10 = .ok (.ireturn, 1) := by decide +kernel
theorem dL_law_0 : decode cL_law 0 = .ok (.new 7, 3) := by decide +kernel
theorem dL_law_3 : decode cL_law 3 = .ok (.dup, 1) := by decide +kernel
theorem dL_law_4 : decode cL_law 4 = .ok (.invokespecial 9, 3) := by decide +kernel
theorem dL_law_7 : decode cL_law 7 = .ok (.astore_n 1, 1) := by decide +kernel
theorem dL_law_8 : decode cL_law 8 = .ok (.new 10, 3) := by decide +kernel
theorem dL_law_11 : decode cL_law 11 = .ok (.dup, 1) := by decide +kernel
theorem dL_law_12 : decode cL_law 12 = .ok (.invokespecial 12, 3) := by decide +kernel
theorem dL_law_15 : decode cL_law 15 = .ok (.astore_n 2, 1) := by decide +kernel
theorem dL_law_16 : decode cL_law 16 = .ok (.iconst 0, 1) := by decide +kernel
theorem dL_law_17 : decode cL_law 17 = .ok (.istore_n 3, 1) := by decide +kernel
theorem dL_law_18 : decode cL_law 18 = .ok (.iload_n 3, 1) := by decide +kernel
theorem dL_law_19 : decode cL_law 19 = .ok (.aload_n 0, 1) := by decide +kernel
theorem dL_law_20 : decode cL_law 20 = .ok (.arraylength, 1) := by decide +kernel
theorem dL_law_21 : decode cL_law 21 = .ok (.iconst 3, 1) := by decide +kernel
theorem dL_law_22 : decode cL_law 22 = .ok (.isub, 1) := by decide +kernel
theorem dL_law_23 : decode cL_law 23 = .ok (.if_icmp .gt 750, 3) := by decide +kernel
theorem dL_law_26 : decode cL_law 26 = .ok (.aload_n 0, 1) := by decide +kernel
theorem dL_law_27 : decode cL_law 27 = .ok (.iload_n 3, 1) := by decide +kernel
theorem dL_law_28 : decode cL_law 28 = .ok (.iaload, 1) := by decide +kernel
theorem dL_law_29 : decode cL_law 29 = .ok (.bipush 31, 2) := by decide +kernel
theorem dL_law_31 : decode cL_law 31 = .ok (.iand, 1) := by decide +kernel
theorem dL_law_32 : decode cL_law 32 = .ok (.tableswitch 735 0 26 #[124, 147, 160, 173, 196, 229, 262, 285, 308, 321, 344, 367, 380, 403, 426, 459, 492, 515, 548, 581, 594, 607, 640, 653, 666, 689, 712], 124) := by decide +kernel
theorem dL_law_156 : decode cL_law 156 = .ok (.aload_n 1, 1) := by decide +kernel
theorem dL_law_157 : decode cL_law 157 = .ok (.aload_n 0, 1) := by decide +kernel
theorem dL_law_158 : decode cL_law 158 = .ok (.iload_n 3, 1) := by decide +kernel
theorem dL_law_159 : decode cL_law 159 = .ok (.iconst 1, 1) := by decide +kernel
theorem dL_law_160 : decode cL_law 160 = .ok (.iadd, 1) := by decide +kernel
theorem dL_law_161 : decode cL_law 161 = .ok (.iaload, 1) := by decide +kernel
theorem dL_law_162 : decode cL_law 162 = .ok (.invokevirtual 13, 3) := by decide +kernel
theorem dL_law_165 : decode cL_law 165 = .ok (.pop, 1) := by decide +kernel
theorem dL_law_166 : decode cL_law 166 = .ok (.aload_n 2, 1) := by decide +kernel
theorem dL_law_167 : decode cL_law 167 = .ok (.aload_n 0, 1) := by decide +kernel
theorem dL_law_168 : decode cL_law 168 = .ok (.iload_n 3, 1) := by decide +kernel
theorem dL_law_169 : decode cL_law 169 = .ok (.iconst 1, 1) := by decide +kernel
theorem dL_law_170 : decode cL_law 170 = .ok (.iadd, 1) := by decide +kernel
theorem dL_law_171 : decode cL_law 171 = .ok (.iaload, 1) := by decide +kernel
theorem dL_law_172 : decode cL_law 172 = .ok (.invokevirtual 17, 3) := by decide +kernel
theorem dL_law_175 : decode cL_law 175 = .ok (.pop, 1) := by decide +kernel
theorem dL_law_176 : decode cL_law 176 = .ok (.goto 591, 3) := by decide +kernel
theorem dL_law_179 : decode cL_law 179 = .ok (.aload_n 1, 1) := by decide +kernel
theorem dL_law_180 : decode cL_law 180 = .ok (.invokevirtual 18, 3) := by decide +kernel
theorem dL_law_183 : decode cL_law 183 = .ok (.pop, 1) := by decide +kernel
theorem dL_law_184 : decode cL_law 184 = .ok (.aload_n 2, 1) := by decide +kernel
theorem dL_law_185 : decode cL_law 185 = .ok (.invokevirtual 22, 3) := by decide +kernel
theorem dL_law_188 : decode cL_law 188 = .ok (.pop, 1) := by decide +kernel
theorem dL_law_189 : decode cL_law 189 = .ok (.goto 578, 3) := by decide +kernel
theorem dL_law_192 : decode cL_law 192 = .ok (.aload_n 1, 1) := by decide +kernel
theorem dL_law_193 : decode cL_law 193 = .ok (.invokevirtual 23, 3) := by decide +kernel
theorem dL_law_196 : decode cL_law 196 = .ok (.pop, 1) := by decide +kernel
theorem dL_law_197 : decode cL_law 197 = .ok (.aload_n 2, 1) := by decide +kernel
theorem dL_law_198 : decode cL_law 198 = .ok (.invokevirtual 26, 3) := by decide +kernel
theorem dL_law_201 : decode cL_law 201 = .ok (.pop, 1) := by decide +kernel
theorem dL_law_202 : decode cL_law 202 = .ok (.goto 565, 3) := by decide +kernel
theorem dL_law_205 : decode cL_law 205 = .ok (.aload_n 1, 1) := by decide +kernel
theorem dL_law_206 : decode cL_law 206 = .ok (.aload_n 0, 1) := by decide +kernel
theorem dL_law_207 : decode cL_law 207 = .ok (.iload_n 3, 1) := by decide +kernel
theorem dL_law_208 : decode cL_law 208 = .ok (.iconst 1, 1) := by decide +kernel
theorem dL_law_209 : decode cL_law 209 = .ok (.iadd, 1) := by decide +kernel
theorem dL_law_210 : decode cL_law 210 = .ok (.iaload, 1) := by decide +kernel
theorem dL_law_211 : decode cL_law 211 = .ok (.invokevirtual 27, 3) := by decide +kernel
theorem dL_law_214 : decode cL_law 214 = .ok (.pop, 1) := by decide +kernel
theorem dL_law_215 : decode cL_law 215 = .ok (.aload_n 2, 1) := by decide +kernel
theorem dL_law_216 : decode cL_law 216 = .ok (.aload_n 0, 1) := by decide +kernel
theorem dL_law_217 : decode cL_law 217 = .ok (.iload_n 3, 1) := by decide +kernel
theorem dL_law_218 : decode cL_law 218 = .ok (.iconst 1, 1) := by decide +kernel
theorem dL_law_219 : decode cL_law 219 = .ok (.iadd, 1) := by decide +kernel
theorem dL_law_220 : decode cL_law 220 = .ok (.iaload, 1) := by decide +kernel
theorem dL_law_221 : decode cL_law 221 = .ok (.invokevirtual 30, 3) := by decide +kernel
theorem dL_law_224 : decode cL_law 224 = .ok (.pop, 1) := by decide +kernel
theorem dL_law_225 : decode cL_law 225 = .ok (.goto 542, 3) := by decide +kernel
theorem dL_law_228 : decode cL_law 228 = .ok (.aload_n 1, 1) := by decide +kernel
theorem dL_law_229 : decode cL_law 229 = .ok (.aload_n 0, 1) := by decide +kernel
theorem dL_law_230 : decode cL_law 230 = .ok (.iload_n 3, 1) := by decide +kernel
theorem dL_law_231 : decode cL_law 231 = .ok (.iconst 1, 1) := by decide +kernel
theorem dL_law_232 : decode cL_law 232 = .ok (.iadd, 1) := by decide +kernel
theorem dL_law_233 : decode cL_law 233 = .ok (.iaload, 1) := by decide +kernel
theorem dL_law_234 : decode cL_law 234 = .ok (.aload_n 0, 1) := by decide +kernel
theorem dL_law_235 : decode cL_law 235 = .ok (.iload_n 3, 1) := by decide +kernel
theorem dL_law_236 : decode cL_law 236 = .ok (.iconst 2, 1) := by decide +kernel
theorem dL_law_237 : decode cL_law 237 = .ok (.iadd, 1) := by decide +kernel
theorem dL_law_238 : decode cL_law 238 = .ok (.iaload, 1) := by decide +kernel
theorem dL_law_239 : decode cL_law 239 = .ok (.invokevirtual 31, 3) := by decide +kernel
theorem dL_law_242 : decode cL_law 242 = .ok (.pop, 1) := by decide +kernel
theorem dL_law_243 : decode cL_law 243 = .ok (.aload_n 2, 1) := by decide +kernel
theorem dL_law_244 : decode cL_law 244 = .ok (.aload_n 0, 1) := by decide +kernel
theorem dL_law_245 : decode cL_law 245 = .ok (.iload_n 3, 1) := by decide +kernel
theorem dL_law_246 : decode cL_law 246 = .ok (.iconst 1, 1) := by decide +kernel
theorem dL_law_247 : decode cL_law 247 = .ok (.iadd, 1) := by decide +kernel
theorem dL_law_248 : decode cL_law 248 = .ok (.iaload, 1) := by decide +kernel
theorem dL_law_249 : decode cL_law 249 = .ok (.aload_n 0, 1) := by decide +kernel
theorem dL_law_250 : decode cL_law 250 = .ok (.iload_n 3, 1) := by decide +kernel
theorem dL_law_251 : decode cL_law 251 = .ok (.iconst 2, 1) := by decide +kernel
theorem dL_law_252 : decode cL_law 252 = .ok (.iadd, 1) := by decide +kernel
theorem dL_law_253 : decode cL_law 253 = .ok (.iaload, 1) := by decide +kernel
theorem dL_law_254 : decode cL_law 254 = .ok (.invokevirtual 35, 3) := by decide +kernel
theorem dL_law_257 : decode cL_law 257 = .ok (.pop, 1) := by decide +kernel
theorem dL_law_258 : decode cL_law 258 = .ok (.goto 509, 3) := by decide +kernel
theorem dL_law_261 : decode cL_law 261 = .ok (.aload_n 1, 1) := by decide +kernel
theorem dL_law_262 : decode cL_law 262 = .ok (.aload_n 0, 1) := by decide +kernel
theorem dL_law_263 : decode cL_law 263 = .ok (.iload_n 3, 1) := by decide +kernel
theorem dL_law_264 : decode cL_law 264 = .ok (.iconst 1, 1) := by decide +kernel
theorem dL_law_265 : decode cL_law 265 = .ok (.iadd, 1) := by decide +kernel
theorem dL_law_266 : decode cL_law 266 = .ok (.iaload, 1) := by decide +kernel
theorem dL_law_267 : decode cL_law 267 = .ok (.aload_n 0, 1) := by decide +kernel
theorem dL_law_268 : decode cL_law 268 = .ok (.iload_n 3, 1) := by decide +kernel
theorem dL_law_269 : decode cL_law 269 = .ok (.iconst 2, 1) := by decide +kernel
theorem dL_law_270 : decode cL_law 270 = .ok (.iadd, 1) := by decide +kernel
theorem dL_law_271 : decode cL_law 271 = .ok (.iaload, 1) := by decide +kernel
theorem dL_law_272 : decode cL_law 272 = .ok (.invokevirtual 36, 3) := by decide +kernel
theorem dL_law_275 : decode cL_law 275 = .ok (.pop, 1) := by decide +kernel
theorem dL_law_276 : decode cL_law 276 = .ok (.aload_n 2, 1) := by decide +kernel
theorem dL_law_277 : decode cL_law 277 = .ok (.aload_n 0, 1) := by decide +kernel
theorem dL_law_278 : decode cL_law 278 = .ok (.iload_n 3, 1) := by decide +kernel
theorem dL_law_279 : decode cL_law 279 = .ok (.iconst 1, 1) := by decide +kernel
theorem dL_law_280 : decode cL_law 280 = .ok (.iadd, 1) := by decide +kernel
theorem dL_law_281 : decode cL_law 281 = .ok (.iaload, 1) := by decide +kernel
theorem dL_law_282 : decode cL_law 282 = .ok (.aload_n 0, 1) := by decide +kernel
theorem dL_law_283 : decode cL_law 283 = .ok (.iload_n 3, 1) := by decide +kernel
theorem dL_law_284 : decode cL_law 284 = .ok (.iconst 2, 1) := by decide +kernel
theorem dL_law_285 : decode cL_law 285 = .ok (.iadd, 1) := by decide +kernel
theorem dL_law_286 : decode cL_law 286 = .ok (.iaload, 1) := by decide +kernel
theorem dL_law_287 : decode cL_law 287 = .ok (.invokevirtual 39, 3) := by decide +kernel
theorem dL_law_290 : decode cL_law 290 = .ok (.pop, 1) := by decide +kernel
theorem dL_law_291 : decode cL_law 291 = .ok (.goto 476, 3) := by decide +kernel
theorem dL_law_294 : decode cL_law 294 = .ok (.aload_n 1, 1) := by decide +kernel
theorem dL_law_295 : decode cL_law 295 = .ok (.aload_n 0, 1) := by decide +kernel
theorem dL_law_296 : decode cL_law 296 = .ok (.iload_n 3, 1) := by decide +kernel
theorem dL_law_297 : decode cL_law 297 = .ok (.iconst 1, 1) := by decide +kernel
theorem dL_law_298 : decode cL_law 298 = .ok (.iadd, 1) := by decide +kernel
theorem dL_law_299 : decode cL_law 299 = .ok (.iaload, 1) := by decide +kernel
theorem dL_law_300 : decode cL_law 300 = .ok (.invokevirtual 40, 3) := by decide +kernel
theorem dL_law_303 : decode cL_law 303 = .ok (.pop, 1) := by decide +kernel
theorem dL_law_304 : decode cL_law 304 = .ok (.aload_n 2, 1) := by decide +kernel
theorem dL_law_305 : decode cL_law 305 = .ok (.aload_n 0, 1) := by decide +kernel
theorem dL_law_306 : decode cL_law 306 = .ok (.iload_n 3, 1) := by decide +kernel
theorem dL_law_307 : decode cL_law 307 = .ok (.iconst 1, 1) := by decide +kernel
theorem dL_law_308 : decode cL_law 308 = .ok (.iadd, 1) := by decide +kernel
theorem dL_law_309 : decode cL_law 309 = .ok (.iaload, 1) := by decide +kernel
theorem dL_law_310 : decode cL_law 310 = .ok (.invokevirtual 43, 3) := by decide +kernel
theorem dL_law_313 : decode cL_law 313 = .ok (.pop, 1) := by decide +kernel
theorem dL_law_314 : decode cL_law 314 = .ok (.goto 453, 3) := by decide +kernel
theorem dL_law_317 : decode cL_law 317 = .ok (.aload_n 1, 1) := by decide +kernel
theorem dL_law_318 : decode cL_law 318 = .ok (.aload_n 0, 1) := by decide +kernel
theorem dL_law_319 : decode cL_law 319 = .ok (.iload_n 3, 1) := by decide +kernel
theorem dL_law_320 : decode cL_law 320 = .ok (.iconst 1, 1) := by decide +kernel
theorem dL_law_321 : decode cL_law 321 = .ok (.iadd, 1) := by decide +kernel
theorem dL_law_322 : decode cL_law 322 = .ok (.iaload, 1) := by decide +kernel
theorem dL_law_323 : decode cL_law 323 = .ok (.invokevirtual 44, 3) := by decide +kernel
theorem dL_law_326 : decode cL_law 326 = .ok (.pop, 1) := by decide +kernel
theorem dL_law_327 : decode cL_law 327 = .ok (.aload_n 2, 1) := by decide +kernel
theorem dL_law_328 : decode cL_law 328 = .ok (.aload_n 0, 1) := by decide +kernel
theorem dL_law_329 : decode cL_law 329 = .ok (.iload_n 3, 1) := by decide +kernel
theorem dL_law_330 : decode cL_law 330 = .ok (.iconst 1, 1) := by decide +kernel
theorem dL_law_331 : decode cL_law 331 = .ok (.iadd, 1) := by decide +kernel
theorem dL_law_332 : decode cL_law 332 = .ok (.iaload, 1) := by decide +kernel
theorem dL_law_333 : decode cL_law 333 = .ok (.invokevirtual 47, 3) := by decide +kernel
theorem dL_law_336 : decode cL_law 336 = .ok (.pop, 1) := by decide +kernel
theorem dL_law_337 : decode cL_law 337 = .ok (.goto 430, 3) := by decide +kernel
theorem dL_law_340 : decode cL_law 340 = .ok (.aload_n 1, 1) := by decide +kernel
theorem dL_law_341 : decode cL_law 341 = .ok (.invokevirtual 48, 3) := by decide +kernel
theorem dL_law_344 : decode cL_law 344 = .ok (.pop, 1) := by decide +kernel
theorem dL_law_345 : decode cL_law 345 = .ok (.aload_n 2, 1) := by decide +kernel
theorem dL_law_346 : decode cL_law 346 = .ok (.invokevirtual 51, 3) := by decide +kernel
theorem dL_law_349 : decode cL_law 349 = .ok (.pop, 1) := by decide +kernel
theorem dL_law_350 : decode cL_law 350 = .ok (.goto 417, 3) := by decide +kernel
theorem dL_law_353 : decode cL_law 353 = .ok (.aload_n 1, 1) := by decide +kernel
theorem dL_law_354 : decode cL_law 354 = .ok (.aload_n 0, 1) := by decide +kernel
theorem dL_law_355 : decode cL_law 355 = .ok (.iload_n 3, 1) := by decide +kernel
theorem dL_law_356 : decode cL_law 356 = .ok (.iconst 1, 1) := by decide +kernel
theorem dL_law_357 : decode cL_law 357 = .ok (.iadd, 1) := by decide +kernel
theorem dL_law_358 : decode cL_law 358 = .ok (.iaload, 1) := by decide +kernel
theorem dL_law_359 : decode cL_law 359 = .ok (.invokevirtual 52, 3) := by decide +kernel
theorem dL_law_362 : decode cL_law 362 = .ok (.pop, 1) := by decide +kernel
theorem dL_law_363 : decode cL_law 363 = .ok (.aload_n 2, 1) := by decide +kernel
theorem dL_law_364 : decode cL_law 364 = .ok (.aload_n 0, 1) := by decide +kernel
theorem dL_law_365 : decode cL_law 365 = .ok (.iload_n 3, 1) := by decide +kernel
theorem dL_law_366 : decode cL_law 366 = .ok (.iconst 1, 1) := by decide +kernel
theorem dL_law_367 : decode cL_law 367 = .ok (.iadd, 1) := by decide +kernel
theorem dL_law_368 : decode cL_law 368 = .ok (.iaload, 1) := by decide +kernel
theorem dL_law_369 : decode cL_law 369 = .ok (.invokevirtual 55, 3) := by decide +kernel
theorem dL_law_372 : decode cL_law 372 = .ok (.pop, 1) := by decide +kernel
theorem dL_law_373 : decode cL_law 373 = .ok (.goto 394, 3) := by decide +kernel
theorem dL_law_376 : decode cL_law 376 = .ok (.aload_n 1, 1) := by decide +kernel
theorem dL_law_377 : decode cL_law 377 = .ok (.aload_n 0, 1) := by decide +kernel
theorem dL_law_378 : decode cL_law 378 = .ok (.iload_n 3, 1) := by decide +kernel
theorem dL_law_379 : decode cL_law 379 = .ok (.iconst 1, 1) := by decide +kernel
theorem dL_law_380 : decode cL_law 380 = .ok (.iadd, 1) := by decide +kernel
theorem dL_law_381 : decode cL_law 381 = .ok (.iaload, 1) := by decide +kernel
theorem dL_law_382 : decode cL_law 382 = .ok (.invokevirtual 56, 3) := by decide +kernel
theorem dL_law_385 : decode cL_law 385 = .ok (.pop, 1) := by decide +kernel
theorem dL_law_386 : decode cL_law 386 = .ok (.aload_n 2, 1) := by decide +kernel
theorem dL_law_387 : decode cL_law 387 = .ok (.aload_n 0, 1) := by decide +kernel
theorem dL_law_388 : decode cL_law 388 = .ok (.iload_n 3, 1) := by decide +kernel
theorem dL_law_389 : decode cL_law 389 = .ok (.iconst 1, 1) := by decide +kernel
theorem dL_law_390 : decode cL_law 390 = .ok (.iadd, 1) := by decide +kernel
theorem dL_law_391 : decode cL_law 391 = .ok (.iaload, 1) := by decide +kernel
theorem dL_law_392 : decode cL_law 392 = .ok (.invokevirtual 59, 3) := by decide +kernel
theorem dL_law_395 : decode cL_law 395 = .ok (.pop, 1) := by decide +kernel
theorem dL_law_396 : decode cL_law 396 = .ok (.goto 371, 3) := by decide +kernel
theorem dL_law_399 : decode cL_law 399 = .ok (.aload_n 1, 1) := by decide +kernel
theorem dL_law_400 : decode cL_law 400 = .ok (.invokevirtual 60, 3) := by decide +kernel
theorem dL_law_403 : decode cL_law 403 = .ok (.pop, 1) := by decide +kernel
theorem dL_law_404 : decode cL_law 404 = .ok (.aload_n 2, 1) := by decide +kernel
theorem dL_law_405 : decode cL_law 405 = .ok (.invokevirtual 63, 3) := by decide +kernel
theorem dL_law_408 : decode cL_law 408 = .ok (.pop, 1) := by decide +kernel
theorem dL_law_409 : decode cL_law 409 = .ok (.goto 358, 3) := by decide +kernel
theorem dL_law_412 : decode cL_law 412 = .ok (.aload_n 1, 1) := by decide +kernel
theorem dL_law_413 : decode cL_law 413 = .ok (.aload_n 0, 1) := by decide +kernel
theorem dL_law_414 : decode cL_law 414 = .ok (.iload_n 3, 1) := by decide +kernel
theorem dL_law_415 : decode cL_law 415 = .ok (.iconst 1, 1) := by decide +kernel
theorem dL_law_416 : decode cL_law 416 = .ok (.iadd, 1) := by decide +kernel
theorem dL_law_417 : decode cL_law 417 = .ok (.iaload, 1) := by decide +kernel
theorem dL_law_418 : decode cL_law 418 = .ok (.invokevirtual 64, 3) := by decide +kernel
theorem dL_law_421 : decode cL_law 421 = .ok (.pop, 1) := by decide +kernel
theorem dL_law_422 : decode cL_law 422 = .ok (.aload_n 2, 1) := by decide +kernel
theorem dL_law_423 : decode cL_law 423 = .ok (.aload_n 0, 1) := by decide +kernel
theorem dL_law_424 : decode cL_law 424 = .ok (.iload_n 3, 1) := by decide +kernel
theorem dL_law_425 : decode cL_law 425 = .ok (.iconst 1, 1) := by decide +kernel
theorem dL_law_426 : decode cL_law 426 = .ok (.iadd, 1) := by decide +kernel
theorem dL_law_427 : decode cL_law 427 = .ok (.iaload, 1) := by decide +kernel
theorem dL_law_428 : decode cL_law 428 = .ok (.invokevirtual 67, 3) := by decide +kernel
theorem dL_law_431 : decode cL_law 431 = .ok (.pop, 1) := by decide +kernel
theorem dL_law_432 : decode cL_law 432 = .ok (.goto 335, 3) := by decide +kernel
theorem dL_law_435 : decode cL_law 435 = .ok (.aload_n 1, 1) := by decide +kernel
theorem dL_law_436 : decode cL_law 436 = .ok (.aload_n 0, 1) := by decide +kernel
theorem dL_law_437 : decode cL_law 437 = .ok (.iload_n 3, 1) := by decide +kernel
theorem dL_law_438 : decode cL_law 438 = .ok (.iconst 1, 1) := by decide +kernel
theorem dL_law_439 : decode cL_law 439 = .ok (.iadd, 1) := by decide +kernel
theorem dL_law_440 : decode cL_law 440 = .ok (.iaload, 1) := by decide +kernel
theorem dL_law_441 : decode cL_law 441 = .ok (.invokevirtual 68, 3) := by decide +kernel
theorem dL_law_444 : decode cL_law 444 = .ok (.pop, 1) := by decide +kernel
theorem dL_law_445 : decode cL_law 445 = .ok (.aload_n 2, 1) := by decide +kernel
theorem dL_law_446 : decode cL_law 446 = .ok (.aload_n 0, 1) := by decide +kernel
theorem dL_law_447 : decode cL_law 447 = .ok (.iload_n 3, 1) := by decide +kernel
theorem dL_law_448 : decode cL_law 448 = .ok (.iconst 1, 1) := by decide +kernel
theorem dL_law_449 : decode cL_law 449 = .ok (.iadd, 1) := by decide +kernel
theorem dL_law_450 : decode cL_law 450 = .ok (.iaload, 1) := by decide +kernel
theorem dL_law_451 : decode cL_law 451 = .ok (.invokevirtual 71, 3) := by decide +kernel
theorem dL_law_454 : decode cL_law 454 = .ok (.pop, 1) := by decide +kernel
theorem dL_law_455 : decode cL_law 455 = .ok (.goto 312, 3) := by decide +kernel
theorem dL_law_458 : decode cL_law 458 = .ok (.aload_n 1, 1) := by decide +kernel
theorem dL_law_459 : decode cL_law 459 = .ok (.aload_n 0, 1) := by decide +kernel
theorem dL_law_460 : decode cL_law 460 = .ok (.iload_n 3, 1) := by decide +kernel
theorem dL_law_461 : decode cL_law 461 = .ok (.iconst 1, 1) := by decide +kernel
theorem dL_law_462 : decode cL_law 462 = .ok (.iadd, 1) := by decide +kernel
theorem dL_law_463 : decode cL_law 463 = .ok (.iaload, 1) := by decide +kernel
theorem dL_law_464 : decode cL_law 464 = .ok (.aload_n 0, 1) := by decide +kernel
theorem dL_law_465 : decode cL_law 465 = .ok (.iload_n 3, 1) := by decide +kernel
theorem dL_law_466 : decode cL_law 466 = .ok (.iconst 2, 1) := by decide +kernel
theorem dL_law_467 : decode cL_law 467 = .ok (.iadd, 1) := by decide +kernel
theorem dL_law_468 : decode cL_law 468 = .ok (.iaload, 1) := by decide +kernel
theorem dL_law_469 : decode cL_law 469 = .ok (.invokevirtual 72, 3) := by decide +kernel
theorem dL_law_472 : decode cL_law 472 = .ok (.pop, 1) := by decide +kernel
theorem dL_law_473 : decode cL_law 473 = .ok (.aload_n 2, 1) := by decide +kernel
theorem dL_law_474 : decode cL_law 474 = .ok (.aload_n 0, 1) := by decide +kernel
theorem dL_law_475 : decode cL_law 475 = .ok (.iload_n 3, 1) := by decide +kernel
theorem dL_law_476 : decode cL_law 476 = .ok (.iconst 1, 1) := by decide +kernel
theorem dL_law_477 : decode cL_law 477 = .ok (.iadd, 1) := by decide +kernel
theorem dL_law_478 : decode cL_law 478 = .ok (.iaload, 1) := by decide +kernel
theorem dL_law_479 : decode cL_law 479 = .ok (.aload_n 0, 1) := by decide +kernel
theorem dL_law_480 : decode cL_law 480 = .ok (.iload_n 3, 1) := by decide +kernel
theorem dL_law_481 : decode cL_law 481 = .ok (.iconst 2, 1) := by decide +kernel
theorem dL_law_482 : decode cL_law 482 = .ok (.iadd, 1) := by decide +kernel
theorem dL_law_483 : decode cL_law 483 = .ok (.iaload, 1) := by decide +kernel
theorem dL_law_484 : decode cL_law 484 = .ok (.invokevirtual 75, 3) := by decide +kernel
theorem dL_law_487 : decode cL_law 487 = .ok (.pop, 1) := by decide +kernel
theorem dL_law_488 : decode cL_law 488 = .ok (.goto 279, 3) := by decide +kernel
theorem dL_law_491 : decode cL_law 491 = .ok (.aload_n 1, 1) := by decide +kernel
theorem dL_law_492 : decode cL_law 492 = .ok (.aload_n 0, 1) := by decide +kernel
theorem dL_law_493 : decode cL_law 493 = .ok (.iload_n 3, 1) := by decide +kernel
theorem dL_law_494 : decode cL_law 494 = .ok (.iconst 1, 1) := by decide +kernel
theorem dL_law_495 : decode cL_law 495 = .ok (.iadd, 1) := by decide +kernel
theorem dL_law_496 : decode cL_law 496 = .ok (.iaload, 1) := by decide +kernel
theorem dL_law_497 : decode cL_law 497 = .ok (.aload_n 0, 1) := by decide +kernel
theorem dL_law_498 : decode cL_law 498 = .ok (.iload_n 3, 1) := by decide +kernel
theorem dL_law_499 : decode cL_law 499 = .ok (.iconst 2, 1) := by decide +kernel
theorem dL_law_500 : decode cL_law 500 = .ok (.iadd, 1) := by decide +kernel
theorem dL_law_501 : decode cL_law 501 = .ok (.iaload, 1) := by decide +kernel
theorem dL_law_502 : decode cL_law 502 = .ok (.invokevirtual 76, 3) := by decide +kernel
theorem dL_law_505 : decode cL_law 505 = .ok (.pop, 1) := by decide +kernel
theorem dL_law_506 : decode cL_law 506 = .ok (.aload_n 2, 1) := by decide +kernel
theorem dL_law_507 : decode cL_law 507 = .ok (.aload_n 0, 1) := by decide +kernel
theorem dL_law_508 : decode cL_law 508 = .ok (.iload_n 3, 1) := by decide +kernel
theorem dL_law_509 : decode cL_law 509 = .ok (.iconst 1, 1) := by decide +kernel
theorem dL_law_510 : decode cL_law 510 = .ok (.iadd, 1) := by decide +kernel
theorem dL_law_511 : decode cL_law 511 = .ok (.iaload, 1) := by decide +kernel
theorem dL_law_512 : decode cL_law 512 = .ok (.aload_n 0, 1) := by decide +kernel
theorem dL_law_513 : decode cL_law 513 = .ok (.iload_n 3, 1) := by decide +kernel
theorem dL_law_514 : decode cL_law 514 = .ok (.iconst 2, 1) := by decide +kernel
theorem dL_law_515 : decode cL_law 515 = .ok (.iadd, 1) := by decide +kernel
theorem dL_law_516 : decode cL_law 516 = .ok (.iaload, 1) := by decide +kernel
theorem dL_law_517 : decode cL_law 517 = .ok (.invokevirtual 79, 3) := by decide +kernel
theorem dL_law_520 : decode cL_law 520 = .ok (.pop, 1) := by decide +kernel
theorem dL_law_521 : decode cL_law 521 = .ok (.goto 246, 3) := by decide +kernel
theorem dL_law_524 : decode cL_law 524 = .ok (.aload_n 1, 1) := by decide +kernel
theorem dL_law_525 : decode cL_law 525 = .ok (.aload_n 0, 1) := by decide +kernel
theorem dL_law_526 : decode cL_law 526 = .ok (.iload_n 3, 1) := by decide +kernel
theorem dL_law_527 : decode cL_law 527 = .ok (.iconst 1, 1) := by decide +kernel
theorem dL_law_528 : decode cL_law 528 = .ok (.iadd, 1) := by decide +kernel
theorem dL_law_529 : decode cL_law 529 = .ok (.iaload, 1) := by decide +kernel
theorem dL_law_530 : decode cL_law 530 = .ok (.invokevirtual 80, 3) := by decide +kernel
theorem dL_law_533 : decode cL_law 533 = .ok (.pop, 1) := by decide +kernel
theorem dL_law_534 : decode cL_law 534 = .ok (.aload_n 2, 1) := by decide +kernel
theorem dL_law_535 : decode cL_law 535 = .ok (.aload_n 0, 1) := by decide +kernel
theorem dL_law_536 : decode cL_law 536 = .ok (.iload_n 3, 1) := by decide +kernel
theorem dL_law_537 : decode cL_law 537 = .ok (.iconst 1, 1) := by decide +kernel
theorem dL_law_538 : decode cL_law 538 = .ok (.iadd, 1) := by decide +kernel
theorem dL_law_539 : decode cL_law 539 = .ok (.iaload, 1) := by decide +kernel
theorem dL_law_540 : decode cL_law 540 = .ok (.invokevirtual 83, 3) := by decide +kernel
theorem dL_law_543 : decode cL_law 543 = .ok (.pop, 1) := by decide +kernel
theorem dL_law_544 : decode cL_law 544 = .ok (.goto 223, 3) := by decide +kernel
theorem dL_law_547 : decode cL_law 547 = .ok (.aload_n 1, 1) := by decide +kernel
theorem dL_law_548 : decode cL_law 548 = .ok (.aload_n 0, 1) := by decide +kernel
theorem dL_law_549 : decode cL_law 549 = .ok (.iload_n 3, 1) := by decide +kernel
theorem dL_law_550 : decode cL_law 550 = .ok (.iconst 1, 1) := by decide +kernel
theorem dL_law_551 : decode cL_law 551 = .ok (.iadd, 1) := by decide +kernel
theorem dL_law_552 : decode cL_law 552 = .ok (.iaload, 1) := by decide +kernel
theorem dL_law_553 : decode cL_law 553 = .ok (.aload_n 0, 1) := by decide +kernel
theorem dL_law_554 : decode cL_law 554 = .ok (.iload_n 3, 1) := by decide +kernel
theorem dL_law_555 : decode cL_law 555 = .ok (.iconst 2, 1) := by decide +kernel
theorem dL_law_556 : decode cL_law 556 = .ok (.iadd, 1) := by decide +kernel
theorem dL_law_557 : decode cL_law 557 = .ok (.iaload, 1) := by decide +kernel
theorem dL_law_558 : decode cL_law 558 = .ok (.invokevirtual 84, 3) := by decide +kernel
theorem dL_law_561 : decode cL_law 561 = .ok (.pop, 1) := by decide +kernel
theorem dL_law_562 : decode cL_law 562 = .ok (.aload_n 2, 1) := by decide +kernel
theorem dL_law_563 : decode cL_law 563 = .ok (.aload_n 0, 1) := by decide +kernel
theorem dL_law_564 : decode cL_law 564 = .ok (.iload_n 3, 1) := by decide +kernel
theorem dL_law_565 : decode cL_law 565 = .ok (.iconst 1, 1) := by decide +kernel
theorem dL_law_566 : decode cL_law 566 = .ok (.iadd, 1) := by decide +kernel
theorem dL_law_567 : decode cL_law 567 = .ok (.iaload, 1) := by decide +kernel
theorem dL_law_568 : decode cL_law 568 = .ok (.aload_n 0, 1) := by decide +kernel
theorem dL_law_569 : decode cL_law 569 = .ok (.iload_n 3, 1) := by decide +kernel
theorem dL_law_570 : decode cL_law 570 = .ok (.iconst 2, 1) := by decide +kernel
theorem dL_law_571 : decode cL_law 571 = .ok (.iadd, 1) := by decide +kernel
theorem dL_law_572 : decode cL_law 572 = .ok (.iaload, 1) := by decide +kernel
theorem dL_law_573 : decode cL_law 573 = .ok (.invokevirtual 87, 3) := by decide +kernel
theorem dL_law_576 : decode cL_law 576 = .ok (.pop, 1) := by decide +kernel
theorem dL_law_577 : decode cL_law 577 = .ok (.goto 190, 3) := by decide +kernel
theorem dL_law_580 : decode cL_law 580 = .ok (.aload_n 1, 1) := by decide +kernel
theorem dL_law_581 : decode cL_law 581 = .ok (.aload_n 0, 1) := by decide +kernel
theorem dL_law_582 : decode cL_law 582 = .ok (.iload_n 3, 1) := by decide +kernel
theorem dL_law_583 : decode cL_law 583 = .ok (.iconst 1, 1) := by decide +kernel
theorem dL_law_584 : decode cL_law 584 = .ok (.iadd, 1) := by decide +kernel
theorem dL_law_585 : decode cL_law 585 = .ok (.iaload, 1) := by decide +kernel
theorem dL_law_586 : decode cL_law 586 = .ok (.aload_n 0, 1) := by decide +kernel
theorem dL_law_587 : decode cL_law 587 = .ok (.iload_n 3, 1) := by decide +kernel
theorem dL_law_588 : decode cL_law 588 = .ok (.iconst 2, 1) := by decide +kernel
theorem dL_law_589 : decode cL_law 589 = .ok (.iadd, 1) := by decide +kernel
theorem dL_law_590 : decode cL_law 590 = .ok (.iaload, 1) := by decide +kernel
theorem dL_law_591 : decode cL_law 591 = .ok (.invokevirtual 88, 3) := by decide +kernel
theorem dL_law_594 : decode cL_law 594 = .ok (.pop, 1) := by decide +kernel
theorem dL_law_595 : decode cL_law 595 = .ok (.aload_n 2, 1) := by decide +kernel
theorem dL_law_596 : decode cL_law 596 = .ok (.aload_n 0, 1) := by decide +kernel
theorem dL_law_597 : decode cL_law 597 = .ok (.iload_n 3, 1) := by decide +kernel
theorem dL_law_598 : decode cL_law 598 = .ok (.iconst 1, 1) := by decide +kernel
theorem dL_law_599 : decode cL_law 599 = .ok (.iadd, 1) := by decide +kernel
theorem dL_law_600 : decode cL_law 600 = .ok (.iaload, 1) := by decide +kernel
theorem dL_law_601 : decode cL_law 601 = .ok (.aload_n 0, 1) := by decide +kernel
theorem dL_law_602 : decode cL_law 602 = .ok (.iload_n 3, 1) := by decide +kernel
theorem dL_law_603 : decode cL_law 603 = .ok (.iconst 2, 1) := by decide +kernel
theorem dL_law_604 : decode cL_law 604 = .ok (.iadd, 1) := by decide +kernel
theorem dL_law_605 : decode cL_law 605 = .ok (.iaload, 1) := by decide +kernel
theorem dL_law_606 : decode cL_law 606 = .ok (.invokevirtual 91, 3) := by decide +kernel
theorem dL_law_609 : decode cL_law 609 = .ok (.pop, 1) := by decide +kernel
theorem dL_law_610 : decode cL_law 610 = .ok (.goto 157, 3) := by decide +kernel
theorem dL_law_613 : decode cL_law 613 = .ok (.aload_n 1, 1) := by decide +kernel
theorem dL_law_614 : decode cL_law 614 = .ok (.invokevirtual 92, 3) := by decide +kernel
theorem dL_law_617 : decode cL_law 617 = .ok (.pop, 1) := by decide +kernel
theorem dL_law_618 : decode cL_law 618 = .ok (.aload_n 2, 1) := by decide +kernel
theorem dL_law_619 : decode cL_law 619 = .ok (.invokevirtual 95, 3) := by decide +kernel
theorem dL_law_622 : decode cL_law 622 = .ok (.pop, 1) := by decide +kernel
theorem dL_law_623 : decode cL_law 623 = .ok (.goto 144, 3) := by decide +kernel
theorem dL_law_626 : decode cL_law 626 = .ok (.aload_n 1, 1) := by decide +kernel
theorem dL_law_627 : decode cL_law 627 = .ok (.invokevirtual 96, 3) := by decide +kernel
theorem dL_law_630 : decode cL_law 630 = .ok (.aload_n 2, 1) := by decide +kernel
theorem dL_law_631 : decode cL_law 631 = .ok (.invokevirtual 99, 3) := by decide +kernel
theorem dL_law_634 : decode cL_law 634 = .ok (.if_icmp .eq 133, 3) := by decide +kernel
theorem dL_law_637 : decode cL_law 637 = .ok (.iconst 0, 1) := by decide +kernel
theorem dL_law_638 : decode cL_law 638 = .ok (.ireturn, 1) := by decide +kernel
theorem dL_law_639 : decode cL_law 639 = .ok (.aload_n 1, 1) := by decide +kernel
theorem dL_law_640 : decode cL_law 640 = .ok (.aload_n 0, 1) := by decide +kernel
theorem dL_law_641 : decode cL_law 641 = .ok (.iload_n 3, 1) := by decide +kernel
theorem dL_law_642 : decode cL_law 642 = .ok (.iconst 1, 1) := by decide +kernel
theorem dL_law_643 : decode cL_law 643 = .ok (.iadd, 1) := by decide +kernel
theorem dL_law_644 : decode cL_law 644 = .ok (.iaload, 1) := by decide +kernel
theorem dL_law_645 : decode cL_law 645 = .ok (.aload_n 0, 1) := by decide +kernel
theorem dL_law_646 : decode cL_law 646 = .ok (.iload_n 3, 1) := by decide +kernel
theorem dL_law_647 : decode cL_law 647 = .ok (.iconst 2, 1) := by decide +kernel
theorem dL_law_648 : decode cL_law 648 = .ok (.iadd, 1) := by decide +kernel
theorem dL_law_649 : decode cL_law 649 = .ok (.iaload, 1) := by decide +kernel
theorem dL_law_650 : decode cL_law 650 = .ok (.invokevirtual 100, 3) := by decide +kernel
theorem dL_law_653 : decode cL_law 653 = .ok (.pop, 1) := by decide +kernel
theorem dL_law_654 : decode cL_law 654 = .ok (.aload_n 2, 1) := by decide +kernel
theorem dL_law_655 : decode cL_law 655 = .ok (.aload_n 0, 1) := by decide +kernel
theorem dL_law_656 : decode cL_law 656 = .ok (.iload_n 3, 1) := by decide +kernel
theorem dL_law_657 : decode cL_law 657 = .ok (.iconst 1, 1) := by decide +kernel
theorem dL_law_658 : decode cL_law 658 = .ok (.iadd, 1) := by decide +kernel
theorem dL_law_659 : decode cL_law 659 = .ok (.iaload, 1) := by decide +kernel
theorem dL_law_660 : decode cL_law 660 = .ok (.aload_n 0, 1) := by decide +kernel
theorem dL_law_661 : decode cL_law 661 = .ok (.iload_n 3, 1) := by decide +kernel
theorem dL_law_662 : decode cL_law 662 = .ok (.iconst 2, 1) := by decide +kernel
theorem dL_law_663 : decode cL_law 663 = .ok (.iadd, 1) := by decide +kernel
theorem dL_law_664 : decode cL_law 664 = .ok (.iaload, 1) := by decide +kernel
theorem dL_law_665 : decode cL_law 665 = .ok (.invokevirtual 103, 3) := by decide +kernel
theorem dL_law_668 : decode cL_law 668 = .ok (.pop, 1) := by decide +kernel
theorem dL_law_669 : decode cL_law 669 = .ok (.goto 98, 3) := by decide +kernel
theorem dL_law_672 : decode cL_law 672 = .ok (.aload_n 1, 1) := by decide +kernel
theorem dL_law_673 : decode cL_law 673 = .ok (.invokevirtual 104, 3) := by decide +kernel
theorem dL_law_676 : decode cL_law 676 = .ok (.pop, 1) := by decide +kernel
theorem dL_law_677 : decode cL_law 677 = .ok (.aload_n 2, 1) := by decide +kernel
theorem dL_law_678 : decode cL_law 678 = .ok (.invokevirtual 107, 3) := by decide +kernel
theorem dL_law_681 : decode cL_law 681 = .ok (.pop, 1) := by decide +kernel
theorem dL_law_682 : decode cL_law 682 = .ok (.goto 85, 3) := by decide +kernel
theorem dL_law_685 : decode cL_law 685 = .ok (.aload_n 1, 1) := by decide +kernel
theorem dL_law_686 : decode cL_law 686 = .ok (.invokevirtual 108, 3) := by decide +kernel
theorem dL_law_689 : decode cL_law 689 = .ok (.pop, 1) := by decide +kernel
theorem dL_law_690 : decode cL_law 690 = .ok (.aload_n 2, 1) := by decide +kernel
theorem dL_law_691 : decode cL_law 691 = .ok (.invokevirtual 111, 3) := by decide +kernel
theorem dL_law_694 : decode cL_law 694 = .ok (.pop, 1) := by decide +kernel
theorem dL_law_695 : decode cL_law 695 = .ok (.goto 72, 3) := by decide +kernel
theorem dL_law_698 : decode cL_law 698 = .ok (.aload_n 1, 1) := by decide +kernel
theorem dL_law_699 : decode cL_law 699 = .ok (.aload_n 0, 1) := by decide +kernel
theorem dL_law_700 : decode cL_law 700 = .ok (.iload_n 3, 1) := by decide +kernel
theorem dL_law_701 : decode cL_law 701 = .ok (.iconst 1, 1) := by decide +kernel
theorem dL_law_702 : decode cL_law 702 = .ok (.iadd, 1) := by decide +kernel
theorem dL_law_703 : decode cL_law 703 = .ok (.iaload, 1) := by decide +kernel
theorem dL_law_704 : decode cL_law 704 = .ok (.invokevirtual 112, 3) := by decide +kernel
theorem dL_law_707 : decode cL_law 707 = .ok (.pop, 1) := by decide +kernel
theorem dL_law_708 : decode cL_law 708 = .ok (.aload_n 2, 1) := by decide +kernel
theorem dL_law_709 : decode cL_law 709 = .ok (.aload_n 0, 1) := by decide +kernel
theorem dL_law_710 : decode cL_law 710 = .ok (.iload_n 3, 1) := by decide +kernel
theorem dL_law_711 : decode cL_law 711 = .ok (.iconst 1, 1) := by decide +kernel
theorem dL_law_712 : decode cL_law 712 = .ok (.iadd, 1) := by decide +kernel
theorem dL_law_713 : decode cL_law 713 = .ok (.iaload, 1) := by decide +kernel
theorem dL_law_714 : decode cL_law 714 = .ok (.invokevirtual 115, 3) := by decide +kernel
theorem dL_law_717 : decode cL_law 717 = .ok (.pop, 1) := by decide +kernel
theorem dL_law_718 : decode cL_law 718 = .ok (.goto 49, 3) := by decide +kernel
theorem dL_law_721 : decode cL_law 721 = .ok (.aload_n 1, 1) := by decide +kernel
theorem dL_law_722 : decode cL_law 722 = .ok (.aload_n 0, 1) := by decide +kernel
theorem dL_law_723 : decode cL_law 723 = .ok (.iload_n 3, 1) := by decide +kernel
theorem dL_law_724 : decode cL_law 724 = .ok (.iconst 1, 1) := by decide +kernel
theorem dL_law_725 : decode cL_law 725 = .ok (.iadd, 1) := by decide +kernel
theorem dL_law_726 : decode cL_law 726 = .ok (.iaload, 1) := by decide +kernel
theorem dL_law_727 : decode cL_law 727 = .ok (.invokevirtual 116, 3) := by decide +kernel
theorem dL_law_730 : decode cL_law 730 = .ok (.pop, 1) := by decide +kernel
theorem dL_law_731 : decode cL_law 731 = .ok (.aload_n 2, 1) := by decide +kernel
theorem dL_law_732 : decode cL_law 732 = .ok (.aload_n 0, 1) := by decide +kernel
theorem dL_law_733 : decode cL_law 733 = .ok (.iload_n 3, 1) := by decide +kernel
theorem dL_law_734 : decode cL_law 734 = .ok (.iconst 1, 1) := by decide +kernel
theorem dL_law_735 : decode cL_law 735 = .ok (.iadd, 1) := by decide +kernel
theorem dL_law_736 : decode cL_law 736 = .ok (.iaload, 1) := by decide +kernel
theorem dL_law_737 : decode cL_law 737 = .ok (.invokevirtual 119, 3) := by decide +kernel
theorem dL_law_740 : decode cL_law 740 = .ok (.pop, 1) := by decide +kernel
theorem dL_law_741 : decode cL_law 741 = .ok (.goto 26, 3) := by decide +kernel
theorem dL_law_744 : decode cL_law 744 = .ok (.aload_n 1, 1) := by decide +kernel
theorem dL_law_745 : decode cL_law 745 = .ok (.aload_n 0, 1) := by decide +kernel
theorem dL_law_746 : decode cL_law 746 = .ok (.iload_n 3, 1) := by decide +kernel
theorem dL_law_747 : decode cL_law 747 = .ok (.iconst 1, 1) := by decide +kernel
theorem dL_law_748 : decode cL_law 748 = .ok (.iadd, 1) := by decide +kernel
theorem dL_law_749 : decode cL_law 749 = .ok (.iaload, 1) := by decide +kernel
theorem dL_law_750 : decode cL_law 750 = .ok (.invokevirtual 120, 3) := by decide +kernel
theorem dL_law_753 : decode cL_law 753 = .ok (.pop, 1) := by decide +kernel
theorem dL_law_754 : decode cL_law 754 = .ok (.aload_n 2, 1) := by decide +kernel
theorem dL_law_755 : decode cL_law 755 = .ok (.aload_n 0, 1) := by decide +kernel
theorem dL_law_756 : decode cL_law 756 = .ok (.iload_n 3, 1) := by decide +kernel
theorem dL_law_757 : decode cL_law 757 = .ok (.iconst 1, 1) := by decide +kernel
theorem dL_law_758 : decode cL_law 758 = .ok (.iadd, 1) := by decide +kernel
theorem dL_law_759 : decode cL_law 759 = .ok (.iaload, 1) := by decide +kernel
theorem dL_law_760 : decode cL_law 760 = .ok (.invokevirtual 123, 3) := by decide +kernel
theorem dL_law_763 : decode cL_law 763 = .ok (.pop, 1) := by decide +kernel
theorem dL_law_764 : decode cL_law 764 = .ok (.goto 3, 3) := by decide +kernel
theorem dL_law_767 : decode cL_law 767 = .ok (.iinc 3 3, 3) := by decide +kernel
theorem dL_law_770 : decode cL_law 770 = .ok (.goto (-752), 3) := by decide +kernel
theorem dL_law_773 : decode cL_law 773 = .ok (.iconst 1, 1) := by decide +kernel
theorem dL_law_774 : decode cL_law 774 = .ok (.ireturn, 1) := by decide +kernel
theorem dX0_bestOf_0 : decode cX0_bestOf 0 = .ok (.iconst (-1), 1) := by decide +kernel
theorem dX0_bestOf_1 : decode cX0_bestOf 1 = .ok (.istore_n 2, 1) := by decide +kernel
theorem dX0_bestOf_2 : decode cX0_bestOf 2 = .ok (.iload_n 1, 1) := by decide +kernel
theorem dX0_bestOf_3 : decode cX0_bestOf 3 = .ok (.invokestatic 9, 3) := by decide +kernel
theorem dX0_bestOf_6 : decode cX0_bestOf 6 = .ok (.istore_n 3, 1) := by decide +kernel
theorem dX0_bestOf_7 : decode cX0_bestOf 7 = .ok (.iconst 0, 1) := by decide +kernel
theorem dX0_bestOf_8 : decode cX0_bestOf 8 = .ok (.istore 4, 2) := by decide +kernel
theorem dX0_bestOf_10 : decode cX0_bestOf 10 = .ok (.iload 4, 2) := by decide +kernel
theorem dX0_bestOf_12 : decode cX0_bestOf 12 = .ok (.aload_n 0, 1) := by decide +kernel
theorem dX0_bestOf_13 : decode cX0_bestOf 13 = .ok (.getfield 15, 3) := by decide +kernel
theorem dX0_bestOf_16 : decode cX0_bestOf 16 = .ok (.if_icmp .ge 30, 3) := by decide +kernel
theorem dX0_bestOf_19 : decode cX0_bestOf 19 = .ok (.aload_n 0, 1) := by decide +kernel
theorem dX0_bestOf_20 : decode cX0_bestOf 20 = .ok (.iload 4, 2) := by decide +kernel
theorem dX0_bestOf_22 : decode cX0_bestOf 22 = .ok (.iload_n 1, 1) := by decide +kernel
theorem dX0_bestOf_23 : decode cX0_bestOf 23 = .ok (.invokestatic 21, 3) := by decide +kernel
theorem dX0_bestOf_26 : decode cX0_bestOf 26 = .ok (.istore 5, 2) := by decide +kernel
theorem dX0_bestOf_28 : decode cX0_bestOf 28 = .ok (.iload 5, 2) := by decide +kernel
theorem dX0_bestOf_30 : decode cX0_bestOf 30 = .ok (.iload_n 3, 1) := by decide +kernel
theorem dX0_bestOf_31 : decode cX0_bestOf 31 = .ok (.if_icmp .ge 9, 3) := by decide +kernel
theorem dX0_bestOf_34 : decode cX0_bestOf 34 = .ok (.iload 5, 2) := by decide +kernel
theorem dX0_bestOf_36 : decode cX0_bestOf 36 = .ok (.istore_n 3, 1) := by decide +kernel
theorem dX0_bestOf_37 : decode cX0_bestOf 37 = .ok (.iload 4, 2) := by decide +kernel
theorem dX0_bestOf_39 : decode cX0_bestOf 39 = .ok (.istore_n 2, 1) := by decide +kernel
theorem dX0_bestOf_40 : decode cX0_bestOf 40 = .ok (.iinc 4 1, 3) := by decide +kernel
theorem dX0_bestOf_43 : decode cX0_bestOf 43 = .ok (.goto (-33), 3) := by decide +kernel
theorem dX0_bestOf_46 : decode cX0_bestOf 46 = .ok (.iload_n 2, 1) := by decide +kernel
theorem dX0_bestOf_47 : decode cX0_bestOf 47 = .ok (.ireturn, 1) := by decide +kernel
theorem dX0_greatestPart_0 : decode cX0_greatestPart 0 = .ok (.iconst 0, 1) := by decide +kernel
theorem dX0_greatestPart_1 : decode cX0_greatestPart 1 = .ok (.istore_n 3, 1) := by decide +kernel
theorem dX0_greatestPart_2 : decode cX0_greatestPart 2 = .ok (.iconst 0, 1) := by decide +kernel
theorem dX0_greatestPart_3 : decode cX0_greatestPart 3 = .ok (.istore 4, 2) := by decide +kernel
theorem dX0_greatestPart_5 : decode cX0_greatestPart 5 = .ok (.iload 4, 2) := by decide +kernel
theorem dX0_greatestPart_7 : decode cX0_greatestPart 7 = .ok (.aload_n 0, 1) := by decide +kernel
theorem dX0_greatestPart_8 : decode cX0_greatestPart 8 = .ok (.getfield 27, 3) := by decide +kernel
theorem dX0_greatestPart_11 : decode cX0_greatestPart 11 = .ok (.if_icmp .ge 36, 3) := by decide +kernel
theorem dX0_greatestPart_14 : decode cX0_greatestPart 14 = .ok (.iload_n 2, 1) := by decide +kernel
theorem dX0_greatestPart_15 : decode cX0_greatestPart 15 = .ok (.iload 4, 2) := by decide +kernel
theorem dX0_greatestPart_17 : decode cX0_greatestPart 17 = .ok (.invokestatic 30, 3) := by decide +kernel
theorem dX0_greatestPart_20 : decode cX0_greatestPart 20 = .ok (.ifCond .eq 21, 3) := by decide +kernel
theorem dX0_greatestPart_23 : decode cX0_greatestPart 23 = .ok (.iload_n 3, 1) := by decide +kernel
theorem dX0_greatestPart_24 : decode cX0_greatestPart 24 = .ok (.aload_n 0, 1) := by decide +kernel
theorem dX0_greatestPart_25 : decode cX0_greatestPart 25 = .ok (.iload_n 1, 1) := by decide +kernel
theorem dX0_greatestPart_26 : decode cX0_greatestPart 26 = .ok (.iload_n 2, 1) := by decide +kernel
theorem dX0_greatestPart_27 : decode cX0_greatestPart 27 = .ok (.aload_n 0, 1) := by decide +kernel
theorem dX0_greatestPart_28 : decode cX0_greatestPart 28 = .ok (.iload_n 1, 1) := by decide +kernel
theorem dX0_greatestPart_29 : decode cX0_greatestPart 29 = .ok (.iload 4, 2) := by decide +kernel
theorem dX0_greatestPart_31 : decode cX0_greatestPart 31 = .ok (.invokevirtual 34, 3) := by decide +kernel
theorem dX0_greatestPart_34 : decode cX0_greatestPart 34 = .ok (.invokestatic 38, 3) := by decide +kernel
theorem dX0_greatestPart_37 : decode cX0_greatestPart 37 = .ok (.invokestatic 42, 3) := by decide +kernel
theorem dX0_greatestPart_40 : decode cX0_greatestPart 40 = .ok (.istore_n 3, 1) := by decide +kernel
theorem dX0_greatestPart_41 : decode cX0_greatestPart 41 = .ok (.iinc 4 1, 3) := by decide +kernel
theorem dX0_greatestPart_44 : decode cX0_greatestPart 44 = .ok (.goto (-39), 3) := by decide +kernel
theorem dX0_greatestPart_47 : decode cX0_greatestPart 47 = .ok (.iload_n 3, 1) := by decide +kernel
theorem dX0_greatestPart_48 : decode cX0_greatestPart 48 = .ok (.ireturn, 1) := by decide +kernel
theorem dX0_alike_0 : decode cX0_alike 0 = .ok (.iconst 0, 1) := by decide +kernel
theorem dX0_alike_1 : decode cX0_alike 1 = .ok (.istore 4, 2) := by decide +kernel
theorem dX0_alike_3 : decode cX0_alike 3 = .ok (.iconst 0, 1) := by decide +kernel
theorem dX0_alike_4 : decode cX0_alike 4 = .ok (.istore 5, 2) := by decide +kernel
theorem dX0_alike_6 : decode cX0_alike 6 = .ok (.iload 5, 2) := by decide +kernel
theorem dX0_alike_8 : decode cX0_alike 8 = .ok (.aload_n 0, 1) := by decide +kernel
theorem dX0_alike_9 : decode cX0_alike 9 = .ok (.getfield 27, 3) := by decide +kernel
theorem dX0_alike_12 : decode cX0_alike 12 = .ok (.if_icmp .ge 32, 3) := by decide +kernel
theorem dX0_alike_15 : decode cX0_alike 15 = .ok (.iload_n 2, 1) := by decide +kernel
theorem dX0_alike_16 : decode cX0_alike 16 = .ok (.iload 5, 2) := by decide +kernel
theorem dX0_alike_18 : decode cX0_alike 18 = .ok (.invokestatic 30, 3) := by decide +kernel
theorem dX0_alike_21 : decode cX0_alike 21 = .ok (.ifCond .eq 17, 3) := by decide +kernel
theorem dX0_alike_24 : decode cX0_alike 24 = .ok (.aload_n 0, 1) := by decide +kernel
theorem dX0_alike_25 : decode cX0_alike 25 = .ok (.iload_n 1, 1) := by decide +kernel
theorem dX0_alike_26 : decode cX0_alike 26 = .ok (.iload 5, 2) := by decide +kernel
theorem dX0_alike_28 : decode cX0_alike 28 = .ok (.invokevirtual 34, 3) := by decide +kernel
theorem dX0_alike_31 : decode cX0_alike 31 = .ok (.iload_n 3, 1) := by decide +kernel
theorem dX0_alike_32 : decode cX0_alike 32 = .ok (.if_icmp .ne 6, 3) := by decide +kernel
theorem dX0_alike_35 : decode cX0_alike 35 = .ok (.iinc 4 1, 3) := by decide +kernel
theorem dX0_alike_38 : decode cX0_alike 38 = .ok (.iinc 5 1, 3) := by decide +kernel
theorem dX0_alike_41 : decode cX0_alike 41 = .ok (.goto (-35), 3) := by decide +kernel
theorem dX0_alike_44 : decode cX0_alike 44 = .ok (.iload 4, 2) := by decide +kernel
theorem dX0_alike_46 : decode cX0_alike 46 = .ok (.ireturn, 1) := by decide +kernel
theorem dX1_init_0 : decode cX1_init 0 = .ok (.aload_n 0, 1) := by decide +kernel
theorem dX1_init_1 : decode cX1_init 1 = .ok (.invokespecial 3, 3) := by decide +kernel
theorem dX1_init_4 : decode cX1_init 4 = .ok (.aload_n 0, 1) := by decide +kernel
theorem dX1_init_5 : decode cX1_init 5 = .ok (.iconst 0, 1) := by decide +kernel
theorem dX1_init_6 : decode cX1_init 6 = .ok (.putfield 9, 3) := by decide +kernel
theorem dX1_init_9 : decode cX1_init 9 = .ok (.aload_n 0, 1) := by decide +kernel
theorem dX1_init_10 : decode cX1_init 10 = .ok (.iconst 0, 1) := by decide +kernel
theorem dX1_init_11 : decode cX1_init 11 = .ok (.putfield 15, 3) := by decide +kernel
theorem dX1_init_14 : decode cX1_init 14 = .ok (.aload_n 0, 1) := by decide +kernel
theorem dX1_init_15 : decode cX1_init 15 = .ok (.iconst 0, 1) := by decide +kernel
theorem dX1_init_16 : decode cX1_init 16 = .ok (.putfield 18, 3) := by decide +kernel
theorem dX1_init_19 : decode cX1_init 19 = .ok (.aload_n 0, 1) := by decide +kernel
theorem dX1_init_20 : decode cX1_init 20 = .ok (.iconst 0, 1) := by decide +kernel
theorem dX1_init_21 : decode cX1_init 21 = .ok (.putfield 21, 3) := by decide +kernel
theorem dX1_init_24 : decode cX1_init 24 = .ok (.aload_n 0, 1) := by decide +kernel
theorem dX1_init_25 : decode cX1_init 25 = .ok (.bipush 8, 2) := by decide +kernel
theorem dX1_init_27 : decode cX1_init 27 = .ok (.newarray .int, 2) := by decide +kernel
theorem dX1_init_29 : decode cX1_init 29 = .ok (.putfield 24, 3) := by decide +kernel
theorem dX1_init_32 : decode cX1_init 32 = .ok (.aload_n 0, 1) := by decide +kernel
theorem dX1_init_33 : decode cX1_init 33 = .ok (.bipush 8, 2) := by decide +kernel
theorem dX1_init_35 : decode cX1_init 35 = .ok (.newarray .int, 2) := by decide +kernel
theorem dX1_init_37 : decode cX1_init 37 = .ok (.putfield 28, 3) := by decide +kernel
theorem dX1_init_40 : decode cX1_init 40 = .ok (.aload_n 0, 1) := by decide +kernel
theorem dX1_init_41 : decode cX1_init 41 = .ok (.bipush 6, 2) := by decide +kernel
theorem dX1_init_43 : decode cX1_init 43 = .ok (.newarray .int, 2) := by decide +kernel
theorem dX1_init_45 : decode cX1_init 45 = .ok (.putfield 31, 3) := by decide +kernel
theorem dX1_init_48 : decode cX1_init 48 = .ok (.aload_n 0, 1) := by decide +kernel
theorem dX1_init_49 : decode cX1_init 49 = .ok (.bipush 6, 2) := by decide +kernel
theorem dX1_init_51 : decode cX1_init 51 = .ok (.newarray .int, 2) := by decide +kernel
theorem dX1_init_53 : decode cX1_init 53 = .ok (.putfield 34, 3) := by decide +kernel
theorem dX1_init_56 : decode cX1_init 56 = .ok (.aload_n 0, 1) := by decide +kernel
theorem dX1_init_57 : decode cX1_init 57 = .ok (.bipush 6, 2) := by decide +kernel
theorem dX1_init_59 : decode cX1_init 59 = .ok (.newarray .int, 2) := by decide +kernel
theorem dX1_init_61 : decode cX1_init 61 = .ok (.putfield 37, 3) := by decide +kernel
theorem dX1_init_64 : decode cX1_init 64 = .ok (.aload_n 0, 1) := by decide +kernel
theorem dX1_init_65 : decode cX1_init 65 = .ok (.sipush 256, 3) := by decide +kernel
theorem dX1_init_68 : decode cX1_init 68 = .ok (.newarray .int, 2) := by decide +kernel
theorem dX1_init_70 : decode cX1_init 70 = .ok (.putfield 40, 3) := by decide +kernel
theorem dX1_init_73 : decode cX1_init 73 = .ok (.return_, 1) := by decide +kernel
theorem dX1_clear_0 : decode cX1_clear 0 = .ok (.aload_n 0, 1) := by decide +kernel
theorem dX1_clear_1 : decode cX1_clear 1 = .ok (.iconst 0, 1) := by decide +kernel
theorem dX1_clear_2 : decode cX1_clear 2 = .ok (.putfield 9, 3) := by decide +kernel
theorem dX1_clear_5 : decode cX1_clear 5 = .ok (.aload_n 0, 1) := by decide +kernel
theorem dX1_clear_6 : decode cX1_clear 6 = .ok (.iconst 0, 1) := by decide +kernel
theorem dX1_clear_7 : decode cX1_clear 7 = .ok (.putfield 15, 3) := by decide +kernel
theorem dX1_clear_10 : decode cX1_clear 10 = .ok (.aload_n 0, 1) := by decide +kernel
theorem dX1_clear_11 : decode cX1_clear 11 = .ok (.iconst 0, 1) := by decide +kernel
theorem dX1_clear_12 : decode cX1_clear 12 = .ok (.putfield 18, 3) := by decide +kernel
theorem dX1_clear_15 : decode cX1_clear 15 = .ok (.aload_n 0, 1) := by decide +kernel
theorem dX1_clear_16 : decode cX1_clear 16 = .ok (.iconst 0, 1) := by decide +kernel
theorem dX1_clear_17 : decode cX1_clear 17 = .ok (.putfield 21, 3) := by decide +kernel
theorem dX1_clear_20 : decode cX1_clear 20 = .ok (.return_, 1) := by decide +kernel
theorem dX1_isThere_0 : decode cX1_isThere 0 = .ok (.aload_n 0, 1) := by decide +kernel
theorem dX1_isThere_1 : decode cX1_isThere 1 = .ok (.getfield 9, 3) := by decide +kernel
theorem dX1_isThere_4 : decode cX1_isThere 4 = .ok (.ifCond .le 7, 3) := by decide +kernel
theorem dX1_isThere_7 : decode cX1_isThere 7 = .ok (.iconst 1, 1) := by decide +kernel
theorem dX1_isThere_8 : decode cX1_isThere 8 = .ok (.goto 4, 3) := by decide +kernel
theorem dX1_isThere_11 : decode cX1_isThere 11 = .ok (.iconst 0, 1) := by decide +kernel
theorem dX1_isThere_12 : decode cX1_isThere 12 = .ok (.ireturn, 1) := by decide +kernel
theorem dX1_hasMatter_0 : decode cX1_hasMatter 0 = .ok (.iload_n 1, 1) := by decide +kernel
theorem dX1_hasMatter_1 : decode cX1_hasMatter 1 = .ok (.ifCond .lt 21, 3) := by decide +kernel
theorem dX1_hasMatter_4 : decode cX1_hasMatter 4 = .ok (.iload_n 1, 1) := by decide +kernel
theorem dX1_hasMatter_5 : decode cX1_hasMatter 5 = .ok (.aload_n 0, 1) := by decide +kernel
theorem dX1_hasMatter_6 : decode cX1_hasMatter 6 = .ok (.getfield 18, 3) := by decide +kernel
theorem dX1_hasMatter_9 : decode cX1_hasMatter 9 = .ok (.if_icmp .ge 13, 3) := by decide +kernel
theorem dX1_hasMatter_12 : decode cX1_hasMatter 12 = .ok (.iload_n 1, 1) := by decide +kernel
theorem dX1_hasMatter_13 : decode cX1_hasMatter 13 = .ok (.bipush 8, 2) := by decide +kernel
theorem dX1_hasMatter_15 : decode cX1_hasMatter 15 = .ok (.if_icmp .ge 7, 3) := by decide +kernel
theorem dX1_hasMatter_18 : decode cX1_hasMatter 18 = .ok (.iconst 1, 1) := by decide +kernel
theorem dX1_hasMatter_19 : decode cX1_hasMatter 19 = .ok (.goto 4, 3) := by decide +kernel
theorem dX1_hasMatter_22 : decode cX1_hasMatter 22 = .ok (.iconst 0, 1) := by decide +kernel
theorem dX1_hasMatter_23 : decode cX1_hasMatter 23 = .ok (.ireturn, 1) := by decide +kernel
theorem dX1_hasTraveller_0 : decode cX1_hasTraveller 0 = .ok (.iload_n 1, 1) := by decide +kernel
theorem dX1_hasTraveller_1 : decode cX1_hasTraveller 1 = .ok (.ifCond .lt 21, 3) := by decide +kernel
theorem dX1_hasTraveller_4 : decode cX1_hasTraveller 4 = .ok (.iload_n 1, 1) := by decide +kernel
theorem dX1_hasTraveller_5 : decode cX1_hasTraveller 5 = .ok (.aload_n 0, 1) := by decide +kernel
theorem dX1_hasTraveller_6 : decode cX1_hasTraveller 6 = .ok (.getfield 21, 3) := by decide +kernel
theorem dX1_hasTraveller_9 : decode cX1_hasTraveller 9 = .ok (.if_icmp .ge 13, 3) := by decide +kernel
theorem dX1_hasTraveller_12 : decode cX1_hasTraveller 12 = .ok (.iload_n 1, 1) := by decide +kernel
theorem dX1_hasTraveller_13 : decode cX1_hasTraveller 13 = .ok (.bipush 6, 2) := by decide +kernel
theorem dX1_hasTraveller_15 : decode cX1_hasTraveller 15 = .ok (.if_icmp .ge 7, 3) := by decide +kernel
theorem dX1_hasTraveller_18 : decode cX1_hasTraveller 18 = .ok (.iconst 1, 1) := by decide +kernel
theorem dX1_hasTraveller_19 : decode cX1_hasTraveller 19 = .ok (.goto 4, 3) := by decide +kernel
theorem dX1_hasTraveller_22 : decode cX1_hasTraveller 22 = .ok (.iconst 0, 1) := by decide +kernel
theorem dX1_hasTraveller_23 : decode cX1_hasTraveller 23 = .ok (.ireturn, 1) := by decide +kernel
theorem dX1_addMatter_0 : decode cX1_addMatter 0 = .ok (.aload_n 0, 1) := by decide +kernel
theorem dX1_addMatter_1 : decode cX1_addMatter 1 = .ok (.getfield 18, 3) := by decide +kernel
theorem dX1_addMatter_4 : decode cX1_addMatter 4 = .ok (.bipush 8, 2) := by decide +kernel
theorem dX1_addMatter_6 : decode cX1_addMatter 6 = .ok (.if_icmp .ge 33, 3) := by decide +kernel
theorem dX1_addMatter_9 : decode cX1_addMatter 9 = .ok (.aload_n 0, 1) := by decide +kernel
theorem dX1_addMatter_10 : decode cX1_addMatter 10 = .ok (.getfield 24, 3) := by decide +kernel
theorem dX1_addMatter_13 : decode cX1_addMatter 13 = .ok (.aload_n 0, 1) := by decide +kernel
theorem dX1_addMatter_14 : decode cX1_addMatter 14 = .ok (.getfield 18, 3) := by decide +kernel
theorem dX1_addMatter_17 : decode cX1_addMatter 17 = .ok (.iload_n 1, 1) := by decide +kernel
theorem dX1_addMatter_18 : decode cX1_addMatter 18 = .ok (.iastore, 1) := by decide +kernel
theorem dX1_addMatter_19 : decode cX1_addMatter 19 = .ok (.aload_n 0, 1) := by decide +kernel
theorem dX1_addMatter_20 : decode cX1_addMatter 20 = .ok (.getfield 28, 3) := by decide +kernel
theorem dX1_addMatter_23 : decode cX1_addMatter 23 = .ok (.aload_n 0, 1) := by decide +kernel
theorem dX1_addMatter_24 : decode cX1_addMatter 24 = .ok (.getfield 18, 3) := by decide +kernel
theorem dX1_addMatter_27 : decode cX1_addMatter 27 = .ok (.iload_n 2, 1) := by decide +kernel
theorem dX1_addMatter_28 : decode cX1_addMatter 28 = .ok (.iastore, 1) := by decide +kernel
theorem dX1_addMatter_29 : decode cX1_addMatter 29 = .ok (.aload_n 0, 1) := by decide +kernel
theorem dX1_addMatter_30 : decode cX1_addMatter 30 = .ok (.dup, 1) := by decide +kernel
theorem dX1_addMatter_31 : decode cX1_addMatter 31 = .ok (.getfield 18, 3) := by decide +kernel
theorem dX1_addMatter_34 : decode cX1_addMatter 34 = .ok (.iconst 1, 1) := by decide +kernel
theorem dX1_addMatter_35 : decode cX1_addMatter 35 = .ok (.iadd, 1) := by decide +kernel
theorem dX1_addMatter_36 : decode cX1_addMatter 36 = .ok (.putfield 18, 3) := by decide +kernel
theorem dX1_addMatter_39 : decode cX1_addMatter 39 = .ok (.return_, 1) := by decide +kernel
theorem dX1_addTraveller_0 : decode cX1_addTraveller 0 = .ok (.aload_n 0, 1) := by decide +kernel
theorem dX1_addTraveller_1 : decode cX1_addTraveller 1 = .ok (.getfield 21, 3) := by decide +kernel
theorem dX1_addTraveller_4 : decode cX1_addTraveller 4 = .ok (.bipush 6, 2) := by decide +kernel
theorem dX1_addTraveller_6 : decode cX1_addTraveller 6 = .ok (.if_icmp .ge 43, 3) := by decide +kernel
theorem dX1_addTraveller_9 : decode cX1_addTraveller 9 = .ok (.aload_n 0, 1) := by decide +kernel
theorem dX1_addTraveller_10 : decode cX1_addTraveller 10 = .ok (.getfield 31, 3) := by decide +kernel
theorem dX1_addTraveller_13 : decode cX1_addTraveller 13 = .ok (.aload_n 0, 1) := by decide +kernel
theorem dX1_addTraveller_14 : decode cX1_addTraveller 14 = .ok (.getfield 21, 3) := by decide +kernel
theorem dX1_addTraveller_17 : decode cX1_addTraveller 17 = .ok (.iload_n 1, 1) := by decide +kernel
theorem dX1_addTraveller_18 : decode cX1_addTraveller 18 = .ok (.iastore, 1) := by decide +kernel
theorem dX1_addTraveller_19 : decode cX1_addTraveller 19 = .ok (.aload_n 0, 1) := by decide +kernel
theorem dX1_addTraveller_20 : decode cX1_addTraveller 20 = .ok (.getfield 34, 3) := by decide +kernel
theorem dX1_addTraveller_23 : decode cX1_addTraveller 23 = .ok (.aload_n 0, 1) := by decide +kernel
theorem dX1_addTraveller_24 : decode cX1_addTraveller 24 = .ok (.getfield 21, 3) := by decide +kernel
theorem dX1_addTraveller_27 : decode cX1_addTraveller 27 = .ok (.iload_n 2, 1) := by decide +kernel
theorem dX1_addTraveller_28 : decode cX1_addTraveller 28 = .ok (.iastore, 1) := by decide +kernel
theorem dX1_addTraveller_29 : decode cX1_addTraveller 29 = .ok (.aload_n 0, 1) := by decide +kernel
theorem dX1_addTraveller_30 : decode cX1_addTraveller 30 = .ok (.getfield 37, 3) := by decide +kernel
theorem dX1_addTraveller_33 : decode cX1_addTraveller 33 = .ok (.aload_n 0, 1) := by decide +kernel
theorem dX1_addTraveller_34 : decode cX1_addTraveller 34 = .ok (.getfield 21, 3) := by decide +kernel
theorem dX1_addTraveller_37 : decode cX1_addTraveller 37 = .ok (.iload_n 3, 1) := by decide +kernel
theorem dX1_addTraveller_38 : decode cX1_addTraveller 38 = .ok (.iastore, 1) := by decide +kernel
theorem dX1_addTraveller_39 : decode cX1_addTraveller 39 = .ok (.aload_n 0, 1) := by decide +kernel
theorem dX1_addTraveller_40 : decode cX1_addTraveller 40 = .ok (.dup, 1) := by decide +kernel
theorem dX1_addTraveller_41 : decode cX1_addTraveller 41 = .ok (.getfield 21, 3) := by decide +kernel
theorem dX1_addTraveller_44 : decode cX1_addTraveller 44 = .ok (.iconst 1, 1) := by decide +kernel
theorem dX1_addTraveller_45 : decode cX1_addTraveller 45 = .ok (.iadd, 1) := by decide +kernel
theorem dX1_addTraveller_46 : decode cX1_addTraveller 46 = .ok (.putfield 21, 3) := by decide +kernel
theorem dX1_addTraveller_49 : decode cX1_addTraveller 49 = .ok (.return_, 1) := by decide +kernel
theorem dX1_settle_0 : decode cX1_settle 0 = .ok (.aload_n 0, 1) := by decide +kernel
theorem dX1_settle_1 : decode cX1_settle 1 = .ok (.getfield 18, 3) := by decide +kernel
theorem dX1_settle_4 : decode cX1_settle 4 = .ok (.invokestatic 43, 3) := by decide +kernel
theorem dX1_settle_7 : decode cX1_settle 7 = .ok (.istore_n 1, 1) := by decide +kernel
theorem dX1_settle_8 : decode cX1_settle 8 = .ok (.iconst 0, 1) := by decide +kernel
theorem dX1_settle_9 : decode cX1_settle 9 = .ok (.istore_n 2, 1) := by decide +kernel
theorem dX1_settle_10 : decode cX1_settle 10 = .ok (.iload_n 2, 1) := by decide +kernel
theorem dX1_settle_11 : decode cX1_settle 11 = .ok (.aload_n 0, 1) := by decide +kernel
theorem dX1_settle_12 : decode cX1_settle 12 = .ok (.getfield 18, 3) := by decide +kernel
theorem dX1_settle_15 : decode cX1_settle 15 = .ok (.if_icmp .ge 19, 3) := by decide +kernel
theorem dX1_settle_18 : decode cX1_settle 18 = .ok (.aload_n 0, 1) := by decide +kernel
theorem dX1_settle_19 : decode cX1_settle 19 = .ok (.getfield 28, 3) := by decide +kernel
theorem dX1_settle_22 : decode cX1_settle 22 = .ok (.iload_n 2, 1) := by decide +kernel
theorem dX1_settle_23 : decode cX1_settle 23 = .ok (.dup2, 1) := by decide +kernel
theorem dX1_settle_24 : decode cX1_settle 24 = .ok (.iaload, 1) := by decide +kernel
theorem dX1_settle_25 : decode cX1_settle 25 = .ok (.iload_n 1, 1) := by decide +kernel
theorem dX1_settle_26 : decode cX1_settle 26 = .ok (.iand, 1) := by decide +kernel
theorem dX1_settle_27 : decode cX1_settle 27 = .ok (.iastore, 1) := by decide +kernel
theorem dX1_settle_28 : decode cX1_settle 28 = .ok (.iinc 2 1, 3) := by decide +kernel
theorem dX1_settle_31 : decode cX1_settle 31 = .ok (.goto (-21), 3) := by decide +kernel
theorem dX1_settle_34 : decode cX1_settle 34 = .ok (.iconst 0, 1) := by decide +kernel
theorem dX1_settle_35 : decode cX1_settle 35 = .ok (.istore_n 2, 1) := by decide +kernel
theorem dX1_settle_36 : decode cX1_settle 36 = .ok (.iload_n 2, 1) := by decide +kernel
theorem dX1_settle_37 : decode cX1_settle 37 = .ok (.aload_n 0, 1) := by decide +kernel
theorem dX1_settle_38 : decode cX1_settle 38 = .ok (.getfield 21, 3) := by decide +kernel
theorem dX1_settle_41 : decode cX1_settle 41 = .ok (.if_icmp .ge 19, 3) := by decide +kernel
theorem dX1_settle_44 : decode cX1_settle 44 = .ok (.aload_n 0, 1) := by decide +kernel
theorem dX1_settle_45 : decode cX1_settle 45 = .ok (.getfield 37, 3) := by decide +kernel
theorem dX1_settle_48 : decode cX1_settle 48 = .ok (.iload_n 2, 1) := by decide +kernel
theorem dX1_settle_49 : decode cX1_settle 49 = .ok (.dup2, 1) := by decide +kernel
theorem dX1_settle_50 : decode cX1_settle 50 = .ok (.iaload, 1) := by decide +kernel
theorem dX1_settle_51 : decode cX1_settle 51 = .ok (.iload_n 1, 1) := by decide +kernel
theorem dX1_settle_52 : decode cX1_settle 52 = .ok (.iand, 1) := by decide +kernel
theorem dX1_settle_53 : decode cX1_settle 53 = .ok (.iastore, 1) := by decide +kernel
theorem dX1_settle_54 : decode cX1_settle 54 = .ok (.iinc 2 1, 3) := by decide +kernel
theorem dX1_settle_57 : decode cX1_settle 57 = .ok (.goto (-21), 3) := by decide +kernel
theorem dX1_settle_60 : decode cX1_settle 60 = .ok (.iconst 1, 1) := by decide +kernel
theorem dX1_settle_61 : decode cX1_settle 61 = .ok (.istore_n 2, 1) := by decide +kernel
theorem dX1_settle_62 : decode cX1_settle 62 = .ok (.iload_n 2, 1) := by decide +kernel
theorem dX1_settle_63 : decode cX1_settle 63 = .ok (.iload_n 1, 1) := by decide +kernel
theorem dX1_settle_64 : decode cX1_settle 64 = .ok (.if_icmp .gt 20, 3) := by decide +kernel
theorem dX1_settle_67 : decode cX1_settle 67 = .ok (.aload_n 0, 1) := by decide +kernel
theorem dX1_settle_68 : decode cX1_settle 68 = .ok (.getfield 40, 3) := by decide +kernel
theorem dX1_settle_71 : decode cX1_settle 71 = .ok (.iload_n 2, 1) := by decide +kernel
theorem dX1_settle_72 : decode cX1_settle 72 = .ok (.aload_n 0, 1) := by decide +kernel
theorem dX1_settle_73 : decode cX1_settle 73 = .ok (.iload_n 2, 1) := by decide +kernel
theorem dX1_settle_74 : decode cX1_settle 74 = .ok (.invokevirtual 47, 3) := by decide +kernel
theorem dX1_settle_77 : decode cX1_settle 77 = .ok (.iastore, 1) := by decide +kernel
theorem dX1_settle_78 : decode cX1_settle 78 = .ok (.iinc 2 1, 3) := by decide +kernel
theorem dX1_settle_81 : decode cX1_settle 81 = .ok (.goto (-19), 3) := by decide +kernel
theorem dX1_settle_84 : decode cX1_settle 84 = .ok (.return_, 1) := by decide +kernel
theorem dX1_beginnersOf_0 : decode cX1_beginnersOf 0 = .ok (.iconst 0, 1) := by decide +kernel
theorem dX1_beginnersOf_1 : decode cX1_beginnersOf 1 = .ok (.istore_n 2, 1) := by decide +kernel
theorem dX1_beginnersOf_2 : decode cX1_beginnersOf 2 = .ok (.iconst 0, 1) := by decide +kernel
theorem dX1_beginnersOf_3 : decode cX1_beginnersOf 3 = .ok (.istore_n 3, 1) := by decide +kernel
theorem dX1_beginnersOf_4 : decode cX1_beginnersOf 4 = .ok (.iload_n 3, 1) := by decide +kernel
theorem dX1_beginnersOf_5 : decode cX1_beginnersOf 5 = .ok (.aload_n 0, 1) := by decide +kernel
theorem dX1_beginnersOf_6 : decode cX1_beginnersOf 6 = .ok (.getfield 18, 3) := by decide +kernel
theorem dX1_beginnersOf_9 : decode cX1_beginnersOf 9 = .ok (.if_icmp .ge 54, 3) := by decide +kernel
theorem dX1_beginnersOf_12 : decode cX1_beginnersOf 12 = .ok (.iload_n 1, 1) := by decide +kernel
theorem dX1_beginnersOf_13 : decode cX1_beginnersOf 13 = .ok (.iconst 1, 1) := by decide +kernel
theorem dX1_beginnersOf_14 : decode cX1_beginnersOf 14 = .ok (.iload_n 3, 1) := by decide +kernel
theorem dX1_beginnersOf_15 : decode cX1_beginnersOf 15 = .ok (.ishl, 1) := by decide +kernel
theorem dX1_beginnersOf_16 : decode cX1_beginnersOf 16 = .ok (.iconst (-1), 1) := by decide +kernel
theorem dX1_beginnersOf_17 : decode cX1_beginnersOf 17 = .ok (.ixor, 1) := by decide +kernel
theorem dX1_beginnersOf_18 : decode cX1_beginnersOf 18 = .ok (.iand, 1) := by decide +kernel
theorem dX1_beginnersOf_19 : decode cX1_beginnersOf 19 = .ok (.istore 4, 2) := by decide +kernel
theorem dX1_beginnersOf_21 : decode cX1_beginnersOf 21 = .ok (.iload_n 1, 1) := by decide +kernel
theorem dX1_beginnersOf_22 : decode cX1_beginnersOf 22 = .ok (.iload_n 3, 1) := by decide +kernel
theorem dX1_beginnersOf_23 : decode cX1_beginnersOf 23 = .ok (.invokestatic 50, 3) := by decide +kernel
theorem dX1_beginnersOf_26 : decode cX1_beginnersOf 26 = .ok (.ifCond .eq 31, 3) := by decide +kernel
theorem dX1_beginnersOf_29 : decode cX1_beginnersOf 29 = .ok (.iload 4, 2) := by decide +kernel
theorem dX1_beginnersOf_31 : decode cX1_beginnersOf 31 = .ok (.ifCond .eq 20, 3) := by decide +kernel
theorem dX1_beginnersOf_34 : decode cX1_beginnersOf 34 = .ok (.aload_n 0, 1) := by decide +kernel
theorem dX1_beginnersOf_35 : decode cX1_beginnersOf 35 = .ok (.getfield 28, 3) := by decide +kernel
theorem dX1_beginnersOf_38 : decode cX1_beginnersOf 38 = .ok (.iload_n 3, 1) := by decide +kernel
theorem dX1_beginnersOf_39 : decode cX1_beginnersOf 39 = .ok (.iaload, 1) := by decide +kernel
theorem dX1_beginnersOf_40 : decode cX1_beginnersOf 40 = .ok (.aload_n 0, 1) := by decide +kernel
theorem dX1_beginnersOf_41 : decode cX1_beginnersOf 41 = .ok (.getfield 40, 3) := by decide +kernel
theorem dX1_beginnersOf_44 : decode cX1_beginnersOf 44 = .ok (.iload 4, 2) := by decide +kernel
theorem dX1_beginnersOf_46 : decode cX1_beginnersOf 46 = .ok (.iaload, 1) := by decide +kernel
theorem dX1_beginnersOf_47 : decode cX1_beginnersOf 47 = .ok (.iand, 1) := by decide +kernel
theorem dX1_beginnersOf_48 : decode cX1_beginnersOf 48 = .ok (.ifCond .eq 9, 3) := by decide +kernel
theorem dX1_beginnersOf_51 : decode cX1_beginnersOf 51 = .ok (.iload_n 2, 1) := by decide +kernel
theorem dX1_beginnersOf_52 : decode cX1_beginnersOf 52 = .ok (.iconst 1, 1) := by decide +kernel
theorem dX1_beginnersOf_53 : decode cX1_beginnersOf 53 = .ok (.iload_n 3, 1) := by decide +kernel
theorem dX1_beginnersOf_54 : decode cX1_beginnersOf 54 = .ok (.ishl, 1) := by decide +kernel
theorem dX1_beginnersOf_55 : decode cX1_beginnersOf 55 = .ok (.ior, 1) := by decide +kernel
theorem dX1_beginnersOf_56 : decode cX1_beginnersOf 56 = .ok (.istore_n 2, 1) := by decide +kernel
theorem dX1_beginnersOf_57 : decode cX1_beginnersOf 57 = .ok (.iinc 3 1, 3) := by decide +kernel
theorem dX1_beginnersOf_60 : decode cX1_beginnersOf 60 = .ok (.goto (-56), 3) := by decide +kernel
theorem dX1_beginnersOf_63 : decode cX1_beginnersOf 63 = .ok (.iload_n 2, 1) := by decide +kernel
theorem dX1_beginnersOf_64 : decode cX1_beginnersOf 64 = .ok (.ireturn, 1) := by decide +kernel
theorem dX1_stayOf_0 : decode cX1_stayOf 0 = .ok (.aload_n 0, 1) := by decide +kernel
theorem dX1_stayOf_1 : decode cX1_stayOf 1 = .ok (.iload_n 1, 1) := by decide +kernel
theorem dX1_stayOf_2 : decode cX1_stayOf 2 = .ok (.invokevirtual 54, 3) := by decide +kernel
theorem dX1_stayOf_5 : decode cX1_stayOf 5 = .ok (.ifCond .eq 24, 3) := by decide +kernel
theorem dX1_stayOf_8 : decode cX1_stayOf 8 = .ok (.aload_n 0, 1) := by decide +kernel
theorem dX1_stayOf_9 : decode cX1_stayOf 9 = .ok (.iload_n 2, 1) := by decide +kernel
theorem dX1_stayOf_10 : decode cX1_stayOf 10 = .ok (.invokevirtual 58, 3) := by decide +kernel
theorem dX1_stayOf_13 : decode cX1_stayOf 13 = .ok (.ifCond .eq 16, 3) := by decide +kernel
theorem dX1_stayOf_16 : decode cX1_stayOf 16 = .ok (.aload_n 0, 1) := by decide +kernel
theorem dX1_stayOf_17 : decode cX1_stayOf 17 = .ok (.getfield 37, 3) := by decide +kernel
theorem dX1_stayOf_20 : decode cX1_stayOf 20 = .ok (.iload_n 1, 1) := by decide +kernel
theorem dX1_stayOf_21 : decode cX1_stayOf 21 = .ok (.iaload, 1) := by decide +kernel
theorem dX1_stayOf_22 : decode cX1_stayOf 22 = .ok (.iload_n 2, 1) := by decide +kernel
theorem dX1_stayOf_23 : decode cX1_stayOf 23 = .ok (.invokestatic 50, 3) := by decide +kernel
theorem dX1_stayOf_26 : decode cX1_stayOf 26 = .ok (.ifCond .ne 5, 3) := by decide +kernel
theorem dX1_stayOf_29 : decode cX1_stayOf 29 = .ok (.iconst 0, 1) := by decide +kernel
theorem dX1_stayOf_30 : decode cX1_stayOf 30 = .ok (.ireturn, 1) := by decide +kernel
theorem dX1_stayOf_31 : decode cX1_stayOf 31 = .ok (.aload_n 0, 1) := by decide +kernel
theorem dX1_stayOf_32 : decode cX1_stayOf 32 = .ok (.getfield 31, 3) := by decide +kernel
theorem dX1_stayOf_35 : decode cX1_stayOf 35 = .ok (.iload_n 1, 1) := by decide +kernel
theorem dX1_stayOf_36 : decode cX1_stayOf 36 = .ok (.iaload, 1) := by decide +kernel
theorem dX1_stayOf_37 : decode cX1_stayOf 37 = .ok (.tableswitch 95 0 3 #[31, 49, 56, 76], 31) := by decide +kernel
theorem dX1_stayOf_68 : decode cX1_stayOf 68 = .ok (.iconst 1, 1) := by decide +kernel
theorem dX1_stayOf_69 : decode cX1_stayOf 69 = .ok (.aload_n 0, 1) := by decide +kernel
theorem dX1_stayOf_70 : decode cX1_stayOf 70 = .ok (.getfield 24, 3) := by decide +kernel
theorem dX1_stayOf_73 : decode cX1_stayOf 73 = .ok (.iload_n 2, 1) := by decide +kernel
theorem dX1_stayOf_74 : decode cX1_stayOf 74 = .ok (.iaload, 1) := by decide +kernel
theorem dX1_stayOf_75 : decode cX1_stayOf 75 = .ok (.aload_n 0, 1) := by decide +kernel
theorem dX1_stayOf_76 : decode cX1_stayOf 76 = .ok (.getfield 34, 3) := by decide +kernel
theorem dX1_stayOf_79 : decode cX1_stayOf 79 = .ok (.iload_n 1, 1) := by decide +kernel
theorem dX1_stayOf_80 : decode cX1_stayOf 80 = .ok (.iaload, 1) := by decide +kernel
theorem dX1_stayOf_81 : decode cX1_stayOf 81 = .ok (.isub, 1) := by decide +kernel
theorem dX1_stayOf_82 : decode cX1_stayOf 82 = .ok (.invokestatic 61, 3) := by decide +kernel
theorem dX1_stayOf_85 : decode cX1_stayOf 85 = .ok (.ireturn, 1) := by decide +kernel
theorem dX1_stayOf_86 : decode cX1_stayOf 86 = .ok (.aload_n 0, 1) := by decide +kernel
theorem dX1_stayOf_87 : decode cX1_stayOf 87 = .ok (.getfield 24, 3) := by decide +kernel
theorem dX1_stayOf_90 : decode cX1_stayOf 90 = .ok (.iload_n 2, 1) := by decide +kernel
theorem dX1_stayOf_91 : decode cX1_stayOf 91 = .ok (.iaload, 1) := by decide +kernel
theorem dX1_stayOf_92 : decode cX1_stayOf 92 = .ok (.ireturn, 1) := by decide +kernel
theorem dX1_stayOf_93 : decode cX1_stayOf 93 = .ok (.iconst 0, 1) := by decide +kernel
theorem dX1_stayOf_94 : decode cX1_stayOf 94 = .ok (.aload_n 0, 1) := by decide +kernel
theorem dX1_stayOf_95 : decode cX1_stayOf 95 = .ok (.getfield 24, 3) := by decide +kernel
theorem dX1_stayOf_98 : decode cX1_stayOf 98 = .ok (.iload_n 2, 1) := by decide +kernel
theorem dX1_stayOf_99 : decode cX1_stayOf 99 = .ok (.iaload, 1) := by decide +kernel
theorem dX1_stayOf_100 : decode cX1_stayOf 100 = .ok (.iconst 2, 1) := by decide +kernel
theorem dX1_stayOf_101 : decode cX1_stayOf 101 = .ok (.idiv, 1) := by decide +kernel
theorem dX1_stayOf_102 : decode cX1_stayOf 102 = .ok (.aload_n 0, 1) := by decide +kernel
theorem dX1_stayOf_103 : decode cX1_stayOf 103 = .ok (.getfield 34, 3) := by decide +kernel
theorem dX1_stayOf_106 : decode cX1_stayOf 106 = .ok (.iload_n 1, 1) := by decide +kernel
theorem dX1_stayOf_107 : decode cX1_stayOf 107 = .ok (.iaload, 1) := by decide +kernel
theorem dX1_stayOf_108 : decode cX1_stayOf 108 = .ok (.isub, 1) := by decide +kernel
theorem dX1_stayOf_109 : decode cX1_stayOf 109 = .ok (.invokestatic 61, 3) := by decide +kernel
theorem dX1_stayOf_112 : decode cX1_stayOf 112 = .ok (.ireturn, 1) := by decide +kernel
theorem dX1_stayOf_113 : decode cX1_stayOf 113 = .ok (.aload_n 0, 1) := by decide +kernel
theorem dX1_stayOf_114 : decode cX1_stayOf 114 = .ok (.getfield 24, 3) := by decide +kernel
theorem dX1_stayOf_117 : decode cX1_stayOf 117 = .ok (.iload_n 2, 1) := by decide +kernel
theorem dX1_stayOf_118 : decode cX1_stayOf 118 = .ok (.iaload, 1) := by decide +kernel
theorem dX1_stayOf_119 : decode cX1_stayOf 119 = .ok (.iconst 5, 1) := by decide +kernel
theorem dX1_stayOf_120 : decode cX1_stayOf 120 = .ok (.aload_n 0, 1) := by decide +kernel
theorem dX1_stayOf_121 : decode cX1_stayOf 121 = .ok (.getfield 28, 3) := by decide +kernel
theorem dX1_stayOf_124 : decode cX1_stayOf 124 = .ok (.iload_n 2, 1) := by decide +kernel
theorem dX1_stayOf_125 : decode cX1_stayOf 125 = .ok (.iaload, 1) := by decide +kernel
theorem dX1_stayOf_126 : decode cX1_stayOf 126 = .ok (.invokestatic 67, 3) := by decide +kernel
theorem dX1_stayOf_129 : decode cX1_stayOf 129 = .ok (.imul, 1) := by decide +kernel
theorem dX1_stayOf_130 : decode cX1_stayOf 130 = .ok (.iadd, 1) := by decide +kernel
theorem dX1_stayOf_131 : decode cX1_stayOf 131 = .ok (.ireturn, 1) := by decide +kernel
theorem dX1_stayOf_132 : decode cX1_stayOf 132 = .ok (.iconst 0, 1) := by decide +kernel
theorem dX1_stayOf_133 : decode cX1_stayOf 133 = .ok (.ireturn, 1) := by decide +kernel
theorem dX1_isProfessor_0 : decode cX1_isProfessor 0 = .ok (.aload_n 0, 1) := by decide +kernel
theorem dX1_isProfessor_1 : decode cX1_isProfessor 1 = .ok (.iload_n 1, 1) := by decide +kernel
theorem dX1_isProfessor_2 : decode cX1_isProfessor 2 = .ok (.invokevirtual 54, 3) := by decide +kernel
theorem dX1_isProfessor_5 : decode cX1_isProfessor 5 = .ok (.ifCond .eq 17, 3) := by decide +kernel
theorem dX1_isProfessor_8 : decode cX1_isProfessor 8 = .ok (.aload_n 0, 1) := by decide +kernel
theorem dX1_isProfessor_9 : decode cX1_isProfessor 9 = .ok (.getfield 31, 3) := by decide +kernel
theorem dX1_isProfessor_12 : decode cX1_isProfessor 12 = .ok (.iload_n 1, 1) := by decide +kernel
theorem dX1_isProfessor_13 : decode cX1_isProfessor 13 = .ok (.iaload, 1) := by decide +kernel
theorem dX1_isProfessor_14 : decode cX1_isProfessor 14 = .ok (.iconst 3, 1) := by decide +kernel
theorem dX1_isProfessor_15 : decode cX1_isProfessor 15 = .ok (.if_icmp .ne 7, 3) := by decide +kernel
theorem dX1_isProfessor_18 : decode cX1_isProfessor 18 = .ok (.iconst 1, 1) := by decide +kernel
theorem dX1_isProfessor_19 : decode cX1_isProfessor 19 = .ok (.goto 4, 3) := by decide +kernel
theorem dX1_isProfessor_22 : decode cX1_isProfessor 22 = .ok (.iconst 0, 1) := by decide +kernel
theorem dX1_isProfessor_23 : decode cX1_isProfessor 23 = .ok (.ireturn, 1) := by decide +kernel
theorem dX1_mostWaiting_0 : decode cX1_mostWaiting 0 = .ok (.aload_n 0, 1) := by decide +kernel
theorem dX1_mostWaiting_1 : decode cX1_mostWaiting 1 = .ok (.iload_n 1, 1) := by decide +kernel
theorem dX1_mostWaiting_2 : decode cX1_mostWaiting 2 = .ok (.invokevirtual 54, 3) := by decide +kernel
theorem dX1_mostWaiting_5 : decode cX1_mostWaiting 5 = .ok (.ifCond .eq 17, 3) := by decide +kernel
theorem dX1_mostWaiting_8 : decode cX1_mostWaiting 8 = .ok (.bipush 60, 2) := by decide +kernel
theorem dX1_mostWaiting_10 : decode cX1_mostWaiting 10 = .ok (.iconst 5, 1) := by decide +kernel
theorem dX1_mostWaiting_11 : decode cX1_mostWaiting 11 = .ok (.aload_n 0, 1) := by decide +kernel
theorem dX1_mostWaiting_12 : decode cX1_mostWaiting 12 = .ok (.getfield 34, 3) := by decide +kernel
theorem dX1_mostWaiting_15 : decode cX1_mostWaiting 15 = .ok (.iload_n 1, 1) := by decide +kernel
theorem dX1_mostWaiting_16 : decode cX1_mostWaiting 16 = .ok (.iaload, 1) := by decide +kernel
theorem dX1_mostWaiting_17 : decode cX1_mostWaiting 17 = .ok (.imul, 1) := by decide +kernel
theorem dX1_mostWaiting_18 : decode cX1_mostWaiting 18 = .ok (.isub, 1) := by decide +kernel
theorem dX1_mostWaiting_19 : decode cX1_mostWaiting 19 = .ok (.goto 4, 3) := by decide +kernel
theorem dX1_mostWaiting_22 : decode cX1_mostWaiting 22 = .ok (.iconst 0, 1) := by decide +kernel
theorem dX1_mostWaiting_23 : decode cX1_mostWaiting 23 = .ok (.ireturn, 1) := by decide +kernel
theorem dX1_payFor_0 : decode cX1_payFor 0 = .ok (.aload_n 0, 1) := by decide +kernel
theorem dX1_payFor_1 : decode cX1_payFor 1 = .ok (.getfield 9, 3) := by decide +kernel
theorem dX1_payFor_4 : decode cX1_payFor 4 = .ok (.iconst 1, 1) := by decide +kernel
theorem dX1_payFor_5 : decode cX1_payFor 5 = .ok (.if_icmp .ge 7, 3) := by decide +kernel
theorem dX1_payFor_8 : decode cX1_payFor 8 = .ok (.iconst 0, 1) := by decide +kernel
theorem dX1_payFor_9 : decode cX1_payFor 9 = .ok (.goto 14, 3) := by decide +kernel
theorem dX1_payFor_12 : decode cX1_payFor 12 = .ok (.iload_n 1, 1) := by decide +kernel
theorem dX1_payFor_13 : decode cX1_payFor 13 = .ok (.aload_n 0, 1) := by decide +kernel
theorem dX1_payFor_14 : decode cX1_payFor 14 = .ok (.getfield 9, 3) := by decide +kernel
theorem dX1_payFor_17 : decode cX1_payFor 17 = .ok (.idiv, 1) := by decide +kernel
theorem dX1_payFor_18 : decode cX1_payFor 18 = .ok (.aload_n 0, 1) := by decide +kernel
theorem dX1_payFor_19 : decode cX1_payFor 19 = .ok (.getfield 15, 3) := by decide +kernel
theorem dX1_payFor_22 : decode cX1_payFor 22 = .ok (.imul, 1) := by decide +kernel
theorem dX1_payFor_23 : decode cX1_payFor 23 = .ok (.ireturn, 1) := by decide +kernel
theorem dX1_oneStepFrom_0 : decode cX1_oneStepFrom 0 = .ok (.iconst 0, 1) := by decide +kernel
theorem dX1_oneStepFrom_1 : decode cX1_oneStepFrom 1 = .ok (.istore_n 2, 1) := by decide +kernel
theorem dX1_oneStepFrom_2 : decode cX1_oneStepFrom 2 = .ok (.iconst 0, 1) := by decide +kernel
theorem dX1_oneStepFrom_3 : decode cX1_oneStepFrom 3 = .ok (.istore_n 3, 1) := by decide +kernel
theorem dX1_oneStepFrom_4 : decode cX1_oneStepFrom 4 = .ok (.iload_n 3, 1) := by decide +kernel
theorem dX1_oneStepFrom_5 : decode cX1_oneStepFrom 5 = .ok (.aload_n 0, 1) := by decide +kernel
theorem dX1_oneStepFrom_6 : decode cX1_oneStepFrom 6 = .ok (.getfield 18, 3) := by decide +kernel
theorem dX1_oneStepFrom_9 : decode cX1_oneStepFrom 9 = .ok (.if_icmp .ge 26, 3) := by decide +kernel
theorem dX1_oneStepFrom_12 : decode cX1_oneStepFrom 12 = .ok (.iload_n 1, 1) := by decide +kernel
theorem dX1_oneStepFrom_13 : decode cX1_oneStepFrom 13 = .ok (.iload_n 3, 1) := by decide +kernel
theorem dX1_oneStepFrom_14 : decode cX1_oneStepFrom 14 = .ok (.invokestatic 50, 3) := by decide +kernel
theorem dX1_oneStepFrom_17 : decode cX1_oneStepFrom 17 = .ok (.ifCond .eq 12, 3) := by decide +kernel
theorem dX1_oneStepFrom_20 : decode cX1_oneStepFrom 20 = .ok (.iload_n 2, 1) := by decide +kernel
theorem dX1_oneStepFrom_21 : decode cX1_oneStepFrom 21 = .ok (.aload_n 0, 1) := by decide +kernel
theorem dX1_oneStepFrom_22 : decode cX1_oneStepFrom 22 = .ok (.getfield 28, 3) := by decide +kernel
theorem dX1_oneStepFrom_25 : decode cX1_oneStepFrom 25 = .ok (.iload_n 3, 1) := by decide +kernel
theorem dX1_oneStepFrom_26 : decode cX1_oneStepFrom 26 = .ok (.iaload, 1) := by decide +kernel
theorem dX1_oneStepFrom_27 : decode cX1_oneStepFrom 27 = .ok (.ior, 1) := by decide +kernel
theorem dX1_oneStepFrom_28 : decode cX1_oneStepFrom 28 = .ok (.istore_n 2, 1) := by decide +kernel
theorem dX1_oneStepFrom_29 : decode cX1_oneStepFrom 29 = .ok (.iinc 3 1, 3) := by decide +kernel
theorem dX1_oneStepFrom_32 : decode cX1_oneStepFrom 32 = .ok (.goto (-28), 3) := by decide +kernel
theorem dX1_oneStepFrom_35 : decode cX1_oneStepFrom 35 = .ok (.iload_n 2, 1) := by decide +kernel
theorem dX1_oneStepFrom_36 : decode cX1_oneStepFrom 36 = .ok (.ireturn, 1) := by decide +kernel
theorem dX1_leadsFrom_0 : decode cX1_leadsFrom 0 = .ok (.aload_n 0, 1) := by decide +kernel
theorem dX1_leadsFrom_1 : decode cX1_leadsFrom 1 = .ok (.iload_n 1, 1) := by decide +kernel
theorem dX1_leadsFrom_2 : decode cX1_leadsFrom 2 = .ok (.invokevirtual 58, 3) := by decide +kernel
theorem dX1_leadsFrom_5 : decode cX1_leadsFrom 5 = .ok (.ifCond .eq 12, 3) := by decide +kernel
theorem dX1_leadsFrom_8 : decode cX1_leadsFrom 8 = .ok (.aload_n 0, 1) := by decide +kernel
theorem dX1_leadsFrom_9 : decode cX1_leadsFrom 9 = .ok (.getfield 28, 3) := by decide +kernel
theorem dX1_leadsFrom_12 : decode cX1_leadsFrom 12 = .ok (.iload_n 1, 1) := by decide +kernel
theorem dX1_leadsFrom_13 : decode cX1_leadsFrom 13 = .ok (.iaload, 1) := by decide +kernel
theorem dX1_leadsFrom_14 : decode cX1_leadsFrom 14 = .ok (.goto 4, 3) := by decide +kernel
theorem dX1_leadsFrom_17 : decode cX1_leadsFrom 17 = .ok (.iconst 0, 1) := by decide +kernel
theorem dX1_leadsFrom_18 : decode cX1_leadsFrom 18 = .ok (.istore_n 2, 1) := by decide +kernel
theorem dX1_leadsFrom_19 : decode cX1_leadsFrom 19 = .ok (.iconst 1, 1) := by decide +kernel
theorem dX1_leadsFrom_20 : decode cX1_leadsFrom 20 = .ok (.istore_n 3, 1) := by decide +kernel
theorem dX1_leadsFrom_21 : decode cX1_leadsFrom 21 = .ok (.iload_n 3, 1) := by decide +kernel
theorem dX1_leadsFrom_22 : decode cX1_leadsFrom 22 = .ok (.aload_n 0, 1) := by decide +kernel
theorem dX1_leadsFrom_23 : decode cX1_leadsFrom 23 = .ok (.getfield 18, 3) := by decide +kernel
theorem dX1_leadsFrom_26 : decode cX1_leadsFrom 26 = .ok (.if_icmp .ge 17, 3) := by decide +kernel
theorem dX1_leadsFrom_29 : decode cX1_leadsFrom 29 = .ok (.iload_n 2, 1) := by decide +kernel
theorem dX1_leadsFrom_30 : decode cX1_leadsFrom 30 = .ok (.aload_n 0, 1) := by decide +kernel
theorem dX1_leadsFrom_31 : decode cX1_leadsFrom 31 = .ok (.iload_n 2, 1) := by decide +kernel
theorem dX1_leadsFrom_32 : decode cX1_leadsFrom 32 = .ok (.invokevirtual 72, 3) := by decide +kernel
theorem dX1_leadsFrom_35 : decode cX1_leadsFrom 35 = .ok (.ior, 1) := by decide +kernel
theorem dX1_leadsFrom_36 : decode cX1_leadsFrom 36 = .ok (.istore_n 2, 1) := by decide +kernel
theorem dX1_leadsFrom_37 : decode cX1_leadsFrom 37 = .ok (.iinc 3 1, 3) := by decide +kernel
theorem dX1_leadsFrom_40 : decode cX1_leadsFrom 40 = .ok (.goto (-19), 3) := by decide +kernel
theorem dX1_leadsFrom_43 : decode cX1_leadsFrom 43 = .ok (.iload_n 2, 1) := by decide +kernel
theorem dX1_leadsFrom_44 : decode cX1_leadsFrom 44 = .ok (.ireturn, 1) := by decide +kernel
theorem dX1_stepsRound_0 : decode cX1_stepsRound 0 = .ok (.aload_n 0, 1) := by decide +kernel
theorem dX1_stepsRound_1 : decode cX1_stepsRound 1 = .ok (.iload_n 1, 1) := by decide +kernel
theorem dX1_stepsRound_2 : decode cX1_stepsRound 2 = .ok (.invokevirtual 58, 3) := by decide +kernel
theorem dX1_stepsRound_5 : decode cX1_stepsRound 5 = .ok (.ifCond .eq 12, 3) := by decide +kernel
theorem dX1_stepsRound_8 : decode cX1_stepsRound 8 = .ok (.aload_n 0, 1) := by decide +kernel
theorem dX1_stepsRound_9 : decode cX1_stepsRound 9 = .ok (.getfield 28, 3) := by decide +kernel
theorem dX1_stepsRound_12 : decode cX1_stepsRound 12 = .ok (.iload_n 1, 1) := by decide +kernel
theorem dX1_stepsRound_13 : decode cX1_stepsRound 13 = .ok (.iaload, 1) := by decide +kernel
theorem dX1_stepsRound_14 : decode cX1_stepsRound 14 = .ok (.goto 4, 3) := by decide +kernel
theorem dX1_stepsRound_17 : decode cX1_stepsRound 17 = .ok (.iconst 0, 1) := by decide +kernel
theorem dX1_stepsRound_18 : decode cX1_stepsRound 18 = .ok (.istore_n 2, 1) := by decide +kernel
theorem dX1_stepsRound_19 : decode cX1_stepsRound 19 = .ok (.iconst 1, 1) := by decide +kernel
theorem dX1_stepsRound_20 : decode cX1_stepsRound 20 = .ok (.istore_n 3, 1) := by decide +kernel
theorem dX1_stepsRound_21 : decode cX1_stepsRound 21 = .ok (.iload_n 3, 1) := by decide +kernel
theorem dX1_stepsRound_22 : decode cX1_stepsRound 22 = .ok (.aload_n 0, 1) := by decide +kernel
theorem dX1_stepsRound_23 : decode cX1_stepsRound 23 = .ok (.getfield 18, 3) := by decide +kernel
theorem dX1_stepsRound_26 : decode cX1_stepsRound 26 = .ok (.if_icmp .gt 25, 3) := by decide +kernel
theorem dX1_stepsRound_29 : decode cX1_stepsRound 29 = .ok (.iload_n 2, 1) := by decide +kernel
theorem dX1_stepsRound_30 : decode cX1_stepsRound 30 = .ok (.iload_n 1, 1) := by decide +kernel
theorem dX1_stepsRound_31 : decode cX1_stepsRound 31 = .ok (.invokestatic 50, 3) := by decide +kernel
theorem dX1_stepsRound_34 : decode cX1_stepsRound 34 = .ok (.ifCond .eq 5, 3) := by decide +kernel
theorem dX1_stepsRound_37 : decode cX1_stepsRound 37 = .ok (.iload_n 3, 1) := by decide +kernel
theorem dX1_stepsRound_38 : decode cX1_stepsRound 38 = .ok (.ireturn, 1) := by decide +kernel
theorem dX1_stepsRound_39 : decode cX1_stepsRound 39 = .ok (.aload_n 0, 1) := by decide +kernel
theorem dX1_stepsRound_40 : decode cX1_stepsRound 40 = .ok (.iload_n 2, 1) := by decide +kernel
theorem dX1_stepsRound_41 : decode cX1_stepsRound 41 = .ok (.invokevirtual 72, 3) := by decide +kernel
theorem dX1_stepsRound_44 : decode cX1_stepsRound 44 = .ok (.istore_n 2, 1) := by decide +kernel
theorem dX1_stepsRound_45 : decode cX1_stepsRound 45 = .ok (.iinc 3 1, 3) := by decide +kernel
theorem dX1_stepsRound_48 : decode cX1_stepsRound 48 = .ok (.goto (-27), 3) := by decide +kernel
theorem dX1_stepsRound_51 : decode cX1_stepsRound 51 = .ok (.iconst (-1), 1) := by decide +kernel
theorem dX1_stepsRound_52 : decode cX1_stepsRound 52 = .ok (.ireturn, 1) := by decide +kernel
theorem dX1_nobodys_0 : decode cX1_nobodys 0 = .ok (.iconst 0, 1) := by decide +kernel
theorem dX1_nobodys_1 : decode cX1_nobodys 1 = .ok (.istore_n 1, 1) := by decide +kernel
theorem dX1_nobodys_2 : decode cX1_nobodys 2 = .ok (.iconst 0, 1) := by decide +kernel
theorem dX1_nobodys_3 : decode cX1_nobodys 3 = .ok (.istore_n 2, 1) := by decide +kernel
theorem dX1_nobodys_4 : decode cX1_nobodys 4 = .ok (.iload_n 2, 1) := by decide +kernel
theorem dX1_nobodys_5 : decode cX1_nobodys 5 = .ok (.aload_n 0, 1) := by decide +kernel
theorem dX1_nobodys_6 : decode cX1_nobodys 6 = .ok (.getfield 21, 3) := by decide +kernel
theorem dX1_nobodys_9 : decode cX1_nobodys 9 = .ok (.if_icmp .ge 18, 3) := by decide +kernel
theorem dX1_nobodys_12 : decode cX1_nobodys 12 = .ok (.iload_n 1, 1) := by decide +kernel
theorem dX1_nobodys_13 : decode cX1_nobodys 13 = .ok (.aload_n 0, 1) := by decide +kernel
theorem dX1_nobodys_14 : decode cX1_nobodys 14 = .ok (.getfield 37, 3) := by decide +kernel
theorem dX1_nobodys_17 : decode cX1_nobodys 17 = .ok (.iload_n 2, 1) := by decide +kernel
theorem dX1_nobodys_18 : decode cX1_nobodys 18 = .ok (.iaload, 1) := by decide +kernel
theorem dX1_nobodys_19 : decode cX1_nobodys 19 = .ok (.ior, 1) := by decide +kernel
theorem dX1_nobodys_20 : decode cX1_nobodys 20 = .ok (.istore_n 1, 1) := by decide +kernel
theorem dX1_nobodys_21 : decode cX1_nobodys 21 = .ok (.iinc 2 1, 3) := by decide +kernel
theorem dX1_nobodys_24 : decode cX1_nobodys 24 = .ok (.goto (-20), 3) := by decide +kernel
theorem dX1_nobodys_27 : decode cX1_nobodys 27 = .ok (.aload_n 0, 1) := by decide +kernel
theorem dX1_nobodys_28 : decode cX1_nobodys 28 = .ok (.getfield 18, 3) := by decide +kernel
theorem dX1_nobodys_31 : decode cX1_nobodys 31 = .ok (.invokestatic 43, 3) := by decide +kernel
theorem dX1_nobodys_34 : decode cX1_nobodys 34 = .ok (.iload_n 1, 1) := by decide +kernel
theorem dX1_nobodys_35 : decode cX1_nobodys 35 = .ok (.iconst (-1), 1) := by decide +kernel
theorem dX1_nobodys_36 : decode cX1_nobodys 36 = .ok (.ixor, 1) := by decide +kernel
theorem dX1_nobodys_37 : decode cX1_nobodys 37 = .ok (.iand, 1) := by decide +kernel
theorem dX1_nobodys_38 : decode cX1_nobodys 38 = .ok (.ireturn, 1) := by decide +kernel
theorem dX1_favouriteOf_0 : decode cX1_favouriteOf 0 = .ok (.iconst (-1), 1) := by decide +kernel
theorem dX1_favouriteOf_1 : decode cX1_favouriteOf 1 = .ok (.istore_n 2, 1) := by decide +kernel
theorem dX1_favouriteOf_2 : decode cX1_favouriteOf 2 = .ok (.iconst 0, 1) := by decide +kernel
theorem dX1_favouriteOf_3 : decode cX1_favouriteOf 3 = .ok (.istore_n 3, 1) := by decide +kernel
theorem dX1_favouriteOf_4 : decode cX1_favouriteOf 4 = .ok (.iconst 0, 1) := by decide +kernel
theorem dX1_favouriteOf_5 : decode cX1_favouriteOf 5 = .ok (.istore 4, 2) := by decide +kernel
theorem dX1_favouriteOf_7 : decode cX1_favouriteOf 7 = .ok (.iload 4, 2) := by decide +kernel
theorem dX1_favouriteOf_9 : decode cX1_favouriteOf 9 = .ok (.aload_n 0, 1) := by decide +kernel
theorem dX1_favouriteOf_10 : decode cX1_favouriteOf 10 = .ok (.getfield 18, 3) := by decide +kernel
theorem dX1_favouriteOf_13 : decode cX1_favouriteOf 13 = .ok (.if_icmp .ge 30, 3) := by decide +kernel
theorem dX1_favouriteOf_16 : decode cX1_favouriteOf 16 = .ok (.aload_n 0, 1) := by decide +kernel
theorem dX1_favouriteOf_17 : decode cX1_favouriteOf 17 = .ok (.iload_n 1, 1) := by decide +kernel
theorem dX1_favouriteOf_18 : decode cX1_favouriteOf 18 = .ok (.iload 4, 2) := by decide +kernel
theorem dX1_favouriteOf_20 : decode cX1_favouriteOf 20 = .ok (.invokevirtual 75, 3) := by decide +kernel
theorem dX1_favouriteOf_23 : decode cX1_favouriteOf 23 = .ok (.istore 5, 2) := by decide +kernel
theorem dX1_favouriteOf_25 : decode cX1_favouriteOf 25 = .ok (.iload 5, 2) := by decide +kernel
theorem dX1_favouriteOf_27 : decode cX1_favouriteOf 27 = .ok (.iload_n 3, 1) := by decide +kernel
theorem dX1_favouriteOf_28 : decode cX1_favouriteOf 28 = .ok (.if_icmp .le 9, 3) := by decide +kernel
theorem dX1_favouriteOf_31 : decode cX1_favouriteOf 31 = .ok (.iload 5, 2) := by decide +kernel
theorem dX1_favouriteOf_33 : decode cX1_favouriteOf 33 = .ok (.istore_n 3, 1) := by decide +kernel
theorem dX1_favouriteOf_34 : decode cX1_favouriteOf 34 = .ok (.iload 4, 2) := by decide +kernel
theorem dX1_favouriteOf_36 : decode cX1_favouriteOf 36 = .ok (.istore_n 2, 1) := by decide +kernel
theorem dX1_favouriteOf_37 : decode cX1_favouriteOf 37 = .ok (.iinc 4 1, 3) := by decide +kernel
theorem dX1_favouriteOf_40 : decode cX1_favouriteOf 40 = .ok (.goto (-33), 3) := by decide +kernel
theorem dX1_favouriteOf_43 : decode cX1_favouriteOf 43 = .ok (.iload_n 2, 1) := by decide +kernel
theorem dX1_favouriteOf_44 : decode cX1_favouriteOf 44 = .ok (.ireturn, 1) := by decide +kernel
theorem dX2_init_0 : decode cX2_init 0 = .ok (.aload_n 0, 1) := by decide +kernel
theorem dX2_init_1 : decode cX2_init 1 = .ok (.invokespecial 3, 3) := by decide +kernel
theorem dX2_init_4 : decode cX2_init 4 = .ok (.aload_n 0, 1) := by decide +kernel
theorem dX2_init_5 : decode cX2_init 5 = .ok (.iconst 0, 1) := by decide +kernel
theorem dX2_init_6 : decode cX2_init 6 = .ok (.putfield 9, 3) := by decide +kernel
theorem dX2_init_9 : decode cX2_init 9 = .ok (.aload_n 0, 1) := by decide +kernel
theorem dX2_init_10 : decode cX2_init 10 = .ok (.iconst 0, 1) := by decide +kernel
theorem dX2_init_11 : decode cX2_init 11 = .ok (.iload_n 1, 1) := by decide +kernel
theorem dX2_init_12 : decode cX2_init 12 = .ok (.invokestatic 15, 3) := by decide +kernel
theorem dX2_init_15 : decode cX2_init 15 = .ok (.newarray .int, 2) := by decide +kernel
theorem dX2_init_17 : decode cX2_init 17 = .ok (.putfield 21, 3) := by decide +kernel
theorem dX2_init_20 : decode cX2_init 20 = .ok (.aload_n 0, 1) := by decide +kernel
theorem dX2_init_21 : decode cX2_init 21 = .ok (.iconst 0, 1) := by decide +kernel
theorem dX2_init_22 : decode cX2_init 22 = .ok (.iload_n 1, 1) := by decide +kernel
theorem dX2_init_23 : decode cX2_init 23 = .ok (.invokestatic 15, 3) := by decide +kernel
theorem dX2_init_26 : decode cX2_init 26 = .ok (.newarray .int, 2) := by decide +kernel
theorem dX2_init_28 : decode cX2_init 28 = .ok (.putfield 25, 3) := by decide +kernel
theorem dX2_init_31 : decode cX2_init 31 = .ok (.return_, 1) := by decide +kernel
theorem dX2_add_0 : decode cX2_add 0 = .ok (.aload_n 0, 1) := by decide +kernel
theorem dX2_add_1 : decode cX2_add 1 = .ok (.getfield 9, 3) := by decide +kernel
theorem dX2_add_4 : decode cX2_add 4 = .ok (.aload_n 0, 1) := by decide +kernel
theorem dX2_add_5 : decode cX2_add 5 = .ok (.getfield 21, 3) := by decide +kernel
theorem dX2_add_8 : decode cX2_add 8 = .ok (.arraylength, 1) := by decide +kernel
theorem dX2_add_9 : decode cX2_add 9 = .ok (.if_icmp .ge 15, 3) := by decide +kernel
theorem dX2_add_12 : decode cX2_add 12 = .ok (.aload_n 0, 1) := by decide +kernel
theorem dX2_add_13 : decode cX2_add 13 = .ok (.getfield 9, 3) := by decide +kernel
theorem dX2_add_16 : decode cX2_add 16 = .ok (.aload_n 0, 1) := by decide +kernel
theorem dX2_add_17 : decode cX2_add 17 = .ok (.getfield 25, 3) := by decide +kernel
theorem dX2_add_20 : decode cX2_add 20 = .ok (.arraylength, 1) := by decide +kernel
theorem dX2_add_21 : decode cX2_add 21 = .ok (.if_icmp .lt 5, 3) := by decide +kernel
theorem dX2_add_24 : decode cX2_add 24 = .ok (.iconst 0, 1) := by decide +kernel
theorem dX2_add_25 : decode cX2_add 25 = .ok (.ireturn, 1) := by decide +kernel
theorem dX2_add_26 : decode cX2_add 26 = .ok (.aload_n 0, 1) := by decide +kernel
theorem dX2_add_27 : decode cX2_add 27 = .ok (.getfield 21, 3) := by decide +kernel
theorem dX2_add_30 : decode cX2_add 30 = .ok (.aload_n 0, 1) := by decide +kernel
theorem dX2_add_31 : decode cX2_add 31 = .ok (.getfield 9, 3) := by decide +kernel
theorem dX2_add_34 : decode cX2_add 34 = .ok (.iload_n 1, 1) := by decide +kernel
theorem dX2_add_35 : decode cX2_add 35 = .ok (.iastore, 1) := by decide +kernel
theorem dX2_add_36 : decode cX2_add 36 = .ok (.aload_n 0, 1) := by decide +kernel
theorem dX2_add_37 : decode cX2_add 37 = .ok (.getfield 25, 3) := by decide +kernel
theorem dX2_add_40 : decode cX2_add 40 = .ok (.aload_n 0, 1) := by decide +kernel
theorem dX2_add_41 : decode cX2_add 41 = .ok (.getfield 9, 3) := by decide +kernel
theorem dX2_add_44 : decode cX2_add 44 = .ok (.iload_n 2, 1) := by decide +kernel
theorem dX2_add_45 : decode cX2_add 45 = .ok (.iastore, 1) := by decide +kernel
theorem dX2_add_46 : decode cX2_add 46 = .ok (.aload_n 0, 1) := by decide +kernel
theorem dX2_add_47 : decode cX2_add 47 = .ok (.dup, 1) := by decide +kernel
theorem dX2_add_48 : decode cX2_add 48 = .ok (.getfield 9, 3) := by decide +kernel
theorem dX2_add_51 : decode cX2_add 51 = .ok (.iconst 1, 1) := by decide +kernel
theorem dX2_add_52 : decode cX2_add 52 = .ok (.iadd, 1) := by decide +kernel
theorem dX2_add_53 : decode cX2_add 53 = .ok (.putfield 9, 3) := by decide +kernel
theorem dX2_add_56 : decode cX2_add 56 = .ok (.iconst 1, 1) := by decide +kernel
theorem dX2_add_57 : decode cX2_add 57 = .ok (.ireturn, 1) := by decide +kernel
theorem dX2_forget_0 : decode cX2_forget 0 = .ok (.aload_n 0, 1) := by decide +kernel
theorem dX2_forget_1 : decode cX2_forget 1 = .ok (.iconst 0, 1) := by decide +kernel
theorem dX2_forget_2 : decode cX2_forget 2 = .ok (.putfield 9, 3) := by decide +kernel
theorem dX2_forget_5 : decode cX2_forget 5 = .ok (.return_, 1) := by decide +kernel
theorem dX2_firstWrong_0 : decode cX2_firstWrong 0 = .ok (.iconst 0, 1) := by decide +kernel
theorem dX2_firstWrong_1 : decode cX2_firstWrong 1 = .ok (.istore_n 2, 1) := by decide +kernel
theorem dX2_firstWrong_2 : decode cX2_firstWrong 2 = .ok (.iload_n 2, 1) := by decide +kernel
theorem dX2_firstWrong_3 : decode cX2_firstWrong 3 = .ok (.aload_n 0, 1) := by decide +kernel
theorem dX2_firstWrong_4 : decode cX2_firstWrong 4 = .ok (.getfield 9, 3) := by decide +kernel
theorem dX2_firstWrong_7 : decode cX2_firstWrong 7 = .ok (.if_icmp .ge 40, 3) := by decide +kernel
theorem dX2_firstWrong_10 : decode cX2_firstWrong 10 = .ok (.aload_n 0, 1) := by decide +kernel
theorem dX2_firstWrong_11 : decode cX2_firstWrong 11 = .ok (.getfield 21, 3) := by decide +kernel
theorem dX2_firstWrong_14 : decode cX2_firstWrong 14 = .ok (.iload_n 2, 1) := by decide +kernel
theorem dX2_firstWrong_15 : decode cX2_firstWrong 15 = .ok (.iaload, 1) := by decide +kernel
theorem dX2_firstWrong_16 : decode cX2_firstWrong 16 = .ok (.istore_n 3, 1) := by decide +kernel
theorem dX2_firstWrong_17 : decode cX2_firstWrong 17 = .ok (.iload_n 3, 1) := by decide +kernel
theorem dX2_firstWrong_18 : decode cX2_firstWrong 18 = .ok (.ifCond .lt 21, 3) := by decide +kernel
theorem dX2_firstWrong_21 : decode cX2_firstWrong 21 = .ok (.iload_n 3, 1) := by decide +kernel
theorem dX2_firstWrong_22 : decode cX2_firstWrong 22 = .ok (.aload_n 1, 1) := by decide +kernel
theorem dX2_firstWrong_23 : decode cX2_firstWrong 23 = .ok (.arraylength, 1) := by decide +kernel
theorem dX2_firstWrong_24 : decode cX2_firstWrong 24 = .ok (.if_icmp .ge 15, 3) := by decide +kernel
theorem dX2_firstWrong_27 : decode cX2_firstWrong 27 = .ok (.aload_n 1, 1) := by decide +kernel
theorem dX2_firstWrong_28 : decode cX2_firstWrong 28 = .ok (.iload_n 3, 1) := by decide +kernel
theorem dX2_firstWrong_29 : decode cX2_firstWrong 29 = .ok (.iaload, 1) := by decide +kernel
theorem dX2_firstWrong_30 : decode cX2_firstWrong 30 = .ok (.aload_n 0, 1) := by decide +kernel
theorem dX2_firstWrong_31 : decode cX2_firstWrong 31 = .ok (.getfield 25, 3) := by decide +kernel
theorem dX2_firstWrong_34 : decode cX2_firstWrong 34 = .ok (.iload_n 2, 1) := by decide +kernel
theorem dX2_firstWrong_35 : decode cX2_firstWrong 35 = .ok (.iaload, 1) := by decide +kernel
theorem dX2_firstWrong_36 : decode cX2_firstWrong 36 = .ok (.if_icmp .eq 5, 3) := by decide +kernel
theorem dX2_firstWrong_39 : decode cX2_firstWrong 39 = .ok (.iload_n 2, 1) := by decide +kernel
theorem dX2_firstWrong_40 : decode cX2_firstWrong 40 = .ok (.ireturn, 1) := by decide +kernel
theorem dX2_firstWrong_41 : decode cX2_firstWrong 41 = .ok (.iinc 2 1, 3) := by decide +kernel
theorem dX2_firstWrong_44 : decode cX2_firstWrong 44 = .ok (.goto (-42), 3) := by decide +kernel
theorem dX2_firstWrong_47 : decode cX2_firstWrong 47 = .ok (.iconst (-1), 1) := by decide +kernel
theorem dX2_firstWrong_48 : decode cX2_firstWrong 48 = .ok (.ireturn, 1) := by decide +kernel
theorem dX2_fitting_0 : decode cX2_fitting 0 = .ok (.iconst 0, 1) := by decide +kernel
theorem dX2_fitting_1 : decode cX2_fitting 1 = .ok (.istore_n 2, 1) := by decide +kernel
theorem dX2_fitting_2 : decode cX2_fitting 2 = .ok (.iconst 0, 1) := by decide +kernel
theorem dX2_fitting_3 : decode cX2_fitting 3 = .ok (.istore_n 3, 1) := by decide +kernel
theorem dX2_fitting_4 : decode cX2_fitting 4 = .ok (.iload_n 3, 1) := by decide +kernel
theorem dX2_fitting_5 : decode cX2_fitting 5 = .ok (.aload_n 1, 1) := by decide +kernel
theorem dX2_fitting_6 : decode cX2_fitting 6 = .ok (.getfield 28, 3) := by decide +kernel
theorem dX2_fitting_9 : decode cX2_fitting 9 = .ok (.if_icmp .ge 24, 3) := by decide +kernel
theorem dX2_fitting_12 : decode cX2_fitting 12 = .ok (.aload_n 0, 1) := by decide +kernel
theorem dX2_fitting_13 : decode cX2_fitting 13 = .ok (.aload_n 1, 1) := by decide +kernel
theorem dX2_fitting_14 : decode cX2_fitting 14 = .ok (.iload_n 3, 1) := by decide +kernel
theorem dX2_fitting_15 : decode cX2_fitting 15 = .ok (.invokevirtual 33, 3) := by decide +kernel
theorem dX2_fitting_18 : decode cX2_fitting 18 = .ok (.ifCond .eq 9, 3) := by decide +kernel
theorem dX2_fitting_21 : decode cX2_fitting 21 = .ok (.iload_n 2, 1) := by decide +kernel
theorem dX2_fitting_22 : decode cX2_fitting 22 = .ok (.iconst 1, 1) := by decide +kernel
theorem dX2_fitting_23 : decode cX2_fitting 23 = .ok (.iload_n 3, 1) := by decide +kernel
theorem dX2_fitting_24 : decode cX2_fitting 24 = .ok (.ishl, 1) := by decide +kernel
theorem dX2_fitting_25 : decode cX2_fitting 25 = .ok (.ior, 1) := by decide +kernel
theorem dX2_fitting_26 : decode cX2_fitting 26 = .ok (.istore_n 2, 1) := by decide +kernel
theorem dX2_fitting_27 : decode cX2_fitting 27 = .ok (.iinc 3 1, 3) := by decide +kernel
theorem dX2_fitting_30 : decode cX2_fitting 30 = .ok (.goto (-26), 3) := by decide +kernel
theorem dX2_fitting_33 : decode cX2_fitting 33 = .ok (.iload_n 2, 1) := by decide +kernel
theorem dX2_fitting_34 : decode cX2_fitting 34 = .ok (.ireturn, 1) := by decide +kernel
theorem dX2_fits_0 : decode cX2_fits 0 = .ok (.iconst 0, 1) := by decide +kernel
theorem dX2_fits_1 : decode cX2_fits 1 = .ok (.istore_n 3, 1) := by decide +kernel
theorem dX2_fits_2 : decode cX2_fits 2 = .ok (.iload_n 3, 1) := by decide +kernel
theorem dX2_fits_3 : decode cX2_fits 3 = .ok (.aload_n 0, 1) := by decide +kernel
theorem dX2_fits_4 : decode cX2_fits 4 = .ok (.getfield 9, 3) := by decide +kernel
theorem dX2_fits_7 : decode cX2_fits 7 = .ok (.if_icmp .ge 31, 3) := by decide +kernel
theorem dX2_fits_10 : decode cX2_fits 10 = .ok (.aload_n 1, 1) := by decide +kernel
theorem dX2_fits_11 : decode cX2_fits 11 = .ok (.aload_n 0, 1) := by decide +kernel
theorem dX2_fits_12 : decode cX2_fits 12 = .ok (.getfield 21, 3) := by decide +kernel
theorem dX2_fits_15 : decode cX2_fits 15 = .ok (.iload_n 3, 1) := by decide +kernel
theorem dX2_fits_16 : decode cX2_fits 16 = .ok (.iaload, 1) := by decide +kernel
theorem dX2_fits_17 : decode cX2_fits 17 = .ok (.iload_n 2, 1) := by decide +kernel
theorem dX2_fits_18 : decode cX2_fits 18 = .ok (.invokevirtual 37, 3) := by decide +kernel
theorem dX2_fits_21 : decode cX2_fits 21 = .ok (.aload_n 0, 1) := by decide +kernel
theorem dX2_fits_22 : decode cX2_fits 22 = .ok (.getfield 25, 3) := by decide +kernel
theorem dX2_fits_25 : decode cX2_fits 25 = .ok (.iload_n 3, 1) := by decide +kernel
theorem dX2_fits_26 : decode cX2_fits 26 = .ok (.iaload, 1) := by decide +kernel
theorem dX2_fits_27 : decode cX2_fits 27 = .ok (.if_icmp .eq 5, 3) := by decide +kernel
theorem dX2_fits_30 : decode cX2_fits 30 = .ok (.iconst 0, 1) := by decide +kernel
theorem dX2_fits_31 : decode cX2_fits 31 = .ok (.ireturn, 1) := by decide +kernel
theorem dX2_fits_32 : decode cX2_fits 32 = .ok (.iinc 3 1, 3) := by decide +kernel
theorem dX2_fits_35 : decode cX2_fits 35 = .ok (.goto (-33), 3) := by decide +kernel
theorem dX2_fits_38 : decode cX2_fits 38 = .ok (.iconst 1, 1) := by decide +kernel
theorem dX2_fits_39 : decode cX2_fits 39 = .ok (.ireturn, 1) := by decide +kernel
theorem dX3_init_0 : decode cX3_init 0 = .ok (.aload_n 0, 1) := by decide +kernel
theorem dX3_init_1 : decode cX3_init 1 = .ok (.invokespecial 3, 3) := by decide +kernel
theorem dX3_init_4 : decode cX3_init 4 = .ok (.aload_n 0, 1) := by decide +kernel
theorem dX3_init_5 : decode cX3_init 5 = .ok (.iconst 0, 1) := by decide +kernel
theorem dX3_init_6 : decode cX3_init 6 = .ok (.putfield 9, 3) := by decide +kernel
theorem dX3_init_9 : decode cX3_init 9 = .ok (.aload_n 0, 1) := by decide +kernel
theorem dX3_init_10 : decode cX3_init 10 = .ok (.iconst 0, 1) := by decide +kernel
theorem dX3_init_11 : decode cX3_init 11 = .ok (.putfield 15, 3) := by decide +kernel
theorem dX3_init_14 : decode cX3_init 14 = .ok (.aload_n 0, 1) := by decide +kernel
theorem dX3_init_15 : decode cX3_init 15 = .ok (.iconst 0, 1) := by decide +kernel
theorem dX3_init_16 : decode cX3_init 16 = .ok (.putfield 18, 3) := by decide +kernel
theorem dX3_init_19 : decode cX3_init 19 = .ok (.aload_n 0, 1) := by decide +kernel
theorem dX3_init_20 : decode cX3_init 20 = .ok (.iconst 0, 1) := by decide +kernel
theorem dX3_init_21 : decode cX3_init 21 = .ok (.putfield 21, 3) := by decide +kernel
theorem dX3_init_24 : decode cX3_init 24 = .ok (.aload_n 0, 1) := by decide +kernel
theorem dX3_init_25 : decode cX3_init 25 = .ok (.iconst (-1), 1) := by decide +kernel
theorem dX3_init_26 : decode cX3_init 26 = .ok (.putfield 24, 3) := by decide +kernel
theorem dX3_init_29 : decode cX3_init 29 = .ok (.aload_n 0, 1) := by decide +kernel
theorem dX3_init_30 : decode cX3_init 30 = .ok (.iconst 0, 1) := by decide +kernel
theorem dX3_init_31 : decode cX3_init 31 = .ok (.putfield 27, 3) := by decide +kernel
theorem dX3_init_34 : decode cX3_init 34 = .ok (.aload_n 0, 1) := by decide +kernel
theorem dX3_init_35 : decode cX3_init 35 = .ok (.iconst (-1), 1) := by decide +kernel
theorem dX3_init_36 : decode cX3_init 36 = .ok (.putfield 30, 3) := by decide +kernel
theorem dX3_init_39 : decode cX3_init 39 = .ok (.aload_n 0, 1) := by decide +kernel
theorem dX3_init_40 : decode cX3_init 40 = .ok (.iconst 0, 1) := by decide +kernel
theorem dX3_init_41 : decode cX3_init 41 = .ok (.putfield 33, 3) := by decide +kernel
theorem dX3_init_44 : decode cX3_init 44 = .ok (.aload_n 0, 1) := by decide +kernel
theorem dX3_init_45 : decode cX3_init 45 = .ok (.iconst 0, 1) := by decide +kernel
theorem dX3_init_46 : decode cX3_init 46 = .ok (.putfield 36, 3) := by decide +kernel
theorem dX3_init_49 : decode cX3_init 49 = .ok (.aload_n 0, 1) := by decide +kernel
theorem dX3_init_50 : decode cX3_init 50 = .ok (.iconst 0, 1) := by decide +kernel
theorem dX3_init_51 : decode cX3_init 51 = .ok (.putfield 39, 3) := by decide +kernel
theorem dX3_init_54 : decode cX3_init 54 = .ok (.aload_n 0, 1) := by decide +kernel
theorem dX3_init_55 : decode cX3_init 55 = .ok (.bipush 6, 2) := by decide +kernel
theorem dX3_init_57 : decode cX3_init 57 = .ok (.newarray .int, 2) := by decide +kernel
theorem dX3_init_59 : decode cX3_init 59 = .ok (.putfield 42, 3) := by decide +kernel
theorem dX3_init_62 : decode cX3_init 62 = .ok (.aload_n 0, 1) := by decide +kernel
theorem dX3_init_63 : decode cX3_init 63 = .ok (.bipush 6, 2) := by decide +kernel
theorem dX3_init_65 : decode cX3_init 65 = .ok (.newarray .int, 2) := by decide +kernel
theorem dX3_init_67 : decode cX3_init 67 = .ok (.putfield 46, 3) := by decide +kernel
theorem dX3_init_70 : decode cX3_init 70 = .ok (.return_, 1) := by decide +kernel
theorem dX3_begin_0 : decode cX3_begin 0 = .ok (.aload_n 0, 1) := by decide +kernel
theorem dX3_begin_1 : decode cX3_begin 1 = .ok (.iconst 0, 1) := by decide +kernel
theorem dX3_begin_2 : decode cX3_begin 2 = .ok (.putfield 9, 3) := by decide +kernel
theorem dX3_begin_5 : decode cX3_begin 5 = .ok (.aload_n 0, 1) := by decide +kernel
theorem dX3_begin_6 : decode cX3_begin 6 = .ok (.iconst 0, 1) := by decide +kernel
theorem dX3_begin_7 : decode cX3_begin 7 = .ok (.putfield 15, 3) := by decide +kernel
theorem dX3_begin_10 : decode cX3_begin 10 = .ok (.aload_n 0, 1) := by decide +kernel
theorem dX3_begin_11 : decode cX3_begin 11 = .ok (.iconst 0, 1) := by decide +kernel
theorem dX3_begin_12 : decode cX3_begin 12 = .ok (.putfield 18, 3) := by decide +kernel
theorem dX3_begin_15 : decode cX3_begin 15 = .ok (.aload_n 0, 1) := by decide +kernel
theorem dX3_begin_16 : decode cX3_begin 16 = .ok (.aload_n 1, 1) := by decide +kernel
theorem dX3_begin_17 : decode cX3_begin 17 = .ok (.getfield 49, 3) := by decide +kernel
theorem dX3_begin_20 : decode cX3_begin 20 = .ok (.ifCond .le 7, 3) := by decide +kernel
theorem dX3_begin_23 : decode cX3_begin 23 = .ok (.iconst 1, 1) := by decide +kernel
theorem dX3_begin_24 : decode cX3_begin 24 = .ok (.goto 4, 3) := by decide +kernel
theorem dX3_begin_27 : decode cX3_begin 27 = .ok (.iconst 0, 1) := by decide +kernel
theorem dX3_begin_28 : decode cX3_begin 28 = .ok (.putfield 21, 3) := by decide +kernel
theorem dX3_begin_31 : decode cX3_begin 31 = .ok (.aload_n 0, 1) := by decide +kernel
theorem dX3_begin_32 : decode cX3_begin 32 = .ok (.aload_n 1, 1) := by decide +kernel
theorem dX3_begin_33 : decode cX3_begin 33 = .ok (.invokevirtual 54, 3) := by decide +kernel
theorem dX3_begin_36 : decode cX3_begin 36 = .ok (.return_, 1) := by decide +kernel
theorem dX3_gather_0 : decode cX3_gather 0 = .ok (.aload_n 0, 1) := by decide +kernel
theorem dX3_gather_1 : decode cX3_gather 1 = .ok (.invokevirtual 58, 3) := by decide +kernel
theorem dX3_gather_4 : decode cX3_gather 4 = .ok (.aload_n 0, 1) := by decide +kernel
theorem dX3_gather_5 : decode cX3_gather 5 = .ok (.aload_n 1, 1) := by decide +kernel
theorem dX3_gather_6 : decode cX3_gather 6 = .ok (.getfield 61, 3) := by decide +kernel
theorem dX3_gather_9 : decode cX3_gather 9 = .ok (.invokestatic 64, 3) := by decide +kernel
theorem dX3_gather_12 : decode cX3_gather 12 = .ok (.putfield 33, 3) := by decide +kernel
theorem dX3_gather_15 : decode cX3_gather 15 = .ok (.aload_n 0, 1) := by decide +kernel
theorem dX3_gather_16 : decode cX3_gather 16 = .ok (.iconst 0, 1) := by decide +kernel
theorem dX3_gather_17 : decode cX3_gather 17 = .ok (.putfield 36, 3) := by decide +kernel
theorem dX3_gather_20 : decode cX3_gather 20 = .ok (.aload_n 0, 1) := by decide +kernel
theorem dX3_gather_21 : decode cX3_gather 21 = .ok (.iconst 0, 1) := by decide +kernel
theorem dX3_gather_22 : decode cX3_gather 22 = .ok (.putfield 39, 3) := by decide +kernel
theorem dX3_gather_25 : decode cX3_gather 25 = .ok (.iconst 0, 1) := by decide +kernel
theorem dX3_gather_26 : decode cX3_gather 26 = .ok (.istore_n 2, 1) := by decide +kernel
theorem dX3_gather_27 : decode cX3_gather 27 = .ok (.iload_n 2, 1) := by decide +kernel
theorem dX3_gather_28 : decode cX3_gather 28 = .ok (.bipush 6, 2) := by decide +kernel
theorem dX3_gather_30 : decode cX3_gather 30 = .ok (.if_icmp .ge 23, 3) := by decide +kernel
theorem dX3_gather_33 : decode cX3_gather 33 = .ok (.aload_n 0, 1) := by decide +kernel
theorem dX3_gather_34 : decode cX3_gather 34 = .ok (.getfield 42, 3) := by decide +kernel
theorem dX3_gather_37 : decode cX3_gather 37 = .ok (.iload_n 2, 1) := by decide +kernel
theorem dX3_gather_38 : decode cX3_gather 38 = .ok (.iconst 0, 1) := by decide +kernel
theorem dX3_gather_39 : decode cX3_gather 39 = .ok (.iastore, 1) := by decide +kernel
theorem dX3_gather_40 : decode cX3_gather 40 = .ok (.aload_n 0, 1) := by decide +kernel
theorem dX3_gather_41 : decode cX3_gather 41 = .ok (.getfield 46, 3) := by decide +kernel
theorem dX3_gather_44 : decode cX3_gather 44 = .ok (.iload_n 2, 1) := by decide +kernel
theorem dX3_gather_45 : decode cX3_gather 45 = .ok (.iconst 0, 1) := by decide +kernel
theorem dX3_gather_46 : decode cX3_gather 46 = .ok (.iastore, 1) := by decide +kernel
theorem dX3_gather_47 : decode cX3_gather 47 = .ok (.iinc 2 1, 3) := by decide +kernel
theorem dX3_gather_50 : decode cX3_gather 50 = .ok (.goto (-23), 3) := by decide +kernel
theorem dX3_gather_53 : decode cX3_gather 53 = .ok (.return_, 1) := by decide +kernel
theorem dX3_emptySeat_0 : decode cX3_emptySeat 0 = .ok (.aload_n 0, 1) := by decide +kernel
theorem dX3_emptySeat_1 : decode cX3_emptySeat 1 = .ok (.iconst (-1), 1) := by decide +kernel
theorem dX3_emptySeat_2 : decode cX3_emptySeat 2 = .ok (.putfield 24, 3) := by decide +kernel
theorem dX3_emptySeat_5 : decode cX3_emptySeat 5 = .ok (.aload_n 0, 1) := by decide +kernel
theorem dX3_emptySeat_6 : decode cX3_emptySeat 6 = .ok (.iconst 0, 1) := by decide +kernel
theorem dX3_emptySeat_7 : decode cX3_emptySeat 7 = .ok (.putfield 27, 3) := by decide +kernel
theorem dX3_emptySeat_10 : decode cX3_emptySeat 10 = .ok (.aload_n 0, 1) := by decide +kernel
theorem dX3_emptySeat_11 : decode cX3_emptySeat 11 = .ok (.iconst (-1), 1) := by decide +kernel
theorem dX3_emptySeat_12 : decode cX3_emptySeat 12 = .ok (.putfield 30, 3) := by decide +kernel
theorem dX3_emptySeat_15 : decode cX3_emptySeat 15 = .ok (.return_, 1) := by decide +kernel
theorem dX3_copyFrom_0 : decode cX3_copyFrom 0 = .ok (.aload_n 0, 1) := by decide +kernel
theorem dX3_copyFrom_1 : decode cX3_copyFrom 1 = .ok (.aload_n 1, 1) := by decide +kernel
theorem dX3_copyFrom_2 : decode cX3_copyFrom 2 = .ok (.getfield 9, 3) := by decide +kernel
theorem dX3_copyFrom_5 : decode cX3_copyFrom 5 = .ok (.putfield 9, 3) := by decide +kernel
theorem dX3_copyFrom_8 : decode cX3_copyFrom 8 = .ok (.aload_n 0, 1) := by decide +kernel
theorem dX3_copyFrom_9 : decode cX3_copyFrom 9 = .ok (.aload_n 1, 1) := by decide +kernel
theorem dX3_copyFrom_10 : decode cX3_copyFrom 10 = .ok (.getfield 15, 3) := by decide +kernel
theorem dX3_copyFrom_13 : decode cX3_copyFrom 13 = .ok (.putfield 15, 3) := by decide +kernel
theorem dX3_copyFrom_16 : decode cX3_copyFrom 16 = .ok (.aload_n 0, 1) := by decide +kernel
theorem dX3_copyFrom_17 : decode cX3_copyFrom 17 = .ok (.aload_n 1, 1) := by decide +kernel
theorem dX3_copyFrom_18 : decode cX3_copyFrom 18 = .ok (.getfield 18, 3) := by decide +kernel
theorem dX3_copyFrom_21 : decode cX3_copyFrom 21 = .ok (.putfield 18, 3) := by decide +kernel
theorem dX3_copyFrom_24 : decode cX3_copyFrom 24 = .ok (.aload_n 0, 1) := by decide +kernel
theorem dX3_copyFrom_25 : decode cX3_copyFrom 25 = .ok (.aload_n 1, 1) := by decide +kernel
theorem dX3_copyFrom_26 : decode cX3_copyFrom 26 = .ok (.getfield 21, 3) := by decide +kernel
theorem dX3_copyFrom_29 : decode cX3_copyFrom 29 = .ok (.putfield 21, 3) := by decide +kernel
theorem dX3_copyFrom_32 : decode cX3_copyFrom 32 = .ok (.aload_n 0, 1) := by decide +kernel
theorem dX3_copyFrom_33 : decode cX3_copyFrom 33 = .ok (.aload_n 1, 1) := by decide +kernel
theorem dX3_copyFrom_34 : decode cX3_copyFrom 34 = .ok (.getfield 24, 3) := by decide +kernel
theorem dX3_copyFrom_37 : decode cX3_copyFrom 37 = .ok (.putfield 24, 3) := by decide +kernel
theorem dX3_copyFrom_40 : decode cX3_copyFrom 40 = .ok (.aload_n 0, 1) := by decide +kernel
theorem dX3_copyFrom_41 : decode cX3_copyFrom 41 = .ok (.aload_n 1, 1) := by decide +kernel
theorem dX3_copyFrom_42 : decode cX3_copyFrom 42 = .ok (.getfield 27, 3) := by decide +kernel
theorem dX3_copyFrom_45 : decode cX3_copyFrom 45 = .ok (.putfield 27, 3) := by decide +kernel
theorem dX3_copyFrom_48 : decode cX3_copyFrom 48 = .ok (.aload_n 0, 1) := by decide +kernel
theorem dX3_copyFrom_49 : decode cX3_copyFrom 49 = .ok (.aload_n 1, 1) := by decide +kernel
theorem dX3_copyFrom_50 : decode cX3_copyFrom 50 = .ok (.getfield 30, 3) := by decide +kernel
theorem dX3_copyFrom_53 : decode cX3_copyFrom 53 = .ok (.putfield 30, 3) := by decide +kernel
theorem dX3_copyFrom_56 : decode cX3_copyFrom 56 = .ok (.aload_n 0, 1) := by decide +kernel
theorem dX3_copyFrom_57 : decode cX3_copyFrom 57 = .ok (.aload_n 1, 1) := by decide +kernel
theorem dX3_copyFrom_58 : decode cX3_copyFrom 58 = .ok (.getfield 33, 3) := by decide +kernel
theorem dX3_copyFrom_61 : decode cX3_copyFrom 61 = .ok (.putfield 33, 3) := by decide +kernel
theorem dX3_copyFrom_64 : decode cX3_copyFrom 64 = .ok (.aload_n 0, 1) := by decide +kernel
theorem dX3_copyFrom_65 : decode cX3_copyFrom 65 = .ok (.aload_n 1, 1) := by decide +kernel
theorem dX3_copyFrom_66 : decode cX3_copyFrom 66 = .ok (.getfield 36, 3) := by decide +kernel
theorem dX3_copyFrom_69 : decode cX3_copyFrom 69 = .ok (.putfield 36, 3) := by decide +kernel
theorem dX3_copyFrom_72 : decode cX3_copyFrom 72 = .ok (.aload_n 0, 1) := by decide +kernel
theorem dX3_copyFrom_73 : decode cX3_copyFrom 73 = .ok (.aload_n 1, 1) := by decide +kernel
theorem dX3_copyFrom_74 : decode cX3_copyFrom 74 = .ok (.getfield 39, 3) := by decide +kernel
theorem dX3_copyFrom_77 : decode cX3_copyFrom 77 = .ok (.putfield 39, 3) := by decide +kernel
theorem dX3_copyFrom_80 : decode cX3_copyFrom 80 = .ok (.iconst 0, 1) := by decide +kernel
theorem dX3_copyFrom_81 : decode cX3_copyFrom 81 = .ok (.istore_n 2, 1) := by decide +kernel
theorem dX3_copyFrom_82 : decode cX3_copyFrom 82 = .ok (.iload_n 2, 1) := by decide +kernel
theorem dX3_copyFrom_83 : decode cX3_copyFrom 83 = .ok (.bipush 6, 2) := by decide +kernel
theorem dX3_copyFrom_85 : decode cX3_copyFrom 85 = .ok (.if_icmp .ge 33, 3) := by decide +kernel
theorem dX3_copyFrom_88 : decode cX3_copyFrom 88 = .ok (.aload_n 0, 1) := by decide +kernel
theorem dX3_copyFrom_89 : decode cX3_copyFrom 89 = .ok (.getfield 42, 3) := by decide +kernel
theorem dX3_copyFrom_92 : decode cX3_copyFrom 92 = .ok (.iload_n 2, 1) := by decide +kernel
theorem dX3_copyFrom_93 : decode cX3_copyFrom 93 = .ok (.aload_n 1, 1) := by decide +kernel
theorem dX3_copyFrom_94 : decode cX3_copyFrom 94 = .ok (.getfield 42, 3) := by decide +kernel
theorem dX3_copyFrom_97 : decode cX3_copyFrom 97 = .ok (.iload_n 2, 1) := by decide +kernel
theorem dX3_copyFrom_98 : decode cX3_copyFrom 98 = .ok (.iaload, 1) := by decide +kernel
theorem dX3_copyFrom_99 : decode cX3_copyFrom 99 = .ok (.iastore, 1) := by decide +kernel
theorem dX3_copyFrom_100 : decode cX3_copyFrom 100 = .ok (.aload_n 0, 1) := by decide +kernel
theorem dX3_copyFrom_101 : decode cX3_copyFrom 101 = .ok (.getfield 46, 3) := by decide +kernel
theorem dX3_copyFrom_104 : decode cX3_copyFrom 104 = .ok (.iload_n 2, 1) := by decide +kernel
theorem dX3_copyFrom_105 : decode cX3_copyFrom 105 = .ok (.aload_n 1, 1) := by decide +kernel
theorem dX3_copyFrom_106 : decode cX3_copyFrom 106 = .ok (.getfield 46, 3) := by decide +kernel
theorem dX3_copyFrom_109 : decode cX3_copyFrom 109 = .ok (.iload_n 2, 1) := by decide +kernel
theorem dX3_copyFrom_110 : decode cX3_copyFrom 110 = .ok (.iaload, 1) := by decide +kernel
theorem dX3_copyFrom_111 : decode cX3_copyFrom 111 = .ok (.iastore, 1) := by decide +kernel
theorem dX3_copyFrom_112 : decode cX3_copyFrom 112 = .ok (.iinc 2 1, 3) := by decide +kernel
theorem dX3_copyFrom_115 : decode cX3_copyFrom 115 = .ok (.goto (-33), 3) := by decide +kernel
theorem dX3_copyFrom_118 : decode cX3_copyFrom 118 = .ok (.return_, 1) := by decide +kernel
theorem dX3_takeSeat_0 : decode cX3_takeSeat 0 = .ok (.aload_n 0, 1) := by decide +kernel
theorem dX3_takeSeat_1 : decode cX3_takeSeat 1 = .ok (.dup, 1) := by decide +kernel
theorem dX3_takeSeat_2 : decode cX3_takeSeat 2 = .ok (.getfield 33, 3) := by decide +kernel
theorem dX3_takeSeat_5 : decode cX3_takeSeat 5 = .ok (.iconst 1, 1) := by decide +kernel
theorem dX3_takeSeat_6 : decode cX3_takeSeat 6 = .ok (.iload_n 1, 1) := by decide +kernel
theorem dX3_takeSeat_7 : decode cX3_takeSeat 7 = .ok (.ishl, 1) := by decide +kernel
theorem dX3_takeSeat_8 : decode cX3_takeSeat 8 = .ok (.iconst (-1), 1) := by decide +kernel
theorem dX3_takeSeat_9 : decode cX3_takeSeat 9 = .ok (.ixor, 1) := by decide +kernel
theorem dX3_takeSeat_10 : decode cX3_takeSeat 10 = .ok (.iand, 1) := by decide +kernel
theorem dX3_takeSeat_11 : decode cX3_takeSeat 11 = .ok (.putfield 33, 3) := by decide +kernel
theorem dX3_takeSeat_14 : decode cX3_takeSeat 14 = .ok (.aload_n 0, 1) := by decide +kernel
theorem dX3_takeSeat_15 : decode cX3_takeSeat 15 = .ok (.iload_n 1, 1) := by decide +kernel
theorem dX3_takeSeat_16 : decode cX3_takeSeat 16 = .ok (.putfield 24, 3) := by decide +kernel
theorem dX3_takeSeat_19 : decode cX3_takeSeat 19 = .ok (.return_, 1) := by decide +kernel
theorem dX3_canHear_0 : decode cX3_canHear 0 = .ok (.aload_n 0, 1) := by decide +kernel
theorem dX3_canHear_1 : decode cX3_canHear 1 = .ok (.getfield 24, 3) := by decide +kernel
theorem dX3_canHear_4 : decode cX3_canHear 4 = .ok (.iconst (-1), 1) := by decide +kernel
theorem dX3_canHear_5 : decode cX3_canHear 5 = .ok (.if_icmp .eq 29, 3) := by decide +kernel
theorem dX3_canHear_8 : decode cX3_canHear 8 = .ok (.aload_n 0, 1) := by decide +kernel
theorem dX3_canHear_9 : decode cX3_canHear 9 = .ok (.getfield 21, 3) := by decide +kernel
theorem dX3_canHear_12 : decode cX3_canHear 12 = .ok (.iload_n 1, 1) := by decide +kernel
theorem dX3_canHear_13 : decode cX3_canHear 13 = .ok (.invokestatic 68, 3) := by decide +kernel
theorem dX3_canHear_16 : decode cX3_canHear 16 = .ok (.ifCond .eq 18, 3) := by decide +kernel
theorem dX3_canHear_19 : decode cX3_canHear 19 = .ok (.aload_n 0, 1) := by decide +kernel
theorem dX3_canHear_20 : decode cX3_canHear 20 = .ok (.getfield 27, 3) := by decide +kernel
theorem dX3_canHear_23 : decode cX3_canHear 23 = .ok (.iload_n 1, 1) := by decide +kernel
theorem dX3_canHear_24 : decode cX3_canHear 24 = .ok (.invokestatic 68, 3) := by decide +kernel
theorem dX3_canHear_27 : decode cX3_canHear 27 = .ok (.ifCond .ne 7, 3) := by decide +kernel
theorem dX3_canHear_30 : decode cX3_canHear 30 = .ok (.iconst 1, 1) := by decide +kernel
theorem dX3_canHear_31 : decode cX3_canHear 31 = .ok (.goto 4, 3) := by decide +kernel
theorem dX3_canHear_34 : decode cX3_canHear 34 = .ok (.iconst 0, 1) := by decide +kernel
theorem dX3_canHear_35 : decode cX3_canHear 35 = .ok (.ireturn, 1) := by decide +kernel
theorem dX3_hear_0 : decode cX3_hear 0 = .ok (.aload_n 1, 1) := by decide +kernel
theorem dX3_hear_1 : decode cX3_hear 1 = .ok (.aload_n 0, 1) := by decide +kernel
theorem dX3_hear_2 : decode cX3_hear 2 = .ok (.getfield 24, 3) := by decide +kernel
theorem dX3_hear_5 : decode cX3_hear 5 = .ok (.invokevirtual 72, 3) := by decide +kernel
theorem dX3_hear_8 : decode cX3_hear 8 = .ok (.ifCond .eq 12, 3) := by decide +kernel
theorem dX3_hear_11 : decode cX3_hear 11 = .ok (.aload_n 0, 1) := by decide +kernel
theorem dX3_hear_12 : decode cX3_hear 12 = .ok (.aload_n 1, 1) := by decide +kernel
theorem dX3_hear_13 : decode cX3_hear 13 = .ok (.iload_n 2, 1) := by decide +kernel
theorem dX3_hear_14 : decode cX3_hear 14 = .ok (.invokevirtual 76, 3) := by decide +kernel
theorem dX3_hear_17 : decode cX3_hear 17 = .ok (.ifCond .ne 11, 3) := by decide +kernel
theorem dX3_hear_20 : decode cX3_hear 20 = .ok (.aload_n 0, 1) := by decide +kernel
theorem dX3_hear_21 : decode cX3_hear 21 = .ok (.aload_n 1, 1) := by decide +kernel
theorem dX3_hear_22 : decode cX3_hear 22 = .ok (.invokevirtual 80, 3) := by decide +kernel
theorem dX3_hear_25 : decode cX3_hear 25 = .ok (.pop, 1) := by decide +kernel
theorem dX3_hear_26 : decode cX3_hear 26 = .ok (.iconst (-1), 1) := by decide +kernel
theorem dX3_hear_27 : decode cX3_hear 27 = .ok (.ireturn, 1) := by decide +kernel
theorem dX3_hear_28 : decode cX3_hear 28 = .ok (.aload_n 1, 1) := by decide +kernel
theorem dX3_hear_29 : decode cX3_hear 29 = .ok (.aload_n 0, 1) := by decide +kernel
theorem dX3_hear_30 : decode cX3_hear 30 = .ok (.getfield 24, 3) := by decide +kernel
theorem dX3_hear_33 : decode cX3_hear 33 = .ok (.iload_n 2, 1) := by decide +kernel
theorem dX3_hear_34 : decode cX3_hear 34 = .ok (.invokevirtual 84, 3) := by decide +kernel
theorem dX3_hear_37 : decode cX3_hear 37 = .ok (.istore_n 3, 1) := by decide +kernel
theorem dX3_hear_38 : decode cX3_hear 38 = .ok (.aload_n 0, 1) := by decide +kernel
theorem dX3_hear_39 : decode cX3_hear 39 = .ok (.dup, 1) := by decide +kernel
theorem dX3_hear_40 : decode cX3_hear 40 = .ok (.getfield 27, 3) := by decide +kernel
theorem dX3_hear_43 : decode cX3_hear 43 = .ok (.iconst 1, 1) := by decide +kernel
theorem dX3_hear_44 : decode cX3_hear 44 = .ok (.iload_n 2, 1) := by decide +kernel
theorem dX3_hear_45 : decode cX3_hear 45 = .ok (.ishl, 1) := by decide +kernel
theorem dX3_hear_46 : decode cX3_hear 46 = .ok (.ior, 1) := by decide +kernel
theorem dX3_hear_47 : decode cX3_hear 47 = .ok (.putfield 27, 3) := by decide +kernel
theorem dX3_hear_50 : decode cX3_hear 50 = .ok (.aload_n 0, 1) := by decide +kernel
theorem dX3_hear_51 : decode cX3_hear 51 = .ok (.iload_n 2, 1) := by decide +kernel
theorem dX3_hear_52 : decode cX3_hear 52 = .ok (.putfield 30, 3) := by decide +kernel
theorem dX3_hear_55 : decode cX3_hear 55 = .ok (.aload_n 0, 1) := by decide +kernel
theorem dX3_hear_56 : decode cX3_hear 56 = .ok (.getfield 46, 3) := by decide +kernel
theorem dX3_hear_59 : decode cX3_hear 59 = .ok (.aload_n 0, 1) := by decide +kernel
theorem dX3_hear_60 : decode cX3_hear 60 = .ok (.getfield 24, 3) := by decide +kernel
theorem dX3_hear_63 : decode cX3_hear 63 = .ok (.dup2, 1) := by decide +kernel
theorem dX3_hear_64 : decode cX3_hear 64 = .ok (.iaload, 1) := by decide +kernel
theorem dX3_hear_65 : decode cX3_hear 65 = .ok (.iload_n 3, 1) := by decide +kernel
theorem dX3_hear_66 : decode cX3_hear 66 = .ok (.iadd, 1) := by decide +kernel
theorem dX3_hear_67 : decode cX3_hear 67 = .ok (.iastore, 1) := by decide +kernel
theorem dX3_hear_68 : decode cX3_hear 68 = .ok (.aload_n 0, 1) := by decide +kernel
theorem dX3_hear_69 : decode cX3_hear 69 = .ok (.aload_n 1, 1) := by decide +kernel
theorem dX3_hear_70 : decode cX3_hear 70 = .ok (.iload_n 3, 1) := by decide +kernel
theorem dX3_hear_71 : decode cX3_hear 71 = .ok (.invokevirtual 88, 3) := by decide +kernel
theorem dX3_hear_74 : decode cX3_hear 74 = .ok (.iload_n 3, 1) := by decide +kernel
theorem dX3_hear_75 : decode cX3_hear 75 = .ok (.ireturn, 1) := by decide +kernel
theorem dX3_follows_0 : decode cX3_follows 0 = .ok (.aload_n 1, 1) := by decide +kernel
theorem dX3_follows_1 : decode cX3_follows 1 = .ok (.aload_n 0, 1) := by decide +kernel
theorem dX3_follows_2 : decode cX3_follows 2 = .ok (.getfield 30, 3) := by decide +kernel
theorem dX3_follows_5 : decode cX3_follows 5 = .ok (.invokevirtual 92, 3) := by decide +kernel
theorem dX3_follows_8 : decode cX3_follows 8 = .ok (.ifCond .eq 19, 3) := by decide +kernel
theorem dX3_follows_11 : decode cX3_follows 11 = .ok (.aload_n 1, 1) := by decide +kernel
theorem dX3_follows_12 : decode cX3_follows 12 = .ok (.getfield 95, 3) := by decide +kernel
theorem dX3_follows_15 : decode cX3_follows 15 = .ok (.aload_n 0, 1) := by decide +kernel
theorem dX3_follows_16 : decode cX3_follows 16 = .ok (.getfield 30, 3) := by decide +kernel
theorem dX3_follows_19 : decode cX3_follows 19 = .ok (.iaload, 1) := by decide +kernel
theorem dX3_follows_20 : decode cX3_follows 20 = .ok (.iload_n 2, 1) := by decide +kernel
theorem dX3_follows_21 : decode cX3_follows 21 = .ok (.invokestatic 68, 3) := by decide +kernel
theorem dX3_follows_24 : decode cX3_follows 24 = .ok (.ifCond .eq 7, 3) := by decide +kernel
theorem dX3_follows_27 : decode cX3_follows 27 = .ok (.iconst 1, 1) := by decide +kernel
theorem dX3_follows_28 : decode cX3_follows 28 = .ok (.goto 4, 3) := by decide +kernel
theorem dX3_follows_31 : decode cX3_follows 31 = .ok (.iconst 0, 1) := by decide +kernel
theorem dX3_follows_32 : decode cX3_follows 32 = .ok (.ireturn, 1) := by decide +kernel
theorem dX3_leaveSeat_0 : decode cX3_leaveSeat 0 = .ok (.aload_n 0, 1) := by decide +kernel
theorem dX3_leaveSeat_1 : decode cX3_leaveSeat 1 = .ok (.getfield 24, 3) := by decide +kernel
theorem dX3_leaveSeat_4 : decode cX3_leaveSeat 4 = .ok (.istore_n 2, 1) := by decide +kernel
theorem dX3_leaveSeat_5 : decode cX3_leaveSeat 5 = .ok (.aload_n 0, 1) := by decide +kernel
theorem dX3_leaveSeat_6 : decode cX3_leaveSeat 6 = .ok (.invokevirtual 58, 3) := by decide +kernel
theorem dX3_leaveSeat_9 : decode cX3_leaveSeat 9 = .ok (.aload_n 1, 1) := by decide +kernel
theorem dX3_leaveSeat_10 : decode cX3_leaveSeat 10 = .ok (.iload_n 2, 1) := by decide +kernel
theorem dX3_leaveSeat_11 : decode cX3_leaveSeat 11 = .ok (.invokevirtual 72, 3) := by decide +kernel
theorem dX3_leaveSeat_14 : decode cX3_leaveSeat 14 = .ok (.ifCond .ne 5, 3) := by decide +kernel
theorem dX3_leaveSeat_17 : decode cX3_leaveSeat 17 = .ok (.iconst 0, 1) := by decide +kernel
theorem dX3_leaveSeat_18 : decode cX3_leaveSeat 18 = .ok (.ireturn, 1) := by decide +kernel
theorem dX3_leaveSeat_19 : decode cX3_leaveSeat 19 = .ok (.aload_n 0, 1) := by decide +kernel
theorem dX3_leaveSeat_20 : decode cX3_leaveSeat 20 = .ok (.dup, 1) := by decide +kernel
theorem dX3_leaveSeat_21 : decode cX3_leaveSeat 21 = .ok (.getfield 36, 3) := by decide +kernel
theorem dX3_leaveSeat_24 : decode cX3_leaveSeat 24 = .ok (.iconst 1, 1) := by decide +kernel
theorem dX3_leaveSeat_25 : decode cX3_leaveSeat 25 = .ok (.iload_n 2, 1) := by decide +kernel
theorem dX3_leaveSeat_26 : decode cX3_leaveSeat 26 = .ok (.ishl, 1) := by decide +kernel
theorem dX3_leaveSeat_27 : decode cX3_leaveSeat 27 = .ok (.ior, 1) := by decide +kernel
theorem dX3_leaveSeat_28 : decode cX3_leaveSeat 28 = .ok (.putfield 36, 3) := by decide +kernel
theorem dX3_leaveSeat_31 : decode cX3_leaveSeat 31 = .ok (.aload_n 1, 1) := by decide +kernel
theorem dX3_leaveSeat_32 : decode cX3_leaveSeat 32 = .ok (.aload_n 0, 1) := by decide +kernel
theorem dX3_leaveSeat_33 : decode cX3_leaveSeat 33 = .ok (.getfield 46, 3) := by decide +kernel
theorem dX3_leaveSeat_36 : decode cX3_leaveSeat 36 = .ok (.iload_n 2, 1) := by decide +kernel
theorem dX3_leaveSeat_37 : decode cX3_leaveSeat 37 = .ok (.iaload, 1) := by decide +kernel
theorem dX3_leaveSeat_38 : decode cX3_leaveSeat 38 = .ok (.invokevirtual 98, 3) := by decide +kernel
theorem dX3_leaveSeat_41 : decode cX3_leaveSeat 41 = .ok (.ldc 101, 2) := by decide +kernel
theorem dX3_leaveSeat_43 : decode cX3_leaveSeat 43 = .ok (.aload_n 0, 1) := by decide +kernel
theorem dX3_leaveSeat_44 : decode cX3_leaveSeat 44 = .ok (.getfield 18, 3) := by decide +kernel
theorem dX3_leaveSeat_47 : decode cX3_leaveSeat 47 = .ok (.isub, 1) := by decide +kernel
theorem dX3_leaveSeat_48 : decode cX3_leaveSeat 48 = .ok (.invokestatic 102, 3) := by decide +kernel
theorem dX3_leaveSeat_51 : decode cX3_leaveSeat 51 = .ok (.istore_n 3, 1) := by decide +kernel
theorem dX3_leaveSeat_52 : decode cX3_leaveSeat 52 = .ok (.aload_n 0, 1) := by decide +kernel
theorem dX3_leaveSeat_53 : decode cX3_leaveSeat 53 = .ok (.dup, 1) := by decide +kernel
theorem dX3_leaveSeat_54 : decode cX3_leaveSeat 54 = .ok (.getfield 18, 3) := by decide +kernel
theorem dX3_leaveSeat_57 : decode cX3_leaveSeat 57 = .ok (.iload_n 3, 1) := by decide +kernel
theorem dX3_leaveSeat_58 : decode cX3_leaveSeat 58 = .ok (.iadd, 1) := by decide +kernel
theorem dX3_leaveSeat_59 : decode cX3_leaveSeat 59 = .ok (.putfield 18, 3) := by decide +kernel
theorem dX3_leaveSeat_62 : decode cX3_leaveSeat 62 = .ok (.aload_n 1, 1) := by decide +kernel
theorem dX3_leaveSeat_63 : decode cX3_leaveSeat 63 = .ok (.iload_n 2, 1) := by decide +kernel
theorem dX3_leaveSeat_64 : decode cX3_leaveSeat 64 = .ok (.invokevirtual 107, 3) := by decide +kernel
theorem dX3_leaveSeat_67 : decode cX3_leaveSeat 67 = .ok (.ifCond .eq 13, 3) := by decide +kernel
theorem dX3_leaveSeat_70 : decode cX3_leaveSeat 70 = .ok (.aload_n 0, 1) := by decide +kernel
theorem dX3_leaveSeat_71 : decode cX3_leaveSeat 71 = .ok (.aload_n 1, 1) := by decide +kernel
theorem dX3_leaveSeat_72 : decode cX3_leaveSeat 72 = .ok (.getfield 110, 3) := by decide +kernel
theorem dX3_leaveSeat_75 : decode cX3_leaveSeat 75 = .ok (.iload_n 2, 1) := by decide +kernel
theorem dX3_leaveSeat_76 : decode cX3_leaveSeat 76 = .ok (.iaload, 1) := by decide +kernel
theorem dX3_leaveSeat_77 : decode cX3_leaveSeat 77 = .ok (.invokevirtual 113, 3) := by decide +kernel
theorem dX3_leaveSeat_80 : decode cX3_leaveSeat 80 = .ok (.iload_n 3, 1) := by decide +kernel
theorem dX3_leaveSeat_81 : decode cX3_leaveSeat 81 = .ok (.ireturn, 1) := by decide +kernel
theorem dX3_takeUp_0 : decode cX3_takeUp 0 = .ok (.iload_n 1, 1) := by decide +kernel
theorem dX3_takeUp_1 : decode cX3_takeUp 1 = .ok (.aload_n 0, 1) := by decide +kernel
theorem dX3_takeUp_2 : decode cX3_takeUp 2 = .ok (.getfield 21, 3) := by decide +kernel
theorem dX3_takeUp_5 : decode cX3_takeUp 5 = .ok (.iconst (-1), 1) := by decide +kernel
theorem dX3_takeUp_6 : decode cX3_takeUp 6 = .ok (.ixor, 1) := by decide +kernel
theorem dX3_takeUp_7 : decode cX3_takeUp 7 = .ok (.iand, 1) := by decide +kernel
theorem dX3_takeUp_8 : decode cX3_takeUp 8 = .ok (.istore_n 2, 1) := by decide +kernel
theorem dX3_takeUp_9 : decode cX3_takeUp 9 = .ok (.aload_n 0, 1) := by decide +kernel
theorem dX3_takeUp_10 : decode cX3_takeUp 10 = .ok (.dup, 1) := by decide +kernel
theorem dX3_takeUp_11 : decode cX3_takeUp 11 = .ok (.getfield 21, 3) := by decide +kernel
theorem dX3_takeUp_14 : decode cX3_takeUp 14 = .ok (.iload_n 2, 1) := by decide +kernel
theorem dX3_takeUp_15 : decode cX3_takeUp 15 = .ok (.iload_n 2, 1) := by decide +kernel
theorem dX3_takeUp_16 : decode cX3_takeUp 16 = .ok (.ineg, 1) := by decide +kernel
theorem dX3_takeUp_17 : decode cX3_takeUp 17 = .ok (.iand, 1) := by decide +kernel
theorem dX3_takeUp_18 : decode cX3_takeUp 18 = .ok (.ior, 1) := by decide +kernel
theorem dX3_takeUp_19 : decode cX3_takeUp 19 = .ok (.putfield 21, 3) := by decide +kernel
theorem dX3_takeUp_22 : decode cX3_takeUp 22 = .ok (.return_, 1) := by decide +kernel
theorem dX3_passMinutes_0 : decode cX3_passMinutes 0 = .ok (.aload_n 0, 1) := by decide +kernel
theorem dX3_passMinutes_1 : decode cX3_passMinutes 1 = .ok (.dup, 1) := by decide +kernel
theorem dX3_passMinutes_2 : decode cX3_passMinutes 2 = .ok (.getfield 9, 3) := by decide +kernel
theorem dX3_passMinutes_5 : decode cX3_passMinutes 5 = .ok (.iload_n 2, 1) := by decide +kernel
theorem dX3_passMinutes_6 : decode cX3_passMinutes 6 = .ok (.iadd, 1) := by decide +kernel
theorem dX3_passMinutes_7 : decode cX3_passMinutes 7 = .ok (.putfield 9, 3) := by decide +kernel
theorem dX3_passMinutes_10 : decode cX3_passMinutes 10 = .ok (.iconst 0, 1) := by decide +kernel
theorem dX3_passMinutes_11 : decode cX3_passMinutes 11 = .ok (.istore_n 3, 1) := by decide +kernel
theorem dX3_passMinutes_12 : decode cX3_passMinutes 12 = .ok (.iload_n 3, 1) := by decide +kernel
theorem dX3_passMinutes_13 : decode cX3_passMinutes 13 = .ok (.aload_n 1, 1) := by decide +kernel
theorem dX3_passMinutes_14 : decode cX3_passMinutes 14 = .ok (.getfield 61, 3) := by decide +kernel
theorem dX3_passMinutes_17 : decode cX3_passMinutes 17 = .ok (.if_icmp .ge 85, 3) := by decide +kernel
theorem dX3_passMinutes_20 : decode cX3_passMinutes 20 = .ok (.aload_n 0, 1) := by decide +kernel
theorem dX3_passMinutes_21 : decode cX3_passMinutes 21 = .ok (.getfield 33, 3) := by decide +kernel
theorem dX3_passMinutes_24 : decode cX3_passMinutes 24 = .ok (.iload_n 3, 1) := by decide +kernel
theorem dX3_passMinutes_25 : decode cX3_passMinutes 25 = .ok (.invokestatic 68, 3) := by decide +kernel
theorem dX3_passMinutes_28 : decode cX3_passMinutes 28 = .ok (.ifCond .eq 68, 3) := by decide +kernel
theorem dX3_passMinutes_31 : decode cX3_passMinutes 31 = .ok (.aload_n 1, 1) := by decide +kernel
theorem dX3_passMinutes_32 : decode cX3_passMinutes 32 = .ok (.iload_n 3, 1) := by decide +kernel
theorem dX3_passMinutes_33 : decode cX3_passMinutes 33 = .ok (.invokevirtual 117, 3) := by decide +kernel
theorem dX3_passMinutes_36 : decode cX3_passMinutes 36 = .ok (.iconst 1, 1) := by decide +kernel
theorem dX3_passMinutes_37 : decode cX3_passMinutes 37 = .ok (.iadd, 1) := by decide +kernel
theorem dX3_passMinutes_38 : decode cX3_passMinutes 38 = .ok (.istore 4, 2) := by decide +kernel
theorem dX3_passMinutes_40 : decode cX3_passMinutes 40 = .ok (.aload_n 0, 1) := by decide +kernel
theorem dX3_passMinutes_41 : decode cX3_passMinutes 41 = .ok (.getfield 42, 3) := by decide +kernel
theorem dX3_passMinutes_44 : decode cX3_passMinutes 44 = .ok (.iload_n 3, 1) := by decide +kernel
theorem dX3_passMinutes_45 : decode cX3_passMinutes 45 = .ok (.aload_n 0, 1) := by decide +kernel
theorem dX3_passMinutes_46 : decode cX3_passMinutes 46 = .ok (.getfield 42, 3) := by decide +kernel
theorem dX3_passMinutes_49 : decode cX3_passMinutes 49 = .ok (.iload_n 3, 1) := by decide +kernel
theorem dX3_passMinutes_50 : decode cX3_passMinutes 50 = .ok (.iaload, 1) := by decide +kernel
theorem dX3_passMinutes_51 : decode cX3_passMinutes 51 = .ok (.iload_n 2, 1) := by decide +kernel
theorem dX3_passMinutes_52 : decode cX3_passMinutes 52 = .ok (.iadd, 1) := by decide +kernel
theorem dX3_passMinutes_53 : decode cX3_passMinutes 53 = .ok (.iload 4, 2) := by decide +kernel
theorem dX3_passMinutes_55 : decode cX3_passMinutes 55 = .ok (.invokestatic 102, 3) := by decide +kernel
theorem dX3_passMinutes_58 : decode cX3_passMinutes 58 = .ok (.iastore, 1) := by decide +kernel
theorem dX3_passMinutes_59 : decode cX3_passMinutes 59 = .ok (.aload_n 0, 1) := by decide +kernel
theorem dX3_passMinutes_60 : decode cX3_passMinutes 60 = .ok (.getfield 42, 3) := by decide +kernel
theorem dX3_passMinutes_63 : decode cX3_passMinutes 63 = .ok (.iload_n 3, 1) := by decide +kernel
theorem dX3_passMinutes_64 : decode cX3_passMinutes 64 = .ok (.iaload, 1) := by decide +kernel
theorem dX3_passMinutes_65 : decode cX3_passMinutes 65 = .ok (.iload 4, 2) := by decide +kernel
theorem dX3_passMinutes_67 : decode cX3_passMinutes 67 = .ok (.if_icmp .lt 29, 3) := by decide +kernel
theorem dX3_passMinutes_70 : decode cX3_passMinutes 70 = .ok (.aload_n 0, 1) := by decide +kernel
theorem dX3_passMinutes_71 : decode cX3_passMinutes 71 = .ok (.dup, 1) := by decide +kernel
theorem dX3_passMinutes_72 : decode cX3_passMinutes 72 = .ok (.getfield 33, 3) := by decide +kernel
theorem dX3_passMinutes_75 : decode cX3_passMinutes 75 = .ok (.iconst 1, 1) := by decide +kernel
theorem dX3_passMinutes_76 : decode cX3_passMinutes 76 = .ok (.iload_n 3, 1) := by decide +kernel
theorem dX3_passMinutes_77 : decode cX3_passMinutes 77 = .ok (.ishl, 1) := by decide +kernel
theorem dX3_passMinutes_78 : decode cX3_passMinutes 78 = .ok (.iconst (-1), 1) := by decide +kernel
theorem dX3_passMinutes_79 : decode cX3_passMinutes 79 = .ok (.ixor, 1) := by decide +kernel
theorem dX3_passMinutes_80 : decode cX3_passMinutes 80 = .ok (.iand, 1) := by decide +kernel
theorem dX3_passMinutes_81 : decode cX3_passMinutes 81 = .ok (.putfield 33, 3) := by decide +kernel
theorem dX3_passMinutes_84 : decode cX3_passMinutes 84 = .ok (.aload_n 0, 1) := by decide +kernel
theorem dX3_passMinutes_85 : decode cX3_passMinutes 85 = .ok (.dup, 1) := by decide +kernel
theorem dX3_passMinutes_86 : decode cX3_passMinutes 86 = .ok (.getfield 39, 3) := by decide +kernel
theorem dX3_passMinutes_89 : decode cX3_passMinutes 89 = .ok (.iconst 1, 1) := by decide +kernel
theorem dX3_passMinutes_90 : decode cX3_passMinutes 90 = .ok (.iload_n 3, 1) := by decide +kernel
theorem dX3_passMinutes_91 : decode cX3_passMinutes 91 = .ok (.ishl, 1) := by decide +kernel
theorem dX3_passMinutes_92 : decode cX3_passMinutes 92 = .ok (.ior, 1) := by decide +kernel
theorem dX3_passMinutes_93 : decode cX3_passMinutes 93 = .ok (.putfield 39, 3) := by decide +kernel
theorem dX3_passMinutes_96 : decode cX3_passMinutes 96 = .ok (.iinc 3 1, 3) := by decide +kernel
theorem dX3_passMinutes_99 : decode cX3_passMinutes 99 = .ok (.goto (-87), 3) := by decide +kernel
theorem dX3_passMinutes_102 : decode cX3_passMinutes 102 = .ok (.return_, 1) := by decide +kernel
theorem dX3_patienceOf_0 : decode cX3_patienceOf 0 = .ok (.aload_n 1, 1) := by decide +kernel
theorem dX3_patienceOf_1 : decode cX3_patienceOf 1 = .ok (.iload_n 2, 1) := by decide +kernel
theorem dX3_patienceOf_2 : decode cX3_patienceOf 2 = .ok (.invokevirtual 72, 3) := by decide +kernel
theorem dX3_patienceOf_5 : decode cX3_patienceOf 5 = .ok (.ifCond .eq 29, 3) := by decide +kernel
theorem dX3_patienceOf_8 : decode cX3_patienceOf 8 = .ok (.aload_n 0, 1) := by decide +kernel
theorem dX3_patienceOf_9 : decode cX3_patienceOf 9 = .ok (.getfield 33, 3) := by decide +kernel
theorem dX3_patienceOf_12 : decode cX3_patienceOf 12 = .ok (.iload_n 2, 1) := by decide +kernel
theorem dX3_patienceOf_13 : decode cX3_patienceOf 13 = .ok (.invokestatic 68, 3) := by decide +kernel
theorem dX3_patienceOf_16 : decode cX3_patienceOf 16 = .ok (.ifCond .eq 18, 3) := by decide +kernel
theorem dX3_patienceOf_19 : decode cX3_patienceOf 19 = .ok (.aload_n 1, 1) := by decide +kernel
theorem dX3_patienceOf_20 : decode cX3_patienceOf 20 = .ok (.iload_n 2, 1) := by decide +kernel
theorem dX3_patienceOf_21 : decode cX3_patienceOf 21 = .ok (.invokevirtual 117, 3) := by decide +kernel
theorem dX3_patienceOf_24 : decode cX3_patienceOf 24 = .ok (.aload_n 0, 1) := by decide +kernel
theorem dX3_patienceOf_25 : decode cX3_patienceOf 25 = .ok (.getfield 42, 3) := by decide +kernel
theorem dX3_patienceOf_28 : decode cX3_patienceOf 28 = .ok (.iload_n 2, 1) := by decide +kernel
theorem dX3_patienceOf_29 : decode cX3_patienceOf 29 = .ok (.iaload, 1) := by decide +kernel
theorem dX3_patienceOf_30 : decode cX3_patienceOf 30 = .ok (.isub, 1) := by decide +kernel
theorem dX3_patienceOf_31 : decode cX3_patienceOf 31 = .ok (.goto 4, 3) := by decide +kernel
theorem dX3_patienceOf_34 : decode cX3_patienceOf 34 = .ok (.iconst 0, 1) := by decide +kernel
theorem dX3_patienceOf_35 : decode cX3_patienceOf 35 = .ok (.ireturn, 1) := by decide +kernel
theorem dX3_longestSat_0 : decode cX3_longestSat 0 = .ok (.iconst (-1), 1) := by decide +kernel
theorem dX3_longestSat_1 : decode cX3_longestSat 1 = .ok (.istore_n 2, 1) := by decide +kernel
theorem dX3_longestSat_2 : decode cX3_longestSat 2 = .ok (.iconst 0, 1) := by decide +kernel
theorem dX3_longestSat_3 : decode cX3_longestSat 3 = .ok (.istore_n 3, 1) := by decide +kernel
theorem dX3_longestSat_4 : decode cX3_longestSat 4 = .ok (.iconst 0, 1) := by decide +kernel
theorem dX3_longestSat_5 : decode cX3_longestSat 5 = .ok (.istore 4, 2) := by decide +kernel
theorem dX3_longestSat_7 : decode cX3_longestSat 7 = .ok (.iload 4, 2) := by decide +kernel
theorem dX3_longestSat_9 : decode cX3_longestSat 9 = .ok (.aload_n 1, 1) := by decide +kernel
theorem dX3_longestSat_10 : decode cX3_longestSat 10 = .ok (.getfield 61, 3) := by decide +kernel
theorem dX3_longestSat_13 : decode cX3_longestSat 13 = .ok (.if_icmp .ge 31, 3) := by decide +kernel
theorem dX3_longestSat_16 : decode cX3_longestSat 16 = .ok (.aload_n 0, 1) := by decide +kernel
theorem dX3_longestSat_17 : decode cX3_longestSat 17 = .ok (.getfield 46, 3) := by decide +kernel
theorem dX3_longestSat_20 : decode cX3_longestSat 20 = .ok (.iload 4, 2) := by decide +kernel
theorem dX3_longestSat_22 : decode cX3_longestSat 22 = .ok (.iaload, 1) := by decide +kernel
theorem dX3_longestSat_23 : decode cX3_longestSat 23 = .ok (.iload_n 3, 1) := by decide +kernel
theorem dX3_longestSat_24 : decode cX3_longestSat 24 = .ok (.if_icmp .le 14, 3) := by decide +kernel
theorem dX3_longestSat_27 : decode cX3_longestSat 27 = .ok (.aload_n 0, 1) := by decide +kernel
theorem dX3_longestSat_28 : decode cX3_longestSat 28 = .ok (.getfield 46, 3) := by decide +kernel
theorem dX3_longestSat_31 : decode cX3_longestSat 31 = .ok (.iload 4, 2) := by decide +kernel
theorem dX3_longestSat_33 : decode cX3_longestSat 33 = .ok (.iaload, 1) := by decide +kernel
theorem dX3_longestSat_34 : decode cX3_longestSat 34 = .ok (.istore_n 3, 1) := by decide +kernel
theorem dX3_longestSat_35 : decode cX3_longestSat 35 = .ok (.iload 4, 2) := by decide +kernel
theorem dX3_longestSat_37 : decode cX3_longestSat 37 = .ok (.istore_n 2, 1) := by decide +kernel
theorem dX3_longestSat_38 : decode cX3_longestSat 38 = .ok (.iinc 4 1, 3) := by decide +kernel
theorem dX3_longestSat_41 : decode cX3_longestSat 41 = .ok (.goto (-34), 3) := by decide +kernel
theorem dX3_longestSat_44 : decode cX3_longestSat 44 = .ok (.iload_n 2, 1) := by decide +kernel
theorem dX3_longestSat_45 : decode cX3_longestSat 45 = .ok (.ireturn, 1) := by decide +kernel
theorem dX4_init_0 : decode cX4_init 0 = .ok (.aload_n 0, 1) := by decide +kernel
theorem dX4_init_1 : decode cX4_init 1 = .ok (.invokespecial 1, 3) := by decide +kernel
theorem dX4_init_4 : decode cX4_init 4 = .ok (.aload_n 0, 1) := by decide +kernel
theorem dX4_init_5 : decode cX4_init 5 = .ok (.new 7, 3) := by decide +kernel
theorem dX4_init_8 : decode cX4_init 8 = .ok (.dup, 1) := by decide +kernel
theorem dX4_init_9 : decode cX4_init 9 = .ok (.invokespecial 9, 3) := by decide +kernel
theorem dX4_init_12 : decode cX4_init 12 = .ok (.putfield 10, 3) := by decide +kernel
theorem dX4_init_15 : decode cX4_init 15 = .ok (.aload_n 0, 1) := by decide +kernel
theorem dX4_init_16 : decode cX4_init 16 = .ok (.iconst 0, 1) := by decide +kernel
theorem dX4_init_17 : decode cX4_init 17 = .ok (.putfield 16, 3) := by decide +kernel
theorem dX4_init_20 : decode cX4_init 20 = .ok (.aload_n 0, 1) := by decide +kernel
theorem dX4_init_21 : decode cX4_init 21 = .ok (.iconst 0, 1) := by decide +kernel
theorem dX4_init_22 : decode cX4_init 22 = .ok (.putfield 20, 3) := by decide +kernel
theorem dX4_init_25 : decode cX4_init 25 = .ok (.return_, 1) := by decide +kernel
theorem dX5_init_0 : decode cX5_init 0 = .ok (.aload_n 0, 1) := by decide +kernel
theorem dX5_init_1 : decode cX5_init 1 = .ok (.invokespecial 3, 3) := by decide +kernel
theorem dX5_init_4 : decode cX5_init 4 = .ok (.aload_n 0, 1) := by decide +kernel
theorem dX5_init_5 : decode cX5_init 5 = .ok (.bipush 6, 2) := by decide +kernel
theorem dX5_init_7 : decode cX5_init 7 = .ok (.newarray .int, 2) := by decide +kernel
theorem dX5_init_9 : decode cX5_init 9 = .ok (.putfield 9, 3) := by decide +kernel
theorem dX5_init_12 : decode cX5_init 12 = .ok (.aload_n 0, 1) := by decide +kernel
theorem dX5_init_13 : decode cX5_init 13 = .ok (.bipush 6, 2) := by decide +kernel
theorem dX5_init_15 : decode cX5_init 15 = .ok (.newarray .int, 2) := by decide +kernel
theorem dX5_init_17 : decode cX5_init 17 = .ok (.putfield 15, 3) := by decide +kernel
theorem dX5_init_20 : decode cX5_init 20 = .ok (.aload_n 0, 1) := by decide +kernel
theorem dX5_init_21 : decode cX5_init 21 = .ok (.bipush 6, 2) := by decide +kernel
theorem dX5_init_23 : decode cX5_init 23 = .ok (.newarray .int, 2) := by decide +kernel
theorem dX5_init_25 : decode cX5_init 25 = .ok (.putfield 18, 3) := by decide +kernel
theorem dX5_init_28 : decode cX5_init 28 = .ok (.aload_n 0, 1) := by decide +kernel
theorem dX5_init_29 : decode cX5_init 29 = .ok (.bipush 6, 2) := by decide +kernel
theorem dX5_init_31 : decode cX5_init 31 = .ok (.newarray .int, 2) := by decide +kernel
theorem dX5_init_33 : decode cX5_init 33 = .ok (.putfield 21, 3) := by decide +kernel
theorem dX5_init_36 : decode cX5_init 36 = .ok (.aload_n 0, 1) := by decide +kernel
theorem dX5_init_37 : decode cX5_init 37 = .ok (.iconst 0, 1) := by decide +kernel
theorem dX5_init_38 : decode cX5_init 38 = .ok (.putfield 24, 3) := by decide +kernel
theorem dX5_init_41 : decode cX5_init 41 = .ok (.aload_n 0, 1) := by decide +kernel
theorem dX5_init_42 : decode cX5_init 42 = .ok (.iconst 0, 1) := by decide +kernel
theorem dX5_init_43 : decode cX5_init 43 = .ok (.putfield 28, 3) := by decide +kernel
theorem dX5_init_46 : decode cX5_init 46 = .ok (.aload_n 0, 1) := by decide +kernel
theorem dX5_init_47 : decode cX5_init 47 = .ok (.iconst 0, 1) := by decide +kernel
theorem dX5_init_48 : decode cX5_init 48 = .ok (.putfield 31, 3) := by decide +kernel
theorem dX5_init_51 : decode cX5_init 51 = .ok (.return_, 1) := by decide +kernel
theorem dX5_fill_0 : decode cX5_fill 0 = .ok (.aload_n 0, 1) := by decide +kernel
theorem dX5_fill_1 : decode cX5_fill 1 = .ok (.iconst 0, 1) := by decide +kernel
theorem dX5_fill_2 : decode cX5_fill 2 = .ok (.putfield 24, 3) := by decide +kernel
theorem dX5_fill_5 : decode cX5_fill 5 = .ok (.iconst 0, 1) := by decide +kernel
