theorem d_M_behindPart_0 : decode b_M_behindPart 0 = .ok (.aload_n 0, 1) := by decide +kernel
theorem d_M_behindPart_1 : decode b_M_behindPart 1 = .ok (.getfield 52, 3) := by decide +kernel
theorem d_M_behindPart_4 : decode b_M_behindPart 4 = .ok (.aload_n 0, 1) := by decide +kernel
theorem d_M_behindPart_5 : decode b_M_behindPart 5 = .ok (.getfield 129, 3) := by decide +kernel
theorem d_M_behindPart_8 : decode b_M_behindPart 8 = .ok (.iconst 1, 1) := by decide +kernel
theorem d_M_behindPart_9 : decode b_M_behindPart 9 = .ok (.isub, 1) := by decide +kernel
theorem d_M_behindPart_10 : decode b_M_behindPart 10 = .ok (.iaload, 1) := by decide +kernel
theorem d_M_behindPart_11 : decode b_M_behindPart 11 = .ok (.istore_n 1, 1) := by decide +kernel
theorem d_M_behindPart_12 : decode b_M_behindPart 12 = .ok (.aload_n 0, 1) := by decide +kernel
theorem d_M_behindPart_13 : decode b_M_behindPart 13 = .ok (.getfield 27, 3) := by decide +kernel
theorem d_M_behindPart_16 : decode b_M_behindPart 16 = .ok (.iload_n 1, 1) := by decide +kernel
theorem d_M_behindPart_17 : decode b_M_behindPart 17 = .ok (.iaload, 1) := by decide +kernel
theorem d_M_behindPart_18 : decode b_M_behindPart 18 = .ok (.istore_n 2, 1) := by decide +kernel
theorem d_M_behindPart_19 : decode b_M_behindPart 19 = .ok (.aload_n 0, 1) := by decide +kernel
theorem d_M_behindPart_20 : decode b_M_behindPart 20 = .ok (.getfield 27, 3) := by decide +kernel
theorem d_M_behindPart_23 : decode b_M_behindPart 23 = .ok (.iload_n 1, 1) := by decide +kernel
theorem d_M_behindPart_24 : decode b_M_behindPart 24 = .ok (.dup2, 1) := by decide +kernel
theorem d_M_behindPart_25 : decode b_M_behindPart 25 = .ok (.iaload, 1) := by decide +kernel
theorem d_M_behindPart_26 : decode b_M_behindPart 26 = .ok (.iconst 1, 1) := by decide +kernel
theorem d_M_behindPart_27 : decode b_M_behindPart 27 = .ok (.iadd, 1) := by decide +kernel
theorem d_M_behindPart_28 : decode b_M_behindPart 28 = .ok (.iastore, 1) := by decide +kernel
theorem d_M_behindPart_29 : decode b_M_behindPart 29 = .ok (.aload_n 0, 1) := by decide +kernel
theorem d_M_behindPart_30 : decode b_M_behindPart 30 = .ok (.getfield 17, 3) := by decide +kernel
theorem d_M_behindPart_33 : decode b_M_behindPart 33 = .ok (.iload_n 1, 1) := by decide +kernel
theorem d_M_behindPart_34 : decode b_M_behindPart 34 = .ok (.iaload, 1) := by decide +kernel
theorem d_M_behindPart_35 : decode b_M_behindPart 35 = .ok (.tableswitch 351 2 13 #[61, 162, 202, 351, 226, 250, 277, 351, 351, 351, 351, 323], 61) := by decide +kernel
theorem d_M_behindPart_96 : decode b_M_behindPart 96 = .ok (.aload_n 0, 1) := by decide +kernel
theorem d_M_behindPart_97 : decode b_M_behindPart 97 = .ok (.invokevirtual 114, 3) := by decide +kernel
theorem d_M_behindPart_100 : decode b_M_behindPart 100 = .ok (.istore_n 3, 1) := by decide +kernel
theorem d_M_behindPart_101 : decode b_M_behindPart 101 = .ok (.iload_n 2, 1) := by decide +kernel
theorem d_M_behindPart_102 : decode b_M_behindPart 102 = .ok (.iconst 1, 1) := by decide +kernel
theorem d_M_behindPart_103 : decode b_M_behindPart 103 = .ok (.if_icmp .ne 16, 3) := by decide +kernel
theorem d_M_behindPart_106 : decode b_M_behindPart 106 = .ok (.aload_n 0, 1) := by decide +kernel
theorem d_M_behindPart_107 : decode b_M_behindPart 107 = .ok (.aload_n 0, 1) := by decide +kernel
theorem d_M_behindPart_108 : decode b_M_behindPart 108 = .ok (.bipush 41, 2) := by decide +kernel
theorem d_M_behindPart_110 : decode b_M_behindPart 110 = .ok (.invokevirtual 140, 3) := by decide +kernel
theorem d_M_behindPart_113 : decode b_M_behindPart 113 = .ok (.invokevirtual 122, 3) := by decide +kernel
theorem d_M_behindPart_116 : decode b_M_behindPart 116 = .ok (.goto 48, 3) := by decide +kernel
theorem d_M_behindPart_119 : decode b_M_behindPart 119 = .ok (.aload_n 0, 1) := by decide +kernel
theorem d_M_behindPart_120 : decode b_M_behindPart 120 = .ok (.iload_n 3, 1) := by decide +kernel
theorem d_M_behindPart_121 : decode b_M_behindPart 121 = .ok (.bipush 43, 2) := by decide +kernel
theorem d_M_behindPart_123 : decode b_M_behindPart 123 = .ok (.if_icmp .eq 33, 3) := by decide +kernel
theorem d_M_behindPart_126 : decode b_M_behindPart 126 = .ok (.iload_n 3, 1) := by decide +kernel
theorem d_M_behindPart_127 : decode b_M_behindPart 127 = .ok (.bipush 45, 2) := by decide +kernel
theorem d_M_behindPart_129 : decode b_M_behindPart 129 = .ok (.if_icmp .eq 27, 3) := by decide +kernel
theorem d_M_behindPart_132 : decode b_M_behindPart 132 = .ok (.iload_n 3, 1) := by decide +kernel
theorem d_M_behindPart_133 : decode b_M_behindPart 133 = .ok (.bipush 42, 2) := by decide +kernel
theorem d_M_behindPart_135 : decode b_M_behindPart 135 = .ok (.if_icmp .eq 21, 3) := by decide +kernel
theorem d_M_behindPart_138 : decode b_M_behindPart 138 = .ok (.iload_n 3, 1) := by decide +kernel
theorem d_M_behindPart_139 : decode b_M_behindPart 139 = .ok (.bipush 47, 2) := by decide +kernel
theorem d_M_behindPart_141 : decode b_M_behindPart 141 = .ok (.if_icmp .eq 15, 3) := by decide +kernel
theorem d_M_behindPart_144 : decode b_M_behindPart 144 = .ok (.iload_n 3, 1) := by decide +kernel
theorem d_M_behindPart_145 : decode b_M_behindPart 145 = .ok (.bipush 60, 2) := by decide +kernel
theorem d_M_behindPart_147 : decode b_M_behindPart 147 = .ok (.if_icmp .eq 9, 3) := by decide +kernel
theorem d_M_behindPart_150 : decode b_M_behindPart 150 = .ok (.iload_n 3, 1) := by decide +kernel
theorem d_M_behindPart_151 : decode b_M_behindPart 151 = .ok (.bipush 61, 2) := by decide +kernel
theorem d_M_behindPart_153 : decode b_M_behindPart 153 = .ok (.if_icmp .ne 7, 3) := by decide +kernel
theorem d_M_behindPart_156 : decode b_M_behindPart 156 = .ok (.iconst 1, 1) := by decide +kernel
theorem d_M_behindPart_157 : decode b_M_behindPart 157 = .ok (.goto 4, 3) := by decide +kernel
theorem d_M_behindPart_160 : decode b_M_behindPart 160 = .ok (.iconst 0, 1) := by decide +kernel
theorem d_M_behindPart_161 : decode b_M_behindPart 161 = .ok (.invokevirtual 122, 3) := by decide +kernel
theorem d_M_behindPart_164 : decode b_M_behindPart 164 = .ok (.iload_n 2, 1) := by decide +kernel
theorem d_M_behindPart_165 : decode b_M_behindPart 165 = .ok (.iconst 1, 1) := by decide +kernel
theorem d_M_behindPart_166 : decode b_M_behindPart 166 = .ok (.if_icmp .eq 10, 3) := by decide +kernel
theorem d_M_behindPart_169 : decode b_M_behindPart 169 = .ok (.aload_n 0, 1) := by decide +kernel
theorem d_M_behindPart_170 : decode b_M_behindPart 170 = .ok (.getfield 104, 3) := by decide +kernel
theorem d_M_behindPart_173 : decode b_M_behindPart 173 = .ok (.ifCond .eq 5, 3) := by decide +kernel
theorem d_M_behindPart_176 : decode b_M_behindPart 176 = .ok (.iconst 0, 1) := by decide +kernel
theorem d_M_behindPart_177 : decode b_M_behindPart 177 = .ok (.ireturn, 1) := by decide +kernel
theorem d_M_behindPart_178 : decode b_M_behindPart 178 = .ok (.aload_n 0, 1) := by decide +kernel
theorem d_M_behindPart_179 : decode b_M_behindPart 179 = .ok (.getfield 21, 3) := by decide +kernel
theorem d_M_behindPart_182 : decode b_M_behindPart 182 = .ok (.iload_n 1, 1) := by decide +kernel
theorem d_M_behindPart_183 : decode b_M_behindPart 183 = .ok (.iload_n 3, 1) := by decide +kernel
theorem d_M_behindPart_184 : decode b_M_behindPart 184 = .ok (.iastore, 1) := by decide +kernel
theorem d_M_behindPart_185 : decode b_M_behindPart 185 = .ok (.aload_n 0, 1) := by decide +kernel
theorem d_M_behindPart_186 : decode b_M_behindPart 186 = .ok (.dup, 1) := by decide +kernel
theorem d_M_behindPart_187 : decode b_M_behindPart 187 = .ok (.getfield 108, 3) := by decide +kernel
theorem d_M_behindPart_190 : decode b_M_behindPart 190 = .ok (.iconst 1, 1) := by decide +kernel
theorem d_M_behindPart_191 : decode b_M_behindPart 191 = .ok (.iadd, 1) := by decide +kernel
theorem d_M_behindPart_192 : decode b_M_behindPart 192 = .ok (.putfield 108, 3) := by decide +kernel
theorem d_M_behindPart_195 : decode b_M_behindPart 195 = .ok (.iconst 1, 1) := by decide +kernel
theorem d_M_behindPart_196 : decode b_M_behindPart 196 = .ok (.ireturn, 1) := by decide +kernel
theorem d_M_behindPart_197 : decode b_M_behindPart 197 = .ok (.aload_n 0, 1) := by decide +kernel
theorem d_M_behindPart_198 : decode b_M_behindPart 198 = .ok (.aload_n 0, 1) := by decide +kernel
theorem d_M_behindPart_199 : decode b_M_behindPart 199 = .ok (.iload_n 2, 1) := by decide +kernel
theorem d_M_behindPart_200 : decode b_M_behindPart 200 = .ok (.ifCond .ne 8, 3) := by decide +kernel
theorem d_M_behindPart_203 : decode b_M_behindPart 203 = .ok (.bipush 40, 2) := by decide +kernel
theorem d_M_behindPart_205 : decode b_M_behindPart 205 = .ok (.goto 15, 3) := by decide +kernel
theorem d_M_behindPart_208 : decode b_M_behindPart 208 = .ok (.iload_n 2, 1) := by decide +kernel
theorem d_M_behindPart_209 : decode b_M_behindPart 209 = .ok (.iconst 1, 1) := by decide +kernel
theorem d_M_behindPart_210 : decode b_M_behindPart 210 = .ok (.if_icmp .ne 8, 3) := by decide +kernel
theorem d_M_behindPart_213 : decode b_M_behindPart 213 = .ok (.bipush 124, 2) := by decide +kernel
theorem d_M_behindPart_215 : decode b_M_behindPart 215 = .ok (.goto 5, 3) := by decide +kernel
theorem d_M_behindPart_218 : decode b_M_behindPart 218 = .ok (.bipush 41, 2) := by decide +kernel
theorem d_M_behindPart_220 : decode b_M_behindPart 220 = .ok (.invokevirtual 140, 3) := by decide +kernel
theorem d_M_behindPart_223 : decode b_M_behindPart 223 = .ok (.invokevirtual 122, 3) := by decide +kernel
theorem d_M_behindPart_226 : decode b_M_behindPart 226 = .ok (.iload_n 2, 1) := by decide +kernel
theorem d_M_behindPart_227 : decode b_M_behindPart 227 = .ok (.iconst 2, 1) := by decide +kernel
theorem d_M_behindPart_228 : decode b_M_behindPart 228 = .ok (.if_icmp .ge 7, 3) := by decide +kernel
theorem d_M_behindPart_231 : decode b_M_behindPart 231 = .ok (.iconst 1, 1) := by decide +kernel
theorem d_M_behindPart_232 : decode b_M_behindPart 232 = .ok (.goto 4, 3) := by decide +kernel
theorem d_M_behindPart_235 : decode b_M_behindPart 235 = .ok (.iconst 0, 1) := by decide +kernel
theorem d_M_behindPart_236 : decode b_M_behindPart 236 = .ok (.ireturn, 1) := by decide +kernel
theorem d_M_behindPart_237 : decode b_M_behindPart 237 = .ok (.iload_n 2, 1) := by decide +kernel
theorem d_M_behindPart_238 : decode b_M_behindPart 238 = .ok (.ifCond .ne 13, 3) := by decide +kernel
theorem d_M_behindPart_241 : decode b_M_behindPart 241 = .ok (.aload_n 0, 1) := by decide +kernel
theorem d_M_behindPart_242 : decode b_M_behindPart 242 = .ok (.aload_n 0, 1) := by decide +kernel
theorem d_M_behindPart_243 : decode b_M_behindPart 243 = .ok (.bipush 59, 2) := by decide +kernel
theorem d_M_behindPart_245 : decode b_M_behindPart 245 = .ok (.invokevirtual 140, 3) := by decide +kernel
theorem d_M_behindPart_248 : decode b_M_behindPart 248 = .ok (.invokevirtual 122, 3) := by decide +kernel
theorem d_M_behindPart_251 : decode b_M_behindPart 251 = .ok (.iload_n 2, 1) := by decide +kernel
theorem d_M_behindPart_252 : decode b_M_behindPart 252 = .ok (.ifCond .ne 7, 3) := by decide +kernel
theorem d_M_behindPart_255 : decode b_M_behindPart 255 = .ok (.iconst 1, 1) := by decide +kernel
theorem d_M_behindPart_256 : decode b_M_behindPart 256 = .ok (.goto 4, 3) := by decide +kernel
theorem d_M_behindPart_259 : decode b_M_behindPart 259 = .ok (.iconst 0, 1) := by decide +kernel
theorem d_M_behindPart_260 : decode b_M_behindPart 260 = .ok (.ireturn, 1) := by decide +kernel
theorem d_M_behindPart_261 : decode b_M_behindPart 261 = .ok (.iload_n 2, 1) := by decide +kernel
theorem d_M_behindPart_262 : decode b_M_behindPart 262 = .ok (.ifCond .ne 13, 3) := by decide +kernel
theorem d_M_behindPart_265 : decode b_M_behindPart 265 = .ok (.aload_n 0, 1) := by decide +kernel
theorem d_M_behindPart_266 : decode b_M_behindPart 266 = .ok (.aload_n 0, 1) := by decide +kernel
theorem d_M_behindPart_267 : decode b_M_behindPart 267 = .ok (.bipush 44, 2) := by decide +kernel
theorem d_M_behindPart_269 : decode b_M_behindPart 269 = .ok (.invokevirtual 140, 3) := by decide +kernel
theorem d_M_behindPart_272 : decode b_M_behindPart 272 = .ok (.invokevirtual 122, 3) := by decide +kernel
theorem d_M_behindPart_275 : decode b_M_behindPart 275 = .ok (.iload_n 2, 1) := by decide +kernel
theorem d_M_behindPart_276 : decode b_M_behindPart 276 = .ok (.ifCond .ne 7, 3) := by decide +kernel
theorem d_M_behindPart_279 : decode b_M_behindPart 279 = .ok (.iconst 1, 1) := by decide +kernel
theorem d_M_behindPart_280 : decode b_M_behindPart 280 = .ok (.goto 4, 3) := by decide +kernel
theorem d_M_behindPart_283 : decode b_M_behindPart 283 = .ok (.iconst 0, 1) := by decide +kernel
theorem d_M_behindPart_284 : decode b_M_behindPart 284 = .ok (.ireturn, 1) := by decide +kernel
theorem d_M_behindPart_285 : decode b_M_behindPart 285 = .ok (.iload_n 2, 1) := by decide +kernel
theorem d_M_behindPart_286 : decode b_M_behindPart 286 = .ok (.ifCond .ne 14, 3) := by decide +kernel
theorem d_M_behindPart_289 : decode b_M_behindPart 289 = .ok (.aload_n 0, 1) := by decide +kernel
theorem d_M_behindPart_290 : decode b_M_behindPart 290 = .ok (.bipush 44, 2) := by decide +kernel
theorem d_M_behindPart_292 : decode b_M_behindPart 292 = .ok (.invokevirtual 140, 3) := by decide +kernel
theorem d_M_behindPart_295 : decode b_M_behindPart 295 = .ok (.ifCond .eq 5, 3) := by decide +kernel
theorem d_M_behindPart_298 : decode b_M_behindPart 298 = .ok (.iconst 1, 1) := by decide +kernel
theorem d_M_behindPart_299 : decode b_M_behindPart 299 = .ok (.ireturn, 1) := by decide +kernel
theorem d_M_behindPart_300 : decode b_M_behindPart 300 = .ok (.aload_n 0, 1) := by decide +kernel
theorem d_M_behindPart_301 : decode b_M_behindPart 301 = .ok (.aload_n 0, 1) := by decide +kernel
theorem d_M_behindPart_302 : decode b_M_behindPart 302 = .ok (.bipush 93, 2) := by decide +kernel
theorem d_M_behindPart_304 : decode b_M_behindPart 304 = .ok (.invokevirtual 140, 3) := by decide +kernel
theorem d_M_behindPart_307 : decode b_M_behindPart 307 = .ok (.invokevirtual 122, 3) := by decide +kernel
theorem d_M_behindPart_310 : decode b_M_behindPart 310 = .ok (.iconst 0, 1) := by decide +kernel
theorem d_M_behindPart_311 : decode b_M_behindPart 311 = .ok (.ireturn, 1) := by decide +kernel
theorem d_M_behindPart_312 : decode b_M_behindPart 312 = .ok (.iload_n 2, 1) := by decide +kernel
theorem d_M_behindPart_313 : decode b_M_behindPart 313 = .ok (.ifCond .ne 13, 3) := by decide +kernel
theorem d_M_behindPart_316 : decode b_M_behindPart 316 = .ok (.aload_n 0, 1) := by decide +kernel
theorem d_M_behindPart_317 : decode b_M_behindPart 317 = .ok (.aload_n 0, 1) := by decide +kernel
theorem d_M_behindPart_318 : decode b_M_behindPart 318 = .ok (.bipush 44, 2) := by decide +kernel
theorem d_M_behindPart_320 : decode b_M_behindPart 320 = .ok (.invokevirtual 140, 3) := by decide +kernel
theorem d_M_behindPart_323 : decode b_M_behindPart 323 = .ok (.invokevirtual 122, 3) := by decide +kernel
theorem d_M_behindPart_326 : decode b_M_behindPart 326 = .ok (.iload_n 2, 1) := by decide +kernel
theorem d_M_behindPart_327 : decode b_M_behindPart 327 = .ok (.ifCond .eq 17, 3) := by decide +kernel
theorem d_M_behindPart_330 : decode b_M_behindPart 330 = .ok (.iload_n 2, 1) := by decide +kernel
theorem d_M_behindPart_331 : decode b_M_behindPart 331 = .ok (.iconst 1, 1) := by decide +kernel
theorem d_M_behindPart_332 : decode b_M_behindPart 332 = .ok (.if_icmp .ne 14, 3) := by decide +kernel
theorem d_M_behindPart_335 : decode b_M_behindPart 335 = .ok (.aload_n 0, 1) := by decide +kernel
theorem d_M_behindPart_336 : decode b_M_behindPart 336 = .ok (.bipush 44, 2) := by decide +kernel
theorem d_M_behindPart_338 : decode b_M_behindPart 338 = .ok (.invokevirtual 140, 3) := by decide +kernel
theorem d_M_behindPart_341 : decode b_M_behindPart 341 = .ok (.ifCond .eq 5, 3) := by decide +kernel
theorem d_M_behindPart_344 : decode b_M_behindPart 344 = .ok (.iconst 1, 1) := by decide +kernel
theorem d_M_behindPart_345 : decode b_M_behindPart 345 = .ok (.ireturn, 1) := by decide +kernel
theorem d_M_behindPart_346 : decode b_M_behindPart 346 = .ok (.aload_n 0, 1) := by decide +kernel
theorem d_M_behindPart_347 : decode b_M_behindPart 347 = .ok (.aload_n 0, 1) := by decide +kernel
theorem d_M_behindPart_348 : decode b_M_behindPart 348 = .ok (.bipush 125, 2) := by decide +kernel
theorem d_M_behindPart_350 : decode b_M_behindPart 350 = .ok (.invokevirtual 140, 3) := by decide +kernel
theorem d_M_behindPart_353 : decode b_M_behindPart 353 = .ok (.invokevirtual 122, 3) := by decide +kernel
theorem d_M_behindPart_356 : decode b_M_behindPart 356 = .ok (.iconst 0, 1) := by decide +kernel
theorem d_M_behindPart_357 : decode b_M_behindPart 357 = .ok (.ireturn, 1) := by decide +kernel
theorem d_M_behindPart_358 : decode b_M_behindPart 358 = .ok (.iload_n 2, 1) := by decide +kernel
theorem d_M_behindPart_359 : decode b_M_behindPart 359 = .ok (.iconst 3, 1) := by decide +kernel
theorem d_M_behindPart_360 : decode b_M_behindPart 360 = .ok (.if_icmp .ge 14, 3) := by decide +kernel
theorem d_M_behindPart_363 : decode b_M_behindPart 363 = .ok (.aload_n 0, 1) := by decide +kernel
theorem d_M_behindPart_364 : decode b_M_behindPart 364 = .ok (.bipush 44, 2) := by decide +kernel
theorem d_M_behindPart_366 : decode b_M_behindPart 366 = .ok (.invokevirtual 140, 3) := by decide +kernel
theorem d_M_behindPart_369 : decode b_M_behindPart 369 = .ok (.ifCond .eq 5, 3) := by decide +kernel
theorem d_M_behindPart_372 : decode b_M_behindPart 372 = .ok (.iconst 1, 1) := by decide +kernel
theorem d_M_behindPart_373 : decode b_M_behindPart 373 = .ok (.ireturn, 1) := by decide +kernel
theorem d_M_behindPart_374 : decode b_M_behindPart 374 = .ok (.aload_n 0, 1) := by decide +kernel
theorem d_M_behindPart_375 : decode b_M_behindPart 375 = .ok (.aload_n 0, 1) := by decide +kernel
theorem d_M_behindPart_376 : decode b_M_behindPart 376 = .ok (.bipush 41, 2) := by decide +kernel
theorem d_M_behindPart_378 : decode b_M_behindPart 378 = .ok (.invokevirtual 140, 3) := by decide +kernel
theorem d_M_behindPart_381 : decode b_M_behindPart 381 = .ok (.invokevirtual 122, 3) := by decide +kernel
theorem d_M_behindPart_384 : decode b_M_behindPart 384 = .ok (.iconst 0, 1) := by decide +kernel
theorem d_M_behindPart_385 : decode b_M_behindPart 385 = .ok (.ireturn, 1) := by decide +kernel
theorem d_M_behindPart_386 : decode b_M_behindPart 386 = .ok (.iconst 0, 1) := by decide +kernel
theorem d_M_behindPart_387 : decode b_M_behindPart 387 = .ok (.ireturn, 1) := by decide +kernel
section MBP
variable {G : zG} {l : Launch} {n : Nat} {σ : zS} {S S0 : mS} {A : mA} {L : mL} {rn : Int64} {T : Nat → Int32} {z op i j K0 k0 : Nat} {s : rS}
theorem mRd_add {S' : mS} {q : Nat} (h : mRd S0 s op S A) (h4 : S' 4 = nI q) (h5 : S' 5 = 0) (hk : ∀ k, k ≠ 4 → k ≠ 5 → S' k = S k) : mRd S0 (q, (rAdd i j s).2) op S' (va_up A 90 (upd (A 90) (1200 + i) (A 90 (1200 + i) + 1))) := by
  obtain ⟨g1, g2, g3, g4, g5, g6⟩ := h
  refine ⟨h4, h5, (hk 12 (by decide) (by decide)).trans g3, (hk 19 (by decide) (by decide)).trans g4, fun k a b c d => (hk k a b).trans (g5 k a b c d), fun a h1 h2 => ?_⟩
  show va_up A 90 _ a = va_up s.2.2.1 90 _ a
  by_cases q90 : a = 90
  · subst q90
    rw [va_up_self, va_up_self, g6 90 h1 h2]
  · rw [va_up_ne _ _ q90, va_up_ne _ _ q90, g6 a h1 h2]
theorem mRd_op {S' : mS} {c : Int32} (h : mRd S0 s op S A) (h4 : S' 4 = nI (s.1 + 1)) (h5 : S' 5 = 0) (hk : ∀ k, k ≠ 4 → k ≠ 5 → S' k = S k) : mRd S0 (rOp i c (rAdd i j s)) op S' (va_up (va_up A 90 (upd (A 90) (1200 + i) (A 90 (1200 + i) + 1))) 88 (upd (A 88) (1200 + i) c)) := by
  obtain ⟨g1, g2, g3, g4, g5, g6⟩ := h
  refine ⟨h4, h5, (hk 12 (by decide) (by decide)).trans g3, (hk 19 (by decide) (by decide)).trans g4, fun k a b c d => (hk k a b).trans (g5 k a b c d), fun a h1 h2 => ?_⟩
  show va_up (va_up A 90 (upd (A 90) (1200 + i) (A 90 (1200 + i) + 1))) 88 _ a = va_up (va_up s.2.2.1 90 _) 88 (upd (s.2.2.1 88) (1200 + i) c) a
  by_cases q88 : a = 88
  · subst q88
    rw [va_up_self, va_up_self, g6 88 h1 h2]
  · rw [va_up_ne _ _ q88, va_up_ne _ _ q88]
    by_cases q90 : a = 90
    · subst q90
      rw [va_up_self, va_up_self, g6 90 h1 h2]
    · rw [va_up_ne _ _ q90, va_up_ne _ _ q90, g6 a h1 h2]
theorem nI_p1 (a : Nat) : nI (a + 1) - 1 = nI a := by rw [← nI_1, Int32.add_sub_cancel]
/-- what stands behind a part leaves -/
def pPost (S0 : mS) (s : rS) (op n : Nat) (A : mA) (L : mL) (rn : Int64) (σ : zS) (h : rBO) : zPost := fun o n' σ' => n' = n ∧ ∃ S' A', σ' = mOv S' A' L rn σ ∧ match h with
  | .inl q => (∃ v, narrow .boolean (.int v) = .int v ∧ o = .returned (some (.int v))) ∧ mIl S0 s.2.2.1 q S' A'
  | .inr (.inl b) => o = .returned (some (.int 1)) ∧ mRd S0 b op S' A' ∧ A' 98 = A 98
  | .inr (.inr b) => o = .returned (some (.int 0)) ∧ mRd S0 b op S' A' ∧ A' 98 = A 98
theorem c_M_behindPart (hn : 113 ≤ n) (h : mRd S0 s (op + 1) S A) (ht : mTz T z S0 s) (ho : op < 8) (hi : i < s.2.1) (h98 : A 98 op = nI (1200 + i)) (h87 : s.2.2.1 87 (1200 + i) = nI K0) (h90 : s.2.2.1 90 (1200 + i) = nI k0) (hk : kOK K0 k0) : MetZ G l y_M_behindPart b_M_behindPart 4 (some .boolean) [] 2 0 0 [.ref 85] n (mOv S A L rn σ) (pPost S0 s (op + 1) n A L rn σ (rBehO T z K0 k0 i (rAdd i j s))) := by
  have h0 := h
  obtain ⟨h4, h5, h12, h19, hk0, hA0⟩ := h
  obtain ⟨t2, hz, hpz, hN, hT, hch⟩ := ht
  have hA86 : A 86 = T := (hA0 86 (by decide) (by decide)).trans hT
  have t2' : S 2 = nI z := (hk0 2 (by decide) (by decide) (by decide) (by decide)).trans t2
  have a87 : A 87 (1200 + i) = nI K0 := by rw [hA0 87 (by decide) (by decide)]; exact h87
  have a90 : A 90 (1200 + i) = nI k0 := by rw [hA0 90 (by decide) (by decide)]; exact h90
  obtain ⟨hd, hhd⟩ : ∃ x, rBehO T z K0 k0 i (rAdd i j s) = x := ⟨_, rfl⟩
  rw [hhd]
  unfold rBehO at hhd
  rw [show (rAdd i j s).1 = s.1 from rfl] at hhd
  refine MetZ.of (by decide) (Nat.le_of_ble_eq_true rfl) (fun K hK hR hpo hmc hms C => ?_)
  have hTx : mTx S (va_up A 90 (upd (A 90) (1200 + i) (A 90 (1200 + i) + 1))) s.1 z := ⟨h4, t2', hz, by omega, by show ∀ i, i < 150 → narrow .char (.int (A 86 i)) = .int (A 86 i); rw [hA86]; exact hch⟩
  have hml : mlk S (va_up A 90 (upd (A 90) (1200 + i) (A 90 (1200 + i) + 1))) s.1 z = rlk T z s.1 := mlk_0 hA86 h5
  have TK := fun c => c_M_takes (G := G) (l := kl K) (L := L) (rn := rn) (σ := σ) hn hTx c
  rw [hml, h4, nI_1] at TK
  have hil : ∀ (S' : mS) (A' : mA), S' 4 = nI s.1 → S' 5 = 1 → (∀ k, k ≠ 4 → k ≠ 5 → S' k = S k) → A' = (va_up A 90 (upd (A 90) (1200 + i) (A 90 (1200 + i) + 1))) → mIl S0 s.2.2.1 s.1 S' A' := fun S' A' g4 g5 gk gA => mIl_mk h0 g4 g5 (fun k a b _ _ => gk k a b) (fun a k h1 h2 h3 => by rw [gA]; exact vu_ne (by omega))
  refine z_aload_n C 1 d_M_behindPart_0 rfl rfl ?_
  refine zm_get C 4 f_M_52 d_M_behindPart_1 rfl hn rfl ?_
  refine z_aload_n C 5 d_M_behindPart_4 rfl rfl ?_
  refine zm_get C 8 f_M_129 d_M_behindPart_5 rfl hn rfl ?_
  rw [h19]
  refine z_iconst C 9 d_M_behindPart_8 rfl 1 (by decide) ?_
  refine z_isub C 10 d_M_behindPart_9 rfl ?_
  rw [nI_p1]
  refine zm_iald C 11 op d_M_behindPart_10 rfl hn (by decide) (by decide) (by decide) rfl (by show op < 80; omega) (by decide) ?_
  rw [h98]
  refine z_istore_n C 12 d_M_behindPart_11 rfl (by decide) ?_
  refine z_aload_n C 13 d_M_behindPart_12 rfl rfl ?_
  refine zm_get C 16 f_M_27 d_M_behindPart_13 rfl hn rfl ?_
  refine z_iload_n C 17 d_M_behindPart_16 rfl rfl ?_
  refine zm_iald C 18 (1200+i) d_M_behindPart_17 rfl hn (by decide) (by decide) (by decide) rfl (by show 1200 + i < 1350; omega) (by decide) ?_
  rw [a90]
  refine z_istore_n C 19 d_M_behindPart_18 rfl (by decide) ?_
  refine z_aload_n C 20 d_M_behindPart_19 rfl rfl ?_
  refine zm_get C 23 f_M_27 d_M_behindPart_20 rfl hn rfl ?_
  refine z_iload_n C 24 d_M_behindPart_23 rfl rfl ?_
  refine z_dup2_11 C 25 d_M_behindPart_24 rfl rfl rfl ?_
  refine zm_iald C 26 (1200+i) d_M_behindPart_25 rfl hn (by decide) (by decide) (by decide) rfl (by show 1200 + i < 1350; omega) (by decide) ?_
  refine z_iconst C 27 d_M_behindPart_26 rfl 1 (by decide) ?_
  refine z_iadd C 28 d_M_behindPart_27 rfl ?_
  refine zm_iast C 29 (1200+i) d_M_behindPart_28 rfl hn (by decide) (by decide) (by decide) rfl (by show 1200 + i < 1350; omega) (by decide) ?_
  refine z_aload_n C 30 d_M_behindPart_29 rfl rfl ?_
  refine zm_get C 33 f_M_17 d_M_behindPart_30 rfl hn rfl ?_
  refine z_iload_n C 34 d_M_behindPart_33 rfl rfl ?_
  refine zm_iald C 35 (1200+i) d_M_behindPart_34 rfl hn (by decide) (by decide) (by decide) rfl (by show 1200 + i < 1350; omega) (by decide) ?_
  rw [show (va_up A 90 (upd (A 90) (1200 + i) (A 90 (1200 + i) + 1))) 87 (1200 + i) = nI K0 from a87]
  obtain ⟨hK, k2, k3, k4, k5, k6, k7, k8, k12, k13⟩ := hk

  rcases hK with rfl | rfl | rfl | rfl | rfl | rfl | rfl | rfl | rfl
  · rw [if_pos rfl] at hhd
    refine z_tableIn C 96 d_M_behindPart_35 (by decide) (by decide) (off := 61) (by decide) (by decide) ?_
    have hkc : k0 = 0 ∨ k0 = 1 := by omega
    rcases hkc with rfl | rfl
    · rw [show (nI 0 : Int32) = 0 from rfl]
      rw [if_pos rfl] at hhd
      refine z_aload_n C 97 d_M_behindPart_96 rfl rfl ?_
      have LK := c_M_look (G := G) (l := kl K) (L := L) (rn := rn) (σ := σ) hn hTx
      rw [hml] at LK
      refine z_call C 100 (LK) w_M_look ini_M d_M_behindPart_97 rfl (z_goV (As := []) C l_M_114 w_M_look d_M_behindPart_97 (by omega) rfl rfl rfl) (Nat.le_of_ble_eq_true rfl) (by rw [hR]; simp only [zRm]; omega) (by rw [hR]; simp only [zRm]; omega) (by rw [hR]; simp only [zRm]; omega) (by rw [hR]; simp only [zRm]; omega) (fun v n' σ' hv => ?_) (fun x n' σ' hv => ?_)
      rotate_left
      · cases hv.1
      obtain ⟨e0, e1, rfl⟩ := hv
      cases e0
      obtain rfl : n = n' := e1.symm
      refine z_istore_n C 101 d_M_behindPart_100 rfl (by decide) ?_
      refine z_iload_n C 102 d_M_behindPart_101 rfl rfl ?_
      refine z_iconst C 103 d_M_behindPart_102 rfl 1 (by decide) ?_
      refine z_icmp_ne C 106 119 d_M_behindPart_103 rfl (by decide) (fun _ => ?_) (fun h9 => absurd h9 (show ¬ (0 : Int32) = 1 by decide))
      obtain ⟨c, hc⟩ : ∃ x, rlk T z s.1 = x := ⟨_, rfl⟩
      rw [hc] at hhd ⊢
      have yes : c ≠ 0 → rIsOp c = true → Z G K n (mOv S (va_up A 90 (upd (A 90) (1200 + i) (A 90 (1200 + i) + 1))) L rn σ) 0 0 156 [(3, .int c), (2, .int 0), (1, .int (nI (1200 + i))), (0, .ref 85)] [.ref 85] := fun hc0 hop => by
        rw [if_pos hop] at hhd
        refine z_iconst C 157 d_M_behindPart_156 rfl 1 (by decide) ?_
        refine z_goto C 161 d_M_behindPart_157 (by decide) ?_
        refine z_call C 164 (c_M_want hn 1) w_M_want ini_M d_M_behindPart_161 rfl (z_goV (As := [.int 1]) C l_M_122 w_M_want d_M_behindPart_161 (by omega) rfl rfl rfl) (Nat.le_of_ble_eq_true rfl) (by rw [hR]; simp only [zRm]; omega) (by rw [hR]; simp only [zRm]; omega) (by rw [hR]; simp only [zRm]; omega) (by rw [hR]; simp only [zRm]; omega) (fun v n' σ' hv => ?_) (fun x n' σ' hv => ?_)
        rotate_left
        · cases hv.1
        obtain ⟨e0, e1, rfl⟩ := hv
        cases e0
        obtain rfl : n = n' := e1.symm
        rw [if_neg (show ¬ (1 : Int32) = 0 by decide)]
        refine z_iload_n C 165 d_M_behindPart_164 rfl rfl ?_
        refine z_iconst C 166 d_M_behindPart_165 rfl 1 (by decide) ?_
        refine z_icmp_eq C 169 176 d_M_behindPart_166 rfl (by decide) (fun h9 => absurd h9 (show ¬ (0 : Int32) = 1 by decide)) (fun _ => ?_)
        refine z_aload_n C 170 d_M_behindPart_169 rfl rfl ?_
        refine zm_get C 173 f_M_104 d_M_behindPart_170 rfl hn rfl ?_
        refine z_if_eq C 176 178 d_M_behindPart_173 rfl (by decide) (fun _ => ?_) (fun h9 => absurd h5 h9)
        refine z_aload_n C 179 d_M_behindPart_178 rfl rfl ?_
        refine zm_get C 182 f_M_21 d_M_behindPart_179 rfl hn rfl ?_
        refine z_iload_n C 183 d_M_behindPart_182 rfl rfl ?_
        refine z_iload_n C 184 d_M_behindPart_183 rfl rfl ?_
        refine zm_iast C 185 (1200+i) d_M_behindPart_184 rfl hn (by decide) (by decide) (by decide) rfl (by show 1200 + i < 1350; omega) (by decide) ?_
        refine z_aload_n C 186 d_M_behindPart_185 rfl rfl ?_
        refine z_dup C 187 d_M_behindPart_186 rfl rfl ?_
        refine zm_get C 190 f_M_108 d_M_behindPart_187 rfl hn rfl ?_
        rw [h4]
        refine z_iconst C 191 d_M_behindPart_190 rfl 1 (by decide) ?_
        refine z_iadd C 192 d_M_behindPart_191 rfl ?_
        rw [nI_1]
        refine zm_puti C 195 p_M_108 d_M_behindPart_192 rfl hn (by decide) (rfl) rfl rfl ?_
        refine z_iconst C 196 d_M_behindPart_195 rfl 1 (by decide) ?_
        exact z_zret C rfl (rfl) d_M_behindPart_196 (by rw [hpo]; exact (by rw [← hhd]; exact ⟨rfl, _, _, rfl, rfl, mRd_op h0 rfl h5 (fun k a b => by simp only [upd, if_neg a, if_neg b]), rfl⟩)) (by rw [hmc]; omega) (by rw [hms]; omega)
      have no : rIsOp c = false → Z G K n (mOv S (va_up A 90 (upd (A 90) (1200 + i) (A 90 (1200 + i) + 1))) L rn σ) 0 0 160 [(3, .int c), (2, .int 0), (1, .int (nI (1200 + i))), (0, .ref 85)] [.ref 85] := fun hop => by
        rw [if_neg (by rw [hop]; decide)] at hhd
        refine z_iconst C 161 d_M_behindPart_160 rfl 0 (by decide) ?_
        refine z_call C 164 (c_M_want hn 0) w_M_want ini_M d_M_behindPart_161 rfl (z_goV (As := [.int 0]) C l_M_122 w_M_want d_M_behindPart_161 (by omega) rfl rfl rfl) (Nat.le_of_ble_eq_true rfl) (by rw [hR]; simp only [zRm]; omega) (by rw [hR]; simp only [zRm]; omega) (by rw [hR]; simp only [zRm]; omega) (by rw [hR]; simp only [zRm]; omega) (fun v n' σ' hv => ?_) (fun x n' σ' hv => ?_)
        rotate_left
        · cases hv.1
        obtain ⟨e0, e1, rfl⟩ := hv
        cases e0
        obtain rfl : n = n' := e1.symm
        rw [if_pos (show (0 : Int32) = 0 from rfl)]
        refine z_iload_n C 165 d_M_behindPart_164 rfl rfl ?_
        refine z_iconst C 166 d_M_behindPart_165 rfl 1 (by decide) ?_
        refine z_icmp_eq C 169 176 d_M_behindPart_166 rfl (by decide) (fun h9 => absurd h9 (show ¬ (0 : Int32) = 1 by decide)) (fun _ => ?_)
        refine z_aload_n C 170 d_M_behindPart_169 rfl rfl ?_
        refine zm_get C 173 f_M_104 d_M_behindPart_170 rfl hn rfl ?_
        refine z_if_eq C 176 178 d_M_behindPart_173 rfl (by decide) (fun h9 => absurd h9 (show ¬ (1 : Int32) = 0 by decide)) (fun _ => ?_)
        refine z_iconst C 177 d_M_behindPart_176 rfl 0 (by decide) ?_
        exact z_zret C rfl (rfl) d_M_behindPart_177 (by rw [hpo]; exact (by rw [← hhd]; exact ⟨rfl, _, _, rfl, ⟨_, rfl, rfl⟩, hil _ _ h4 rfl (fun k a b => by simp only [upd, if_neg a, if_neg b]) rfl⟩)) (by rw [hmc]; omega) (by rw [hms]; omega)
      refine z_aload_n C 120 d_M_behindPart_119 rfl rfl ?_
      refine z_iload_n C 121 d_M_behindPart_120 rfl rfl ?_
      refine z_bipush C 123 d_M_behindPart_121 rfl 43 (by decide) ?_
      refine z_icmp_eq C 126 156 d_M_behindPart_123 rfl (by decide) (fun g43 => ?_) (fun g43 => ?_)
      · rw [g43] at yes ⊢
        exact yes (by decide) (by decide)
      refine z_iload_n C 127 d_M_behindPart_126 rfl rfl ?_
      refine z_bipush C 129 d_M_behindPart_127 rfl 45 (by decide) ?_
      refine z_icmp_eq C 132 156 d_M_behindPart_129 rfl (by decide) (fun g45 => ?_) (fun g45 => ?_)
      · rw [g45] at yes ⊢
        exact yes (by decide) (by decide)
      refine z_iload_n C 133 d_M_behindPart_132 rfl rfl ?_
      refine z_bipush C 135 d_M_behindPart_133 rfl 42 (by decide) ?_
      refine z_icmp_eq C 138 156 d_M_behindPart_135 rfl (by decide) (fun g42 => ?_) (fun g42 => ?_)
      · rw [g42] at yes ⊢
        exact yes (by decide) (by decide)
      refine z_iload_n C 139 d_M_behindPart_138 rfl rfl ?_
      refine z_bipush C 141 d_M_behindPart_139 rfl 47 (by decide) ?_
      refine z_icmp_eq C 144 156 d_M_behindPart_141 rfl (by decide) (fun g47 => ?_) (fun g47 => ?_)
      · rw [g47] at yes ⊢
        exact yes (by decide) (by decide)
      refine z_iload_n C 145 d_M_behindPart_144 rfl rfl ?_
      refine z_bipush C 147 d_M_behindPart_145 rfl 60 (by decide) ?_
      refine z_icmp_eq C 150 156 d_M_behindPart_147 rfl (by decide) (fun g60 => ?_) (fun g60 => ?_)
      · rw [g60] at yes ⊢
        exact yes (by decide) (by decide)
      refine z_iload_n C 151 d_M_behindPart_150 rfl rfl ?_
      refine z_bipush C 153 d_M_behindPart_151 rfl 61 (by decide) ?_
      refine z_icmp_ne C 156 160 d_M_behindPart_153 rfl (by decide) (fun g61 => ?_) (fun g61 => ?_)
      · refine no ?_
        unfold rIsOp
        rw [beq_false_of_ne g43, beq_false_of_ne g45, beq_false_of_ne g42, beq_false_of_ne g47, beq_false_of_ne g60, beq_false_of_ne g61]
        rfl
      · rw [g61] at yes ⊢
        exact yes (by decide) (by decide)
    · rw [show (nI 1 : Int32) = 1 from rfl]
      rw [if_neg (show ¬ (1 : Nat) = 0 by decide)] at hhd
      refine z_aload_n C 97 d_M_behindPart_96 rfl rfl ?_
      have LK := c_M_look (G := G) (l := kl K) (L := L) (rn := rn) (σ := σ) hn hTx
      rw [hml] at LK
      refine z_call C 100 (LK) w_M_look ini_M d_M_behindPart_97 rfl (z_goV (As := []) C l_M_114 w_M_look d_M_behindPart_97 (by omega) rfl rfl rfl) (Nat.le_of_ble_eq_true rfl) (by rw [hR]; simp only [zRm]; omega) (by rw [hR]; simp only [zRm]; omega) (by rw [hR]; simp only [zRm]; omega) (by rw [hR]; simp only [zRm]; omega) (fun v n' σ' hv => ?_) (fun x n' σ' hv => ?_)
      rotate_left
      · cases hv.1
      obtain ⟨e0, e1, rfl⟩ := hv
      cases e0
      obtain rfl : n = n' := e1.symm
      refine z_istore_n C 101 d_M_behindPart_100 rfl (by decide) ?_
      refine z_iload_n C 102 d_M_behindPart_101 rfl rfl ?_
      refine z_iconst C 103 d_M_behindPart_102 rfl 1 (by decide) ?_
      refine z_icmp_ne C 106 119 d_M_behindPart_103 rfl (by decide) (fun h9 => absurd (show (1 : Int32) = 1 from rfl) h9) (fun _ => ?_)
      by_cases r1 : rlk T z s.1 = 41
      · rw [rTk, if_pos (show rlk T z (rAdd i j s).1 = 41 from r1)] at hhd
        refine z_aload_n C 107 d_M_behindPart_106 rfl rfl ?_
        refine z_aload_n C 108 d_M_behindPart_107 rfl rfl ?_
        refine z_bipush C 110 d_M_behindPart_108 rfl 41 (by decide) ?_
        have TK1 := TK 41
        rw [if_pos r1, if_pos r1] at TK1
        refine z_call C 113 (TK1) w_M_takes ini_M d_M_behindPart_110 rfl (z_goV (As := [.int 41]) C l_M_140 w_M_takes d_M_behindPart_110 (by omega) rfl rfl rfl) (Nat.le_of_ble_eq_true rfl) (by rw [hR]; simp only [zRm]; omega) (by rw [hR]; simp only [zRm]; omega) (by rw [hR]; simp only [zRm]; omega) (by rw [hR]; simp only [zRm]; omega) (fun v n' σ' hv => ?_) (fun x n' σ' hv => ?_)
        rotate_left
        · cases hv.1
        obtain ⟨e0, e1, rfl⟩ := hv
        cases e0
        obtain rfl : n = n' := e1.symm
        refine z_call C 116 (c_M_want hn 1) w_M_want ini_M d_M_behindPart_113 rfl (z_goV (As := [.int 1]) C l_M_122 w_M_want d_M_behindPart_113 (by omega) rfl rfl rfl) (Nat.le_of_ble_eq_true rfl) (by rw [hR]; simp only [zRm]; omega) (by rw [hR]; simp only [zRm]; omega) (by rw [hR]; simp only [zRm]; omega) (by rw [hR]; simp only [zRm]; omega) (fun v n' σ' hv => ?_) (fun x n' σ' hv => ?_)
        rotate_left
        · cases hv.1
        obtain ⟨e0, e1, rfl⟩ := hv
        cases e0
        obtain rfl : n = n' := e1.symm
        rw [if_neg (show ¬ (1 : Int32) = 0 by decide)]
        refine z_goto C 164 d_M_behindPart_116 (by decide) ?_
        refine z_iload_n C 165 d_M_behindPart_164 rfl rfl ?_
        refine z_iconst C 166 d_M_behindPart_165 rfl 1 (by decide) ?_
        refine z_icmp_eq C 169 176 d_M_behindPart_166 rfl (by decide) (fun _ => ?_) (fun h9 => absurd (show (1 : Int32) = 1 from rfl) h9)
        refine z_iconst C 177 d_M_behindPart_176 rfl 0 (by decide) ?_
        exact z_zret C rfl (rfl) d_M_behindPart_177 (by rw [hpo]; exact (by rw [← hhd]; exact ⟨rfl, _, _, rfl, rfl, mRd_add h0 rfl h5 (fun k a b => by simp only [upd, if_neg a, if_neg b]), rfl⟩)) (by rw [hmc]; omega) (by rw [hms]; omega)
      · rw [rTk, if_neg (show ¬ rlk T z (rAdd i j s).1 = 41 from r1)] at hhd
        refine z_aload_n C 107 d_M_behindPart_106 rfl rfl ?_
        refine z_aload_n C 108 d_M_behindPart_107 rfl rfl ?_
        refine z_bipush C 110 d_M_behindPart_108 rfl 41 (by decide) ?_
        have TK1 := TK 41
        rw [if_neg r1, if_neg r1] at TK1
        refine z_call C 113 (TK1) w_M_takes ini_M d_M_behindPart_110 rfl (z_goV (As := [.int 41]) C l_M_140 w_M_takes d_M_behindPart_110 (by omega) rfl rfl rfl) (Nat.le_of_ble_eq_true rfl) (by rw [hR]; simp only [zRm]; omega) (by rw [hR]; simp only [zRm]; omega) (by rw [hR]; simp only [zRm]; omega) (by rw [hR]; simp only [zRm]; omega) (fun v n' σ' hv => ?_) (fun x n' σ' hv => ?_)
        rotate_left
        · cases hv.1
        obtain ⟨e0, e1, rfl⟩ := hv
        cases e0
        obtain rfl : n = n' := e1.symm
        refine z_call C 116 (c_M_want hn 0) w_M_want ini_M d_M_behindPart_113 rfl (z_goV (As := [.int 0]) C l_M_122 w_M_want d_M_behindPart_113 (by omega) rfl rfl rfl) (Nat.le_of_ble_eq_true rfl) (by rw [hR]; simp only [zRm]; omega) (by rw [hR]; simp only [zRm]; omega) (by rw [hR]; simp only [zRm]; omega) (by rw [hR]; simp only [zRm]; omega) (fun v n' σ' hv => ?_) (fun x n' σ' hv => ?_)
        rotate_left
        · cases hv.1
        obtain ⟨e0, e1, rfl⟩ := hv
        cases e0
        obtain rfl : n = n' := e1.symm
        rw [if_pos (show (0 : Int32) = 0 from rfl)]
        refine z_goto C 164 d_M_behindPart_116 (by decide) ?_
        refine z_iload_n C 165 d_M_behindPart_164 rfl rfl ?_
        refine z_iconst C 166 d_M_behindPart_165 rfl 1 (by decide) ?_
        refine z_icmp_eq C 169 176 d_M_behindPart_166 rfl (by decide) (fun _ => ?_) (fun h9 => absurd (show (1 : Int32) = 1 from rfl) h9)
        refine z_iconst C 177 d_M_behindPart_176 rfl 0 (by decide) ?_
        exact z_zret C rfl (rfl) d_M_behindPart_177 (by rw [hpo]; exact (by rw [← hhd]; exact ⟨rfl, _, _, rfl, ⟨_, rfl, rfl⟩, hil _ _ h4 rfl (fun k a b => by simp only [upd, if_neg a, if_neg b]) rfl⟩)) (by rw [hmc]; omega) (by rw [hms]; omega)
  · rw [if_neg (show ¬ (3 : Nat) = 2 by decide), if_pos rfl] at hhd
    refine z_tableIn C 197 d_M_behindPart_35 (by decide) (by decide) (off := 162) (by decide) (by decide) ?_
    have hkc : k0 = 0 ∨ k0 = 1 ∨ k0 = 2 := by omega
    rcases hkc with rfl | rfl | rfl
    · rw [show (nI 0 : Int32) = 0 from rfl]
      rw [if_pos rfl] at hhd
      by_cases r1 : rlk T z s.1 = 40
      · rw [rTk, if_pos (show rlk T z (rAdd i j s).1 = 40 from r1)] at hhd
        refine z_aload_n C 198 d_M_behindPart_197 rfl rfl ?_
        refine z_aload_n C 199 d_M_behindPart_198 rfl rfl ?_
        refine z_iload_n C 200 d_M_behindPart_199 rfl rfl ?_
        refine z_if_ne C 203 208 d_M_behindPart_200 rfl (by decide) (fun h9 => absurd (show (0 : Int32) = 0 from rfl) h9) (fun _ => ?_)
        refine z_bipush C 205 d_M_behindPart_203 rfl 40 (by decide) ?_
        refine z_goto C 220 d_M_behindPart_205 (by decide) ?_
        have TK1 := TK 40
        rw [if_pos r1, if_pos r1] at TK1
        refine z_call C 223 (TK1) w_M_takes ini_M d_M_behindPart_220 rfl (z_goV (As := [.int 40]) C l_M_140 w_M_takes d_M_behindPart_220 (by omega) rfl rfl rfl) (Nat.le_of_ble_eq_true rfl) (by rw [hR]; simp only [zRm]; omega) (by rw [hR]; simp only [zRm]; omega) (by rw [hR]; simp only [zRm]; omega) (by rw [hR]; simp only [zRm]; omega) (fun v n' σ' hv => ?_) (fun x n' σ' hv => ?_)
        rotate_left
        · cases hv.1
        obtain ⟨e0, e1, rfl⟩ := hv
        cases e0
        obtain rfl : n = n' := e1.symm
        refine z_call C 226 (c_M_want hn 1) w_M_want ini_M d_M_behindPart_223 rfl (z_goV (As := [.int 1]) C l_M_122 w_M_want d_M_behindPart_223 (by omega) rfl rfl rfl) (Nat.le_of_ble_eq_true rfl) (by rw [hR]; simp only [zRm]; omega) (by rw [hR]; simp only [zRm]; omega) (by rw [hR]; simp only [zRm]; omega) (by rw [hR]; simp only [zRm]; omega) (fun v n' σ' hv => ?_) (fun x n' σ' hv => ?_)
        rotate_left
        · cases hv.1
        obtain ⟨e0, e1, rfl⟩ := hv
        cases e0
        obtain rfl : n = n' := e1.symm
        rw [if_neg (show ¬ (1 : Int32) = 0 by decide)]
        refine z_iload_n C 227 d_M_behindPart_226 rfl rfl ?_
        refine z_iconst C 228 d_M_behindPart_227 rfl 2 (by decide) ?_
        refine z_icmp_ge C 231 235 d_M_behindPart_228 rfl (by decide) (fun h9 => absurd h9 (show ¬ (2 : Int32) ≤ 0 by decide)) (fun _ => ?_)
        refine z_iconst C 232 d_M_behindPart_231 rfl 1 (by decide) ?_
        refine z_goto C 236 d_M_behindPart_232 (by decide) ?_
        exact z_zret C rfl (rfl) d_M_behindPart_236 (by rw [hpo]; exact (by rw [← hhd]; exact ⟨rfl, _, _, rfl, rfl, mRd_add h0 rfl h5 (fun k a b => by simp only [upd, if_neg a, if_neg b]), rfl⟩)) (by rw [hmc]; omega) (by rw [hms]; omega)
      · rw [rTk, if_neg (show ¬ rlk T z (rAdd i j s).1 = 40 from r1)] at hhd
        refine z_aload_n C 198 d_M_behindPart_197 rfl rfl ?_
        refine z_aload_n C 199 d_M_behindPart_198 rfl rfl ?_
        refine z_iload_n C 200 d_M_behindPart_199 rfl rfl ?_
        refine z_if_ne C 203 208 d_M_behindPart_200 rfl (by decide) (fun h9 => absurd (show (0 : Int32) = 0 from rfl) h9) (fun _ => ?_)
        refine z_bipush C 205 d_M_behindPart_203 rfl 40 (by decide) ?_
        refine z_goto C 220 d_M_behindPart_205 (by decide) ?_
        have TK1 := TK 40
        rw [if_neg r1, if_neg r1] at TK1
        refine z_call C 223 (TK1) w_M_takes ini_M d_M_behindPart_220 rfl (z_goV (As := [.int 40]) C l_M_140 w_M_takes d_M_behindPart_220 (by omega) rfl rfl rfl) (Nat.le_of_ble_eq_true rfl) (by rw [hR]; simp only [zRm]; omega) (by rw [hR]; simp only [zRm]; omega) (by rw [hR]; simp only [zRm]; omega) (by rw [hR]; simp only [zRm]; omega) (fun v n' σ' hv => ?_) (fun x n' σ' hv => ?_)
        rotate_left
        · cases hv.1
        obtain ⟨e0, e1, rfl⟩ := hv
        cases e0
        obtain rfl : n = n' := e1.symm
        refine z_call C 226 (c_M_want hn 0) w_M_want ini_M d_M_behindPart_223 rfl (z_goV (As := [.int 0]) C l_M_122 w_M_want d_M_behindPart_223 (by omega) rfl rfl rfl) (Nat.le_of_ble_eq_true rfl) (by rw [hR]; simp only [zRm]; omega) (by rw [hR]; simp only [zRm]; omega) (by rw [hR]; simp only [zRm]; omega) (by rw [hR]; simp only [zRm]; omega) (fun v n' σ' hv => ?_) (fun x n' σ' hv => ?_)
        rotate_left
        · cases hv.1
        obtain ⟨e0, e1, rfl⟩ := hv
        cases e0
        obtain rfl : n = n' := e1.symm
        rw [if_pos (show (0 : Int32) = 0 from rfl)]
        refine z_iload_n C 227 d_M_behindPart_226 rfl rfl ?_
        refine z_iconst C 228 d_M_behindPart_227 rfl 2 (by decide) ?_
        refine z_icmp_ge C 231 235 d_M_behindPart_228 rfl (by decide) (fun h9 => absurd h9 (show ¬ (2 : Int32) ≤ 0 by decide)) (fun _ => ?_)
        refine z_iconst C 232 d_M_behindPart_231 rfl 1 (by decide) ?_
        refine z_goto C 236 d_M_behindPart_232 (by decide) ?_
        exact z_zret C rfl (rfl) d_M_behindPart_236 (by rw [hpo]; exact (by rw [← hhd]; exact ⟨rfl, _, _, rfl, ⟨_, rfl, rfl⟩, hil _ _ h4 rfl (fun k a b => by simp only [upd, if_neg a, if_neg b]) rfl⟩)) (by rw [hmc]; omega) (by rw [hms]; omega)
    · rw [show (nI 1 : Int32) = 1 from rfl]
      rw [if_neg (show ¬ (1 : Nat) = 0 by decide), if_pos rfl] at hhd
      by_cases r1 : rlk T z s.1 = 124
      · rw [rTk, if_pos (show rlk T z (rAdd i j s).1 = 124 from r1)] at hhd
        refine z_aload_n C 198 d_M_behindPart_197 rfl rfl ?_
        refine z_aload_n C 199 d_M_behindPart_198 rfl rfl ?_
        refine z_iload_n C 200 d_M_behindPart_199 rfl rfl ?_
        refine z_if_ne C 203 208 d_M_behindPart_200 rfl (by decide) (fun _ => ?_) (fun h9 => absurd h9 (show ¬ (1 : Int32) = 0 by decide))
        refine z_iload_n C 209 d_M_behindPart_208 rfl rfl ?_
        refine z_iconst C 210 d_M_behindPart_209 rfl 1 (by decide) ?_
        refine z_icmp_ne C 213 218 d_M_behindPart_210 rfl (by decide) (fun h9 => absurd (show (1 : Int32) = 1 from rfl) h9) (fun _ => ?_)
        refine z_bipush C 215 d_M_behindPart_213 rfl 124 (by decide) ?_
        refine z_goto C 220 d_M_behindPart_215 (by decide) ?_
        have TK1 := TK 124
        rw [if_pos r1, if_pos r1] at TK1
        refine z_call C 223 (TK1) w_M_takes ini_M d_M_behindPart_220 rfl (z_goV (As := [.int 124]) C l_M_140 w_M_takes d_M_behindPart_220 (by omega) rfl rfl rfl) (Nat.le_of_ble_eq_true rfl) (by rw [hR]; simp only [zRm]; omega) (by rw [hR]; simp only [zRm]; omega) (by rw [hR]; simp only [zRm]; omega) (by rw [hR]; simp only [zRm]; omega) (fun v n' σ' hv => ?_) (fun x n' σ' hv => ?_)
        rotate_left
        · cases hv.1
        obtain ⟨e0, e1, rfl⟩ := hv
        cases e0
        obtain rfl : n = n' := e1.symm
        refine z_call C 226 (c_M_want hn 1) w_M_want ini_M d_M_behindPart_223 rfl (z_goV (As := [.int 1]) C l_M_122 w_M_want d_M_behindPart_223 (by omega) rfl rfl rfl) (Nat.le_of_ble_eq_true rfl) (by rw [hR]; simp only [zRm]; omega) (by rw [hR]; simp only [zRm]; omega) (by rw [hR]; simp only [zRm]; omega) (by rw [hR]; simp only [zRm]; omega) (fun v n' σ' hv => ?_) (fun x n' σ' hv => ?_)
        rotate_left
        · cases hv.1
        obtain ⟨e0, e1, rfl⟩ := hv
        cases e0
        obtain rfl : n = n' := e1.symm
        rw [if_neg (show ¬ (1 : Int32) = 0 by decide)]
        refine z_iload_n C 227 d_M_behindPart_226 rfl rfl ?_
        refine z_iconst C 228 d_M_behindPart_227 rfl 2 (by decide) ?_
        refine z_icmp_ge C 231 235 d_M_behindPart_228 rfl (by decide) (fun h9 => absurd h9 (show ¬ (2 : Int32) ≤ 1 by decide)) (fun _ => ?_)
        refine z_iconst C 232 d_M_behindPart_231 rfl 1 (by decide) ?_
        refine z_goto C 236 d_M_behindPart_232 (by decide) ?_
        exact z_zret C rfl (rfl) d_M_behindPart_236 (by rw [hpo]; exact (by rw [← hhd]; exact ⟨rfl, _, _, rfl, rfl, mRd_add h0 rfl h5 (fun k a b => by simp only [upd, if_neg a, if_neg b]), rfl⟩)) (by rw [hmc]; omega) (by rw [hms]; omega)
      · rw [rTk, if_neg (show ¬ rlk T z (rAdd i j s).1 = 124 from r1)] at hhd
        refine z_aload_n C 198 d_M_behindPart_197 rfl rfl ?_
        refine z_aload_n C 199 d_M_behindPart_198 rfl rfl ?_
        refine z_iload_n C 200 d_M_behindPart_199 rfl rfl ?_
        refine z_if_ne C 203 208 d_M_behindPart_200 rfl (by decide) (fun _ => ?_) (fun h9 => absurd h9 (show ¬ (1 : Int32) = 0 by decide))
        refine z_iload_n C 209 d_M_behindPart_208 rfl rfl ?_
        refine z_iconst C 210 d_M_behindPart_209 rfl 1 (by decide) ?_
        refine z_icmp_ne C 213 218 d_M_behindPart_210 rfl (by decide) (fun h9 => absurd (show (1 : Int32) = 1 from rfl) h9) (fun _ => ?_)
        refine z_bipush C 215 d_M_behindPart_213 rfl 124 (by decide) ?_
        refine z_goto C 220 d_M_behindPart_215 (by decide) ?_
        have TK1 := TK 124
        rw [if_neg r1, if_neg r1] at TK1
        refine z_call C 223 (TK1) w_M_takes ini_M d_M_behindPart_220 rfl (z_goV (As := [.int 124]) C l_M_140 w_M_takes d_M_behindPart_220 (by omega) rfl rfl rfl) (Nat.le_of_ble_eq_true rfl) (by rw [hR]; simp only [zRm]; omega) (by rw [hR]; simp only [zRm]; omega) (by rw [hR]; simp only [zRm]; omega) (by rw [hR]; simp only [zRm]; omega) (fun v n' σ' hv => ?_) (fun x n' σ' hv => ?_)
        rotate_left
        · cases hv.1
        obtain ⟨e0, e1, rfl⟩ := hv
        cases e0
        obtain rfl : n = n' := e1.symm
        refine z_call C 226 (c_M_want hn 0) w_M_want ini_M d_M_behindPart_223 rfl (z_goV (As := [.int 0]) C l_M_122 w_M_want d_M_behindPart_223 (by omega) rfl rfl rfl) (Nat.le_of_ble_eq_true rfl) (by rw [hR]; simp only [zRm]; omega) (by rw [hR]; simp only [zRm]; omega) (by rw [hR]; simp only [zRm]; omega) (by rw [hR]; simp only [zRm]; omega) (fun v n' σ' hv => ?_) (fun x n' σ' hv => ?_)
        rotate_left
        · cases hv.1
        obtain ⟨e0, e1, rfl⟩ := hv
        cases e0
        obtain rfl : n = n' := e1.symm
        rw [if_pos (show (0 : Int32) = 0 from rfl)]
        refine z_iload_n C 227 d_M_behindPart_226 rfl rfl ?_
        refine z_iconst C 228 d_M_behindPart_227 rfl 2 (by decide) ?_
        refine z_icmp_ge C 231 235 d_M_behindPart_228 rfl (by decide) (fun h9 => absurd h9 (show ¬ (2 : Int32) ≤ 1 by decide)) (fun _ => ?_)
        refine z_iconst C 232 d_M_behindPart_231 rfl 1 (by decide) ?_
        refine z_goto C 236 d_M_behindPart_232 (by decide) ?_
        exact z_zret C rfl (rfl) d_M_behindPart_236 (by rw [hpo]; exact (by rw [← hhd]; exact ⟨rfl, _, _, rfl, ⟨_, rfl, rfl⟩, hil _ _ h4 rfl (fun k a b => by simp only [upd, if_neg a, if_neg b]) rfl⟩)) (by rw [hmc]; omega) (by rw [hms]; omega)
    · rw [show (nI 2 : Int32) = 2 from rfl]
      rw [if_neg (show ¬ (2 : Nat) = 0 by decide), if_neg (show ¬ (2 : Nat) = 1 by decide)] at hhd
      by_cases r1 : rlk T z s.1 = 41
      · rw [rTk, if_pos (show rlk T z (rAdd i j s).1 = 41 from r1)] at hhd
        refine z_aload_n C 198 d_M_behindPart_197 rfl rfl ?_
        refine z_aload_n C 199 d_M_behindPart_198 rfl rfl ?_
        refine z_iload_n C 200 d_M_behindPart_199 rfl rfl ?_
        refine z_if_ne C 203 208 d_M_behindPart_200 rfl (by decide) (fun _ => ?_) (fun h9 => absurd h9 (show ¬ (2 : Int32) = 0 by decide))
        refine z_iload_n C 209 d_M_behindPart_208 rfl rfl ?_
        refine z_iconst C 210 d_M_behindPart_209 rfl 1 (by decide) ?_
        refine z_icmp_ne C 213 218 d_M_behindPart_210 rfl (by decide) (fun _ => ?_) (fun h9 => absurd h9 (show ¬ (2 : Int32) = 1 by decide))
        refine z_bipush C 220 d_M_behindPart_218 rfl 41 (by decide) ?_
        have TK1 := TK 41
        rw [if_pos r1, if_pos r1] at TK1
        refine z_call C 223 (TK1) w_M_takes ini_M d_M_behindPart_220 rfl (z_goV (As := [.int 41]) C l_M_140 w_M_takes d_M_behindPart_220 (by omega) rfl rfl rfl) (Nat.le_of_ble_eq_true rfl) (by rw [hR]; simp only [zRm]; omega) (by rw [hR]; simp only [zRm]; omega) (by rw [hR]; simp only [zRm]; omega) (by rw [hR]; simp only [zRm]; omega) (fun v n' σ' hv => ?_) (fun x n' σ' hv => ?_)
        rotate_left
        · cases hv.1
        obtain ⟨e0, e1, rfl⟩ := hv
        cases e0
        obtain rfl : n = n' := e1.symm
        refine z_call C 226 (c_M_want hn 1) w_M_want ini_M d_M_behindPart_223 rfl (z_goV (As := [.int 1]) C l_M_122 w_M_want d_M_behindPart_223 (by omega) rfl rfl rfl) (Nat.le_of_ble_eq_true rfl) (by rw [hR]; simp only [zRm]; omega) (by rw [hR]; simp only [zRm]; omega) (by rw [hR]; simp only [zRm]; omega) (by rw [hR]; simp only [zRm]; omega) (fun v n' σ' hv => ?_) (fun x n' σ' hv => ?_)
        rotate_left
        · cases hv.1
        obtain ⟨e0, e1, rfl⟩ := hv
        cases e0
        obtain rfl : n = n' := e1.symm
        rw [if_neg (show ¬ (1 : Int32) = 0 by decide)]
        refine z_iload_n C 227 d_M_behindPart_226 rfl rfl ?_
        refine z_iconst C 228 d_M_behindPart_227 rfl 2 (by decide) ?_
        refine z_icmp_ge C 231 235 d_M_behindPart_228 rfl (by decide) (fun _ => ?_) (fun h9 => absurd (show (2 : Int32) ≤ 2 by decide) h9)
        refine z_iconst C 236 d_M_behindPart_235 rfl 0 (by decide) ?_
        exact z_zret C rfl (rfl) d_M_behindPart_236 (by rw [hpo]; exact (by rw [← hhd]; exact ⟨rfl, _, _, rfl, rfl, mRd_add h0 rfl h5 (fun k a b => by simp only [upd, if_neg a, if_neg b]), rfl⟩)) (by rw [hmc]; omega) (by rw [hms]; omega)
      · rw [rTk, if_neg (show ¬ rlk T z (rAdd i j s).1 = 41 from r1)] at hhd
        refine z_aload_n C 198 d_M_behindPart_197 rfl rfl ?_
        refine z_aload_n C 199 d_M_behindPart_198 rfl rfl ?_
        refine z_iload_n C 200 d_M_behindPart_199 rfl rfl ?_
        refine z_if_ne C 203 208 d_M_behindPart_200 rfl (by decide) (fun _ => ?_) (fun h9 => absurd h9 (show ¬ (2 : Int32) = 0 by decide))
        refine z_iload_n C 209 d_M_behindPart_208 rfl rfl ?_
        refine z_iconst C 210 d_M_behindPart_209 rfl 1 (by decide) ?_
        refine z_icmp_ne C 213 218 d_M_behindPart_210 rfl (by decide) (fun _ => ?_) (fun h9 => absurd h9 (show ¬ (2 : Int32) = 1 by decide))
        refine z_bipush C 220 d_M_behindPart_218 rfl 41 (by decide) ?_
        have TK1 := TK 41
        rw [if_neg r1, if_neg r1] at TK1
        refine z_call C 223 (TK1) w_M_takes ini_M d_M_behindPart_220 rfl (z_goV (As := [.int 41]) C l_M_140 w_M_takes d_M_behindPart_220 (by omega) rfl rfl rfl) (Nat.le_of_ble_eq_true rfl) (by rw [hR]; simp only [zRm]; omega) (by rw [hR]; simp only [zRm]; omega) (by rw [hR]; simp only [zRm]; omega) (by rw [hR]; simp only [zRm]; omega) (fun v n' σ' hv => ?_) (fun x n' σ' hv => ?_)
        rotate_left
        · cases hv.1
        obtain ⟨e0, e1, rfl⟩ := hv
        cases e0
        obtain rfl : n = n' := e1.symm
        refine z_call C 226 (c_M_want hn 0) w_M_want ini_M d_M_behindPart_223 rfl (z_goV (As := [.int 0]) C l_M_122 w_M_want d_M_behindPart_223 (by omega) rfl rfl rfl) (Nat.le_of_ble_eq_true rfl) (by rw [hR]; simp only [zRm]; omega) (by rw [hR]; simp only [zRm]; omega) (by rw [hR]; simp only [zRm]; omega) (by rw [hR]; simp only [zRm]; omega) (fun v n' σ' hv => ?_) (fun x n' σ' hv => ?_)
        rotate_left
        · cases hv.1
        obtain ⟨e0, e1, rfl⟩ := hv
        cases e0
        obtain rfl : n = n' := e1.symm
        rw [if_pos (show (0 : Int32) = 0 from rfl)]
        refine z_iload_n C 227 d_M_behindPart_226 rfl rfl ?_
        refine z_iconst C 228 d_M_behindPart_227 rfl 2 (by decide) ?_
        refine z_icmp_ge C 231 235 d_M_behindPart_228 rfl (by decide) (fun _ => ?_) (fun h9 => absurd (show (2 : Int32) ≤ 2 by decide) h9)
        refine z_iconst C 236 d_M_behindPart_235 rfl 0 (by decide) ?_
        exact z_zret C rfl (rfl) d_M_behindPart_236 (by rw [hpo]; exact (by rw [← hhd]; exact ⟨rfl, _, _, rfl, ⟨_, rfl, rfl⟩, hil _ _ h4 rfl (fun k a b => by simp only [upd, if_neg a, if_neg b]) rfl⟩)) (by rw [hmc]; omega) (by rw [hms]; omega)
  · rw [if_neg (show ¬ (4 : Nat) = 2 by decide), if_neg (show ¬ (4 : Nat) = 3 by decide), if_pos rfl] at hhd
    refine z_tableIn C 237 d_M_behindPart_35 (by decide) (by decide) (off := 202) (by decide) (by decide) ?_
    have hkc : k0 = 0 ∨ k0 = 1 := by omega
    rcases hkc with rfl | rfl
    · rw [show (nI 0 : Int32) = 0 from rfl]
      rw [if_pos rfl] at hhd
      by_cases r1 : rlk T z s.1 = 59
      · rw [rTk, if_pos (show rlk T z (rAdd i j s).1 = 59 from r1)] at hhd
        refine z_iload_n C 238 d_M_behindPart_237 rfl rfl ?_
        refine z_if_ne C 241 251 d_M_behindPart_238 rfl (by decide) (fun h9 => absurd (show (0 : Int32) = 0 from rfl) h9) (fun _ => ?_)
        refine z_aload_n C 242 d_M_behindPart_241 rfl rfl ?_
        refine z_aload_n C 243 d_M_behindPart_242 rfl rfl ?_
        refine z_bipush C 245 d_M_behindPart_243 rfl 59 (by decide) ?_
        have TK1 := TK 59
        rw [if_pos r1, if_pos r1] at TK1
        refine z_call C 248 (TK1) w_M_takes ini_M d_M_behindPart_245 rfl (z_goV (As := [.int 59]) C l_M_140 w_M_takes d_M_behindPart_245 (by omega) rfl rfl rfl) (Nat.le_of_ble_eq_true rfl) (by rw [hR]; simp only [zRm]; omega) (by rw [hR]; simp only [zRm]; omega) (by rw [hR]; simp only [zRm]; omega) (by rw [hR]; simp only [zRm]; omega) (fun v n' σ' hv => ?_) (fun x n' σ' hv => ?_)
        rotate_left
        · cases hv.1
        obtain ⟨e0, e1, rfl⟩ := hv
        cases e0
        obtain rfl : n = n' := e1.symm
        refine z_call C 251 (c_M_want hn 1) w_M_want ini_M d_M_behindPart_248 rfl (z_goV (As := [.int 1]) C l_M_122 w_M_want d_M_behindPart_248 (by omega) rfl rfl rfl) (Nat.le_of_ble_eq_true rfl) (by rw [hR]; simp only [zRm]; omega) (by rw [hR]; simp only [zRm]; omega) (by rw [hR]; simp only [zRm]; omega) (by rw [hR]; simp only [zRm]; omega) (fun v n' σ' hv => ?_) (fun x n' σ' hv => ?_)
        rotate_left
        · cases hv.1
        obtain ⟨e0, e1, rfl⟩ := hv
        cases e0
        obtain rfl : n = n' := e1.symm
        rw [if_neg (show ¬ (1 : Int32) = 0 by decide)]
        refine z_iload_n C 252 d_M_behindPart_251 rfl rfl ?_
        refine z_if_ne C 255 259 d_M_behindPart_252 rfl (by decide) (fun h9 => absurd (show (0 : Int32) = 0 from rfl) h9) (fun _ => ?_)
        refine z_iconst C 256 d_M_behindPart_255 rfl 1 (by decide) ?_
        refine z_goto C 260 d_M_behindPart_256 (by decide) ?_
        exact z_zret C rfl (rfl) d_M_behindPart_260 (by rw [hpo]; exact (by rw [← hhd]; exact ⟨rfl, _, _, rfl, rfl, mRd_add h0 rfl h5 (fun k a b => by simp only [upd, if_neg a, if_neg b]), rfl⟩)) (by rw [hmc]; omega) (by rw [hms]; omega)
      · rw [rTk, if_neg (show ¬ rlk T z (rAdd i j s).1 = 59 from r1)] at hhd
        refine z_iload_n C 238 d_M_behindPart_237 rfl rfl ?_
        refine z_if_ne C 241 251 d_M_behindPart_238 rfl (by decide) (fun h9 => absurd (show (0 : Int32) = 0 from rfl) h9) (fun _ => ?_)
        refine z_aload_n C 242 d_M_behindPart_241 rfl rfl ?_
        refine z_aload_n C 243 d_M_behindPart_242 rfl rfl ?_
        refine z_bipush C 245 d_M_behindPart_243 rfl 59 (by decide) ?_
        have TK1 := TK 59
        rw [if_neg r1, if_neg r1] at TK1
        refine z_call C 248 (TK1) w_M_takes ini_M d_M_behindPart_245 rfl (z_goV (As := [.int 59]) C l_M_140 w_M_takes d_M_behindPart_245 (by omega) rfl rfl rfl) (Nat.le_of_ble_eq_true rfl) (by rw [hR]; simp only [zRm]; omega) (by rw [hR]; simp only [zRm]; omega) (by rw [hR]; simp only [zRm]; omega) (by rw [hR]; simp only [zRm]; omega) (fun v n' σ' hv => ?_) (fun x n' σ' hv => ?_)
        rotate_left
        · cases hv.1
        obtain ⟨e0, e1, rfl⟩ := hv
        cases e0
        obtain rfl : n = n' := e1.symm
        refine z_call C 251 (c_M_want hn 0) w_M_want ini_M d_M_behindPart_248 rfl (z_goV (As := [.int 0]) C l_M_122 w_M_want d_M_behindPart_248 (by omega) rfl rfl rfl) (Nat.le_of_ble_eq_true rfl) (by rw [hR]; simp only [zRm]; omega) (by rw [hR]; simp only [zRm]; omega) (by rw [hR]; simp only [zRm]; omega) (by rw [hR]; simp only [zRm]; omega) (fun v n' σ' hv => ?_) (fun x n' σ' hv => ?_)
        rotate_left
        · cases hv.1
        obtain ⟨e0, e1, rfl⟩ := hv
        cases e0
        obtain rfl : n = n' := e1.symm
        rw [if_pos (show (0 : Int32) = 0 from rfl)]
        refine z_iload_n C 252 d_M_behindPart_251 rfl rfl ?_
        refine z_if_ne C 255 259 d_M_behindPart_252 rfl (by decide) (fun h9 => absurd (show (0 : Int32) = 0 from rfl) h9) (fun _ => ?_)
        refine z_iconst C 256 d_M_behindPart_255 rfl 1 (by decide) ?_
        refine z_goto C 260 d_M_behindPart_256 (by decide) ?_
        exact z_zret C rfl (rfl) d_M_behindPart_260 (by rw [hpo]; exact (by rw [← hhd]; exact ⟨rfl, _, _, rfl, ⟨_, rfl, rfl⟩, hil _ _ h4 rfl (fun k a b => by simp only [upd, if_neg a, if_neg b]) rfl⟩)) (by rw [hmc]; omega) (by rw [hms]; omega)
    · rw [show (nI 1 : Int32) = 1 from rfl]
      rw [if_neg (show ¬ (1 : Nat) = 0 by decide)] at hhd
      refine z_iload_n C 238 d_M_behindPart_237 rfl rfl ?_
      refine z_if_ne C 241 251 d_M_behindPart_238 rfl (by decide) (fun _ => ?_) (fun h9 => absurd h9 (show ¬ (1 : Int32) = 0 by decide))
      refine z_iload_n C 252 d_M_behindPart_251 rfl rfl ?_
      refine z_if_ne C 255 259 d_M_behindPart_252 rfl (by decide) (fun _ => ?_) (fun h9 => absurd h9 (show ¬ (1 : Int32) = 0 by decide))
      refine z_iconst C 260 d_M_behindPart_259 rfl 0 (by decide) ?_
      exact z_zret C rfl (rfl) d_M_behindPart_260 (by rw [hpo]; exact (by rw [← hhd]; exact ⟨rfl, _, _, rfl, rfl, mRd_add h0 h4 h5 (fun _ _ _ => rfl), rfl⟩)) (by rw [hmc]; omega) (by rw [hms]; omega)
  · rw [if_neg (show ¬ (5 : Nat) = 2 by decide), if_neg (show ¬ (5 : Nat) = 3 by decide), if_neg (show ¬ (5 : Nat) = 4 by decide), if_neg (show ¬ (5 : Nat) = 6 by decide), if_neg (show ¬ (5 : Nat) = 7 by decide), if_neg (show ¬ (5 : Nat) = 8 by decide), if_neg (show ¬ (5 : Nat) = 13 by decide)] at hhd
    refine z_tableIn C 386 d_M_behindPart_35 (by decide) (by decide) (off := 351) (by decide) (by decide) ?_
    refine z_iconst C 387 d_M_behindPart_386 rfl 0 (by decide) ?_
    exact z_zret C rfl (rfl) d_M_behindPart_387 (by rw [hpo]; exact (by rw [← hhd]; exact ⟨rfl, _, _, rfl, rfl, mRd_add h0 h4 h5 (fun _ _ _ => rfl), rfl⟩)) (by rw [hmc]; omega) (by rw [hms]; omega)
  · rw [if_neg (show ¬ (6 : Nat) = 2 by decide), if_neg (show ¬ (6 : Nat) = 3 by decide), if_neg (show ¬ (6 : Nat) = 4 by decide), if_pos rfl] at hhd
    refine z_tableIn C 261 d_M_behindPart_35 (by decide) (by decide) (off := 226) (by decide) (by decide) ?_
    have hkc : k0 = 0 ∨ k0 = 1 := by omega
    rcases hkc with rfl | rfl
    · rw [show (nI 0 : Int32) = 0 from rfl]
      rw [if_pos rfl] at hhd
      by_cases r1 : rlk T z s.1 = 44
      · rw [rTk, if_pos (show rlk T z (rAdd i j s).1 = 44 from r1)] at hhd
        refine z_iload_n C 262 d_M_behindPart_261 rfl rfl ?_
        refine z_if_ne C 265 275 d_M_behindPart_262 rfl (by decide) (fun h9 => absurd (show (0 : Int32) = 0 from rfl) h9) (fun _ => ?_)
        refine z_aload_n C 266 d_M_behindPart_265 rfl rfl ?_
        refine z_aload_n C 267 d_M_behindPart_266 rfl rfl ?_
        refine z_bipush C 269 d_M_behindPart_267 rfl 44 (by decide) ?_
        have TK1 := TK 44
        rw [if_pos r1, if_pos r1] at TK1
        refine z_call C 272 (TK1) w_M_takes ini_M d_M_behindPart_269 rfl (z_goV (As := [.int 44]) C l_M_140 w_M_takes d_M_behindPart_269 (by omega) rfl rfl rfl) (Nat.le_of_ble_eq_true rfl) (by rw [hR]; simp only [zRm]; omega) (by rw [hR]; simp only [zRm]; omega) (by rw [hR]; simp only [zRm]; omega) (by rw [hR]; simp only [zRm]; omega) (fun v n' σ' hv => ?_) (fun x n' σ' hv => ?_)
        rotate_left
        · cases hv.1
        obtain ⟨e0, e1, rfl⟩ := hv
        cases e0
        obtain rfl : n = n' := e1.symm
        refine z_call C 275 (c_M_want hn 1) w_M_want ini_M d_M_behindPart_272 rfl (z_goV (As := [.int 1]) C l_M_122 w_M_want d_M_behindPart_272 (by omega) rfl rfl rfl) (Nat.le_of_ble_eq_true rfl) (by rw [hR]; simp only [zRm]; omega) (by rw [hR]; simp only [zRm]; omega) (by rw [hR]; simp only [zRm]; omega) (by rw [hR]; simp only [zRm]; omega) (fun v n' σ' hv => ?_) (fun x n' σ' hv => ?_)
        rotate_left
        · cases hv.1
        obtain ⟨e0, e1, rfl⟩ := hv
        cases e0
        obtain rfl : n = n' := e1.symm
        rw [if_neg (show ¬ (1 : Int32) = 0 by decide)]
        refine z_iload_n C 276 d_M_behindPart_275 rfl rfl ?_
        refine z_if_ne C 279 283 d_M_behindPart_276 rfl (by decide) (fun h9 => absurd (show (0 : Int32) = 0 from rfl) h9) (fun _ => ?_)
        refine z_iconst C 280 d_M_behindPart_279 rfl 1 (by decide) ?_
        refine z_goto C 284 d_M_behindPart_280 (by decide) ?_
        exact z_zret C rfl (rfl) d_M_behindPart_284 (by rw [hpo]; exact (by rw [← hhd]; exact ⟨rfl, _, _, rfl, rfl, mRd_add h0 rfl h5 (fun k a b => by simp only [upd, if_neg a, if_neg b]), rfl⟩)) (by rw [hmc]; omega) (by rw [hms]; omega)
      · rw [rTk, if_neg (show ¬ rlk T z (rAdd i j s).1 = 44 from r1)] at hhd
        refine z_iload_n C 262 d_M_behindPart_261 rfl rfl ?_
        refine z_if_ne C 265 275 d_M_behindPart_262 rfl (by decide) (fun h9 => absurd (show (0 : Int32) = 0 from rfl) h9) (fun _ => ?_)
        refine z_aload_n C 266 d_M_behindPart_265 rfl rfl ?_
        refine z_aload_n C 267 d_M_behindPart_266 rfl rfl ?_
        refine z_bipush C 269 d_M_behindPart_267 rfl 44 (by decide) ?_
        have TK1 := TK 44
        rw [if_neg r1, if_neg r1] at TK1
        refine z_call C 272 (TK1) w_M_takes ini_M d_M_behindPart_269 rfl (z_goV (As := [.int 44]) C l_M_140 w_M_takes d_M_behindPart_269 (by omega) rfl rfl rfl) (Nat.le_of_ble_eq_true rfl) (by rw [hR]; simp only [zRm]; omega) (by rw [hR]; simp only [zRm]; omega) (by rw [hR]; simp only [zRm]; omega) (by rw [hR]; simp only [zRm]; omega) (fun v n' σ' hv => ?_) (fun x n' σ' hv => ?_)
        rotate_left
        · cases hv.1
        obtain ⟨e0, e1, rfl⟩ := hv
        cases e0
        obtain rfl : n = n' := e1.symm
        refine z_call C 275 (c_M_want hn 0) w_M_want ini_M d_M_behindPart_272 rfl (z_goV (As := [.int 0]) C l_M_122 w_M_want d_M_behindPart_272 (by omega) rfl rfl rfl) (Nat.le_of_ble_eq_true rfl) (by rw [hR]; simp only [zRm]; omega) (by rw [hR]; simp only [zRm]; omega) (by rw [hR]; simp only [zRm]; omega) (by rw [hR]; simp only [zRm]; omega) (fun v n' σ' hv => ?_) (fun x n' σ' hv => ?_)
        rotate_left
        · cases hv.1
        obtain ⟨e0, e1, rfl⟩ := hv
        cases e0
        obtain rfl : n = n' := e1.symm
        rw [if_pos (show (0 : Int32) = 0 from rfl)]
        refine z_iload_n C 276 d_M_behindPart_275 rfl rfl ?_
        refine z_if_ne C 279 283 d_M_behindPart_276 rfl (by decide) (fun h9 => absurd (show (0 : Int32) = 0 from rfl) h9) (fun _ => ?_)
        refine z_iconst C 280 d_M_behindPart_279 rfl 1 (by decide) ?_
        refine z_goto C 284 d_M_behindPart_280 (by decide) ?_
        exact z_zret C rfl (rfl) d_M_behindPart_284 (by rw [hpo]; exact (by rw [← hhd]; exact ⟨rfl, _, _, rfl, ⟨_, rfl, rfl⟩, hil _ _ h4 rfl (fun k a b => by simp only [upd, if_neg a, if_neg b]) rfl⟩)) (by rw [hmc]; omega) (by rw [hms]; omega)
    · rw [show (nI 1 : Int32) = 1 from rfl]
      rw [if_neg (show ¬ (1 : Nat) = 0 by decide)] at hhd
      refine z_iload_n C 262 d_M_behindPart_261 rfl rfl ?_
      refine z_if_ne C 265 275 d_M_behindPart_262 rfl (by decide) (fun _ => ?_) (fun h9 => absurd h9 (show ¬ (1 : Int32) = 0 by decide))
      refine z_iload_n C 276 d_M_behindPart_275 rfl rfl ?_
      refine z_if_ne C 279 283 d_M_behindPart_276 rfl (by decide) (fun _ => ?_) (fun h9 => absurd h9 (show ¬ (1 : Int32) = 0 by decide))
      refine z_iconst C 284 d_M_behindPart_283 rfl 0 (by decide) ?_
      exact z_zret C rfl (rfl) d_M_behindPart_284 (by rw [hpo]; exact (by rw [← hhd]; exact ⟨rfl, _, _, rfl, rfl, mRd_add h0 h4 h5 (fun _ _ _ => rfl), rfl⟩)) (by rw [hmc]; omega) (by rw [hms]; omega)
  · rw [if_neg (show ¬ (7 : Nat) = 2 by decide), if_neg (show ¬ (7 : Nat) = 3 by decide), if_neg (show ¬ (7 : Nat) = 4 by decide), if_neg (show ¬ (7 : Nat) = 6 by decide), if_pos rfl] at hhd
    refine z_tableIn C 285 d_M_behindPart_35 (by decide) (by decide) (off := 250) (by decide) (by decide) ?_
    have hkc : k0 = 0 ∨ k0 = 1 := by omega
    rcases hkc with rfl | rfl
    · rw [show (nI 0 : Int32) = 0 from rfl]
      refine z_iload_n C 286 d_M_behindPart_285 rfl rfl ?_
      refine z_if_ne C 289 300 d_M_behindPart_286 rfl (by decide) (fun h9 => absurd (show (0 : Int32) = 0 from rfl) h9) (fun _ => ?_)
      refine z_aload_n C 290 d_M_behindPart_289 rfl rfl ?_
      refine z_bipush C 292 d_M_behindPart_290 rfl 44 (by decide) ?_
      by_cases r0 : rlk T z s.1 = 44
      · rw [if_pos ⟨rfl, r0⟩] at hhd
        have TK0 := TK 44
        rw [if_pos r0, if_pos r0] at TK0
        refine z_call C 295 (TK0) w_M_takes ini_M d_M_behindPart_292 rfl (z_goV (As := [.int 44]) C l_M_140 w_M_takes d_M_behindPart_292 (by omega) rfl rfl rfl) (Nat.le_of_ble_eq_true rfl) (by rw [hR]; simp only [zRm]; omega) (by rw [hR]; simp only [zRm]; omega) (by rw [hR]; simp only [zRm]; omega) (by rw [hR]; simp only [zRm]; omega) (fun v n' σ' hv => ?_) (fun x n' σ' hv => ?_)
        rotate_left
        · cases hv.1
        obtain ⟨e0, e1, rfl⟩ := hv
        cases e0
        obtain rfl : n = n' := e1.symm
        refine z_if_eq C 298 300 d_M_behindPart_295 rfl (by decide) (fun h9 => absurd h9 (show ¬ (1 : Int32) = 0 by decide)) (fun _ => ?_)
        refine z_iconst C 299 d_M_behindPart_298 rfl 1 (by decide) ?_
        exact z_zret C rfl (rfl) d_M_behindPart_299 (by rw [hpo]; exact (by rw [← hhd]; exact ⟨rfl, _, _, rfl, rfl, mRd_add h0 rfl h5 (fun k a b => by simp only [upd, if_neg a, if_neg b]), rfl⟩)) (by rw [hmc]; omega) (by rw [hms]; omega)
      rw [if_neg (fun q => r0 q.2)] at hhd
      have TK0 := TK 44
      rw [if_neg r0, if_neg r0] at TK0
      refine z_call C 295 (TK0) w_M_takes ini_M d_M_behindPart_292 rfl (z_goV (As := [.int 44]) C l_M_140 w_M_takes d_M_behindPart_292 (by omega) rfl rfl rfl) (Nat.le_of_ble_eq_true rfl) (by rw [hR]; simp only [zRm]; omega) (by rw [hR]; simp only [zRm]; omega) (by rw [hR]; simp only [zRm]; omega) (by rw [hR]; simp only [zRm]; omega) (fun v n' σ' hv => ?_) (fun x n' σ' hv => ?_)
      rotate_left
      · cases hv.1
      obtain ⟨e0, e1, rfl⟩ := hv
      cases e0
      obtain rfl : n = n' := e1.symm
      refine z_if_eq C 298 300 d_M_behindPart_295 rfl (by decide) (fun _ => ?_) (fun h9 => absurd (show (0 : Int32) = 0 from rfl) h9)
      by_cases r1 : rlk T z s.1 = 93
      · rw [rTk, if_pos (show rlk T z (rAdd i j s).1 = 93 from r1)] at hhd
        refine z_aload_n C 301 d_M_behindPart_300 rfl rfl ?_
        refine z_aload_n C 302 d_M_behindPart_301 rfl rfl ?_
        refine z_bipush C 304 d_M_behindPart_302 rfl 93 (by decide) ?_
        have TK1 := TK 93
        rw [if_pos r1, if_pos r1] at TK1
        refine z_call C 307 (TK1) w_M_takes ini_M d_M_behindPart_304 rfl (z_goV (As := [.int 93]) C l_M_140 w_M_takes d_M_behindPart_304 (by omega) rfl rfl rfl) (Nat.le_of_ble_eq_true rfl) (by rw [hR]; simp only [zRm]; omega) (by rw [hR]; simp only [zRm]; omega) (by rw [hR]; simp only [zRm]; omega) (by rw [hR]; simp only [zRm]; omega) (fun v n' σ' hv => ?_) (fun x n' σ' hv => ?_)
        rotate_left
        · cases hv.1
        obtain ⟨e0, e1, rfl⟩ := hv
        cases e0
        obtain rfl : n = n' := e1.symm
        refine z_call C 310 (c_M_want hn 1) w_M_want ini_M d_M_behindPart_307 rfl (z_goV (As := [.int 1]) C l_M_122 w_M_want d_M_behindPart_307 (by omega) rfl rfl rfl) (Nat.le_of_ble_eq_true rfl) (by rw [hR]; simp only [zRm]; omega) (by rw [hR]; simp only [zRm]; omega) (by rw [hR]; simp only [zRm]; omega) (by rw [hR]; simp only [zRm]; omega) (fun v n' σ' hv => ?_) (fun x n' σ' hv => ?_)
        rotate_left
        · cases hv.1
        obtain ⟨e0, e1, rfl⟩ := hv
        cases e0
        obtain rfl : n = n' := e1.symm
        rw [if_neg (show ¬ (1 : Int32) = 0 by decide)]
        refine z_iconst C 311 d_M_behindPart_310 rfl 0 (by decide) ?_
        exact z_zret C rfl (rfl) d_M_behindPart_311 (by rw [hpo]; exact (by rw [← hhd]; exact ⟨rfl, _, _, rfl, rfl, mRd_add h0 rfl h5 (fun k a b => by simp only [upd, if_neg a, if_neg b]), rfl⟩)) (by rw [hmc]; omega) (by rw [hms]; omega)
      · rw [rTk, if_neg (show ¬ rlk T z (rAdd i j s).1 = 93 from r1)] at hhd
        refine z_aload_n C 301 d_M_behindPart_300 rfl rfl ?_
        refine z_aload_n C 302 d_M_behindPart_301 rfl rfl ?_
        refine z_bipush C 304 d_M_behindPart_302 rfl 93 (by decide) ?_
        have TK1 := TK 93
        rw [if_neg r1, if_neg r1] at TK1
        refine z_call C 307 (TK1) w_M_takes ini_M d_M_behindPart_304 rfl (z_goV (As := [.int 93]) C l_M_140 w_M_takes d_M_behindPart_304 (by omega) rfl rfl rfl) (Nat.le_of_ble_eq_true rfl) (by rw [hR]; simp only [zRm]; omega) (by rw [hR]; simp only [zRm]; omega) (by rw [hR]; simp only [zRm]; omega) (by rw [hR]; simp only [zRm]; omega) (fun v n' σ' hv => ?_) (fun x n' σ' hv => ?_)
        rotate_left
        · cases hv.1
        obtain ⟨e0, e1, rfl⟩ := hv
        cases e0
        obtain rfl : n = n' := e1.symm
        refine z_call C 310 (c_M_want hn 0) w_M_want ini_M d_M_behindPart_307 rfl (z_goV (As := [.int 0]) C l_M_122 w_M_want d_M_behindPart_307 (by omega) rfl rfl rfl) (Nat.le_of_ble_eq_true rfl) (by rw [hR]; simp only [zRm]; omega) (by rw [hR]; simp only [zRm]; omega) (by rw [hR]; simp only [zRm]; omega) (by rw [hR]; simp only [zRm]; omega) (fun v n' σ' hv => ?_) (fun x n' σ' hv => ?_)
        rotate_left
        · cases hv.1
        obtain ⟨e0, e1, rfl⟩ := hv
        cases e0
        obtain rfl : n = n' := e1.symm
        rw [if_pos (show (0 : Int32) = 0 from rfl)]
        refine z_iconst C 311 d_M_behindPart_310 rfl 0 (by decide) ?_
        exact z_zret C rfl (rfl) d_M_behindPart_311 (by rw [hpo]; exact (by rw [← hhd]; exact ⟨rfl, _, _, rfl, ⟨_, rfl, rfl⟩, hil _ _ h4 rfl (fun k a b => by simp only [upd, if_neg a, if_neg b]) rfl⟩)) (by rw [hmc]; omega) (by rw [hms]; omega)
    · rw [show (nI 1 : Int32) = 1 from rfl]
      rw [if_neg (fun q => absurd q.1 (by decide))] at hhd
      refine z_iload_n C 286 d_M_behindPart_285 rfl rfl ?_
      refine z_if_ne C 289 300 d_M_behindPart_286 rfl (by decide) (fun _ => ?_) (fun h9 => absurd h9 (show ¬ (1 : Int32) = 0 by decide))
      by_cases r1 : rlk T z s.1 = 93
      · rw [rTk, if_pos (show rlk T z (rAdd i j s).1 = 93 from r1)] at hhd
        refine z_aload_n C 301 d_M_behindPart_300 rfl rfl ?_
        refine z_aload_n C 302 d_M_behindPart_301 rfl rfl ?_
        refine z_bipush C 304 d_M_behindPart_302 rfl 93 (by decide) ?_
        have TK1 := TK 93
        rw [if_pos r1, if_pos r1] at TK1
        refine z_call C 307 (TK1) w_M_takes ini_M d_M_behindPart_304 rfl (z_goV (As := [.int 93]) C l_M_140 w_M_takes d_M_behindPart_304 (by omega) rfl rfl rfl) (Nat.le_of_ble_eq_true rfl) (by rw [hR]; simp only [zRm]; omega) (by rw [hR]; simp only [zRm]; omega) (by rw [hR]; simp only [zRm]; omega) (by rw [hR]; simp only [zRm]; omega) (fun v n' σ' hv => ?_) (fun x n' σ' hv => ?_)
        rotate_left
        · cases hv.1
        obtain ⟨e0, e1, rfl⟩ := hv
        cases e0
        obtain rfl : n = n' := e1.symm
        refine z_call C 310 (c_M_want hn 1) w_M_want ini_M d_M_behindPart_307 rfl (z_goV (As := [.int 1]) C l_M_122 w_M_want d_M_behindPart_307 (by omega) rfl rfl rfl) (Nat.le_of_ble_eq_true rfl) (by rw [hR]; simp only [zRm]; omega) (by rw [hR]; simp only [zRm]; omega) (by rw [hR]; simp only [zRm]; omega) (by rw [hR]; simp only [zRm]; omega) (fun v n' σ' hv => ?_) (fun x n' σ' hv => ?_)
        rotate_left
        · cases hv.1
        obtain ⟨e0, e1, rfl⟩ := hv
        cases e0
        obtain rfl : n = n' := e1.symm
        rw [if_neg (show ¬ (1 : Int32) = 0 by decide)]
        refine z_iconst C 311 d_M_behindPart_310 rfl 0 (by decide) ?_
        exact z_zret C rfl (rfl) d_M_behindPart_311 (by rw [hpo]; exact (by rw [← hhd]; exact ⟨rfl, _, _, rfl, rfl, mRd_add h0 rfl h5 (fun k a b => by simp only [upd, if_neg a, if_neg b]), rfl⟩)) (by rw [hmc]; omega) (by rw [hms]; omega)
      · rw [rTk, if_neg (show ¬ rlk T z (rAdd i j s).1 = 93 from r1)] at hhd
        refine z_aload_n C 301 d_M_behindPart_300 rfl rfl ?_
        refine z_aload_n C 302 d_M_behindPart_301 rfl rfl ?_
        refine z_bipush C 304 d_M_behindPart_302 rfl 93 (by decide) ?_
        have TK1 := TK 93
        rw [if_neg r1, if_neg r1] at TK1
        refine z_call C 307 (TK1) w_M_takes ini_M d_M_behindPart_304 rfl (z_goV (As := [.int 93]) C l_M_140 w_M_takes d_M_behindPart_304 (by omega) rfl rfl rfl) (Nat.le_of_ble_eq_true rfl) (by rw [hR]; simp only [zRm]; omega) (by rw [hR]; simp only [zRm]; omega) (by rw [hR]; simp only [zRm]; omega) (by rw [hR]; simp only [zRm]; omega) (fun v n' σ' hv => ?_) (fun x n' σ' hv => ?_)
        rotate_left
        · cases hv.1
        obtain ⟨e0, e1, rfl⟩ := hv
        cases e0
        obtain rfl : n = n' := e1.symm
        refine z_call C 310 (c_M_want hn 0) w_M_want ini_M d_M_behindPart_307 rfl (z_goV (As := [.int 0]) C l_M_122 w_M_want d_M_behindPart_307 (by omega) rfl rfl rfl) (Nat.le_of_ble_eq_true rfl) (by rw [hR]; simp only [zRm]; omega) (by rw [hR]; simp only [zRm]; omega) (by rw [hR]; simp only [zRm]; omega) (by rw [hR]; simp only [zRm]; omega) (fun v n' σ' hv => ?_) (fun x n' σ' hv => ?_)
        rotate_left
        · cases hv.1
        obtain ⟨e0, e1, rfl⟩ := hv
        cases e0
        obtain rfl : n = n' := e1.symm
        rw [if_pos (show (0 : Int32) = 0 from rfl)]
        refine z_iconst C 311 d_M_behindPart_310 rfl 0 (by decide) ?_
        exact z_zret C rfl (rfl) d_M_behindPart_311 (by rw [hpo]; exact (by rw [← hhd]; exact ⟨rfl, _, _, rfl, ⟨_, rfl, rfl⟩, hil _ _ h4 rfl (fun k a b => by simp only [upd, if_neg a, if_neg b]) rfl⟩)) (by rw [hmc]; omega) (by rw [hms]; omega)
  · rw [if_neg (show ¬ (8 : Nat) = 2 by decide), if_neg (show ¬ (8 : Nat) = 3 by decide), if_neg (show ¬ (8 : Nat) = 4 by decide), if_neg (show ¬ (8 : Nat) = 6 by decide), if_neg (show ¬ (8 : Nat) = 7 by decide), if_pos rfl] at hhd
    refine z_tableIn C 312 d_M_behindPart_35 (by decide) (by decide) (off := 277) (by decide) (by decide) ?_
    have hkc : k0 = 0 ∨ k0 = 1 ∨ k0 = 2 := by omega
    rcases hkc with rfl | rfl | rfl
    · rw [show (nI 0 : Int32) = 0 from rfl]
      rw [if_pos rfl] at hhd
      by_cases r1 : rlk T z s.1 = 44
      · rw [rTk, if_pos (show rlk T z (rAdd i j s).1 = 44 from r1)] at hhd
        refine z_iload_n C 313 d_M_behindPart_312 rfl rfl ?_
        refine z_if_ne C 316 326 d_M_behindPart_313 rfl (by decide) (fun h9 => absurd (show (0 : Int32) = 0 from rfl) h9) (fun _ => ?_)
        refine z_aload_n C 317 d_M_behindPart_316 rfl rfl ?_
        refine z_aload_n C 318 d_M_behindPart_317 rfl rfl ?_
        refine z_bipush C 320 d_M_behindPart_318 rfl 44 (by decide) ?_
        have TK1 := TK 44
        rw [if_pos r1, if_pos r1] at TK1
        refine z_call C 323 (TK1) w_M_takes ini_M d_M_behindPart_320 rfl (z_goV (As := [.int 44]) C l_M_140 w_M_takes d_M_behindPart_320 (by omega) rfl rfl rfl) (Nat.le_of_ble_eq_true rfl) (by rw [hR]; simp only [zRm]; omega) (by rw [hR]; simp only [zRm]; omega) (by rw [hR]; simp only [zRm]; omega) (by rw [hR]; simp only [zRm]; omega) (fun v n' σ' hv => ?_) (fun x n' σ' hv => ?_)
        rotate_left
        · cases hv.1
        obtain ⟨e0, e1, rfl⟩ := hv
        cases e0
        obtain rfl : n = n' := e1.symm
        refine z_call C 326 (c_M_want hn 1) w_M_want ini_M d_M_behindPart_323 rfl (z_goV (As := [.int 1]) C l_M_122 w_M_want d_M_behindPart_323 (by omega) rfl rfl rfl) (Nat.le_of_ble_eq_true rfl) (by rw [hR]; simp only [zRm]; omega) (by rw [hR]; simp only [zRm]; omega) (by rw [hR]; simp only [zRm]; omega) (by rw [hR]; simp only [zRm]; omega) (fun v n' σ' hv => ?_) (fun x n' σ' hv => ?_)
        rotate_left
        · cases hv.1
        obtain ⟨e0, e1, rfl⟩ := hv
        cases e0
        obtain rfl : n = n' := e1.symm
        rw [if_neg (show ¬ (1 : Int32) = 0 by decide)]
        refine z_iload_n C 327 d_M_behindPart_326 rfl rfl ?_
        refine z_if_eq C 330 344 d_M_behindPart_327 rfl (by decide) (fun _ => ?_) (fun h9 => absurd (show (0 : Int32) = 0 from rfl) h9)
        refine z_iconst C 345 d_M_behindPart_344 rfl 1 (by decide) ?_
        exact z_zret C rfl (rfl) d_M_behindPart_345 (by rw [hpo]; exact (by rw [← hhd]; exact ⟨rfl, _, _, rfl, rfl, mRd_add h0 rfl h5 (fun k a b => by simp only [upd, if_neg a, if_neg b]), rfl⟩)) (by rw [hmc]; omega) (by rw [hms]; omega)
      · rw [rTk, if_neg (show ¬ rlk T z (rAdd i j s).1 = 44 from r1)] at hhd
        refine z_iload_n C 313 d_M_behindPart_312 rfl rfl ?_
        refine z_if_ne C 316 326 d_M_behindPart_313 rfl (by decide) (fun h9 => absurd (show (0 : Int32) = 0 from rfl) h9) (fun _ => ?_)
        refine z_aload_n C 317 d_M_behindPart_316 rfl rfl ?_
        refine z_aload_n C 318 d_M_behindPart_317 rfl rfl ?_
        refine z_bipush C 320 d_M_behindPart_318 rfl 44 (by decide) ?_
        have TK1 := TK 44
        rw [if_neg r1, if_neg r1] at TK1
        refine z_call C 323 (TK1) w_M_takes ini_M d_M_behindPart_320 rfl (z_goV (As := [.int 44]) C l_M_140 w_M_takes d_M_behindPart_320 (by omega) rfl rfl rfl) (Nat.le_of_ble_eq_true rfl) (by rw [hR]; simp only [zRm]; omega) (by rw [hR]; simp only [zRm]; omega) (by rw [hR]; simp only [zRm]; omega) (by rw [hR]; simp only [zRm]; omega) (fun v n' σ' hv => ?_) (fun x n' σ' hv => ?_)
        rotate_left
        · cases hv.1
        obtain ⟨e0, e1, rfl⟩ := hv
        cases e0
        obtain rfl : n = n' := e1.symm
        refine z_call C 326 (c_M_want hn 0) w_M_want ini_M d_M_behindPart_323 rfl (z_goV (As := [.int 0]) C l_M_122 w_M_want d_M_behindPart_323 (by omega) rfl rfl rfl) (Nat.le_of_ble_eq_true rfl) (by rw [hR]; simp only [zRm]; omega) (by rw [hR]; simp only [zRm]; omega) (by rw [hR]; simp only [zRm]; omega) (by rw [hR]; simp only [zRm]; omega) (fun v n' σ' hv => ?_) (fun x n' σ' hv => ?_)
        rotate_left
        · cases hv.1
        obtain ⟨e0, e1, rfl⟩ := hv
        cases e0
        obtain rfl : n = n' := e1.symm
        rw [if_pos (show (0 : Int32) = 0 from rfl)]
        refine z_iload_n C 327 d_M_behindPart_326 rfl rfl ?_
        refine z_if_eq C 330 344 d_M_behindPart_327 rfl (by decide) (fun _ => ?_) (fun h9 => absurd (show (0 : Int32) = 0 from rfl) h9)
        refine z_iconst C 345 d_M_behindPart_344 rfl 1 (by decide) ?_
        exact z_zret C rfl (rfl) d_M_behindPart_345 (by rw [hpo]; exact (by rw [← hhd]; exact ⟨rfl, _, _, rfl, ⟨_, rfl, rfl⟩, hil _ _ h4 rfl (fun k a b => by simp only [upd, if_neg a, if_neg b]) rfl⟩)) (by rw [hmc]; omega) (by rw [hms]; omega)
    · rw [show (nI 1 : Int32) = 1 from rfl]
      rw [if_neg (show ¬ (1 : Nat) = 0 by decide)] at hhd
      refine z_iload_n C 313 d_M_behindPart_312 rfl rfl ?_
      refine z_if_ne C 316 326 d_M_behindPart_313 rfl (by decide) (fun _ => ?_) (fun h9 => absurd h9 (show ¬ (1 : Int32) = 0 by decide))
      refine z_iload_n C 327 d_M_behindPart_326 rfl rfl ?_
      refine z_if_eq C 330 344 d_M_behindPart_327 rfl (by decide) (fun h9 => absurd h9 (show ¬ (1 : Int32) = 0 by decide)) (fun _ => ?_)
      refine z_iload_n C 331 d_M_behindPart_330 rfl rfl ?_
      refine z_iconst C 332 d_M_behindPart_331 rfl 1 (by decide) ?_
      refine z_icmp_ne C 335 346 d_M_behindPart_332 rfl (by decide) (fun h9 => absurd (show (1 : Int32) = 1 from rfl) h9) (fun _ => ?_)
      refine z_aload_n C 336 d_M_behindPart_335 rfl rfl ?_
      refine z_bipush C 338 d_M_behindPart_336 rfl 44 (by decide) ?_
      by_cases r0 : rlk T z s.1 = 44
      · rw [if_pos ⟨rfl, r0⟩] at hhd
        have TK0 := TK 44
        rw [if_pos r0, if_pos r0] at TK0
        refine z_call C 341 (TK0) w_M_takes ini_M d_M_behindPart_338 rfl (z_goV (As := [.int 44]) C l_M_140 w_M_takes d_M_behindPart_338 (by omega) rfl rfl rfl) (Nat.le_of_ble_eq_true rfl) (by rw [hR]; simp only [zRm]; omega) (by rw [hR]; simp only [zRm]; omega) (by rw [hR]; simp only [zRm]; omega) (by rw [hR]; simp only [zRm]; omega) (fun v n' σ' hv => ?_) (fun x n' σ' hv => ?_)
        rotate_left
        · cases hv.1
        obtain ⟨e0, e1, rfl⟩ := hv
        cases e0
        obtain rfl : n = n' := e1.symm
        refine z_if_eq C 344 346 d_M_behindPart_341 rfl (by decide) (fun h9 => absurd h9 (show ¬ (1 : Int32) = 0 by decide)) (fun _ => ?_)
        refine z_iconst C 345 d_M_behindPart_344 rfl 1 (by decide) ?_
        exact z_zret C rfl (rfl) d_M_behindPart_345 (by rw [hpo]; exact (by rw [← hhd]; exact ⟨rfl, _, _, rfl, rfl, mRd_add h0 rfl h5 (fun k a b => by simp only [upd, if_neg a, if_neg b]), rfl⟩)) (by rw [hmc]; omega) (by rw [hms]; omega)
      rw [if_neg (fun q => r0 q.2)] at hhd
      have TK0 := TK 44
      rw [if_neg r0, if_neg r0] at TK0
      refine z_call C 341 (TK0) w_M_takes ini_M d_M_behindPart_338 rfl (z_goV (As := [.int 44]) C l_M_140 w_M_takes d_M_behindPart_338 (by omega) rfl rfl rfl) (Nat.le_of_ble_eq_true rfl) (by rw [hR]; simp only [zRm]; omega) (by rw [hR]; simp only [zRm]; omega) (by rw [hR]; simp only [zRm]; omega) (by rw [hR]; simp only [zRm]; omega) (fun v n' σ' hv => ?_) (fun x n' σ' hv => ?_)
      rotate_left
      · cases hv.1
      obtain ⟨e0, e1, rfl⟩ := hv
      cases e0
      obtain rfl : n = n' := e1.symm
      refine z_if_eq C 344 346 d_M_behindPart_341 rfl (by decide) (fun _ => ?_) (fun h9 => absurd (show (0 : Int32) = 0 from rfl) h9)
      by_cases r1 : rlk T z s.1 = 125
      · rw [rTk, if_pos (show rlk T z (rAdd i j s).1 = 125 from r1)] at hhd
        refine z_aload_n C 347 d_M_behindPart_346 rfl rfl ?_
        refine z_aload_n C 348 d_M_behindPart_347 rfl rfl ?_
        refine z_bipush C 350 d_M_behindPart_348 rfl 125 (by decide) ?_
        have TK1 := TK 125
        rw [if_pos r1, if_pos r1] at TK1
        refine z_call C 353 (TK1) w_M_takes ini_M d_M_behindPart_350 rfl (z_goV (As := [.int 125]) C l_M_140 w_M_takes d_M_behindPart_350 (by omega) rfl rfl rfl) (Nat.le_of_ble_eq_true rfl) (by rw [hR]; simp only [zRm]; omega) (by rw [hR]; simp only [zRm]; omega) (by rw [hR]; simp only [zRm]; omega) (by rw [hR]; simp only [zRm]; omega) (fun v n' σ' hv => ?_) (fun x n' σ' hv => ?_)
        rotate_left
        · cases hv.1
        obtain ⟨e0, e1, rfl⟩ := hv
        cases e0
        obtain rfl : n = n' := e1.symm
        refine z_call C 356 (c_M_want hn 1) w_M_want ini_M d_M_behindPart_353 rfl (z_goV (As := [.int 1]) C l_M_122 w_M_want d_M_behindPart_353 (by omega) rfl rfl rfl) (Nat.le_of_ble_eq_true rfl) (by rw [hR]; simp only [zRm]; omega) (by rw [hR]; simp only [zRm]; omega) (by rw [hR]; simp only [zRm]; omega) (by rw [hR]; simp only [zRm]; omega) (fun v n' σ' hv => ?_) (fun x n' σ' hv => ?_)
        rotate_left
        · cases hv.1
        obtain ⟨e0, e1, rfl⟩ := hv
        cases e0
        obtain rfl : n = n' := e1.symm
        rw [if_neg (show ¬ (1 : Int32) = 0 by decide)]
        refine z_iconst C 357 d_M_behindPart_356 rfl 0 (by decide) ?_
        exact z_zret C rfl (rfl) d_M_behindPart_357 (by rw [hpo]; exact (by rw [← hhd]; exact ⟨rfl, _, _, rfl, rfl, mRd_add h0 rfl h5 (fun k a b => by simp only [upd, if_neg a, if_neg b]), rfl⟩)) (by rw [hmc]; omega) (by rw [hms]; omega)
      · rw [rTk, if_neg (show ¬ rlk T z (rAdd i j s).1 = 125 from r1)] at hhd
        refine z_aload_n C 347 d_M_behindPart_346 rfl rfl ?_
        refine z_aload_n C 348 d_M_behindPart_347 rfl rfl ?_
        refine z_bipush C 350 d_M_behindPart_348 rfl 125 (by decide) ?_
        have TK1 := TK 125
        rw [if_neg r1, if_neg r1] at TK1
        refine z_call C 353 (TK1) w_M_takes ini_M d_M_behindPart_350 rfl (z_goV (As := [.int 125]) C l_M_140 w_M_takes d_M_behindPart_350 (by omega) rfl rfl rfl) (Nat.le_of_ble_eq_true rfl) (by rw [hR]; simp only [zRm]; omega) (by rw [hR]; simp only [zRm]; omega) (by rw [hR]; simp only [zRm]; omega) (by rw [hR]; simp only [zRm]; omega) (fun v n' σ' hv => ?_) (fun x n' σ' hv => ?_)
        rotate_left
        · cases hv.1
        obtain ⟨e0, e1, rfl⟩ := hv
        cases e0
        obtain rfl : n = n' := e1.symm
        refine z_call C 356 (c_M_want hn 0) w_M_want ini_M d_M_behindPart_353 rfl (z_goV (As := [.int 0]) C l_M_122 w_M_want d_M_behindPart_353 (by omega) rfl rfl rfl) (Nat.le_of_ble_eq_true rfl) (by rw [hR]; simp only [zRm]; omega) (by rw [hR]; simp only [zRm]; omega) (by rw [hR]; simp only [zRm]; omega) (by rw [hR]; simp only [zRm]; omega) (fun v n' σ' hv => ?_) (fun x n' σ' hv => ?_)
        rotate_left
        · cases hv.1
        obtain ⟨e0, e1, rfl⟩ := hv
        cases e0
        obtain rfl : n = n' := e1.symm
        rw [if_pos (show (0 : Int32) = 0 from rfl)]
        refine z_iconst C 357 d_M_behindPart_356 rfl 0 (by decide) ?_
        exact z_zret C rfl (rfl) d_M_behindPart_357 (by rw [hpo]; exact (by rw [← hhd]; exact ⟨rfl, _, _, rfl, ⟨_, rfl, rfl⟩, hil _ _ h4 rfl (fun k a b => by simp only [upd, if_neg a, if_neg b]) rfl⟩)) (by rw [hmc]; omega) (by rw [hms]; omega)
    · rw [show (nI 2 : Int32) = 2 from rfl]
      rw [if_neg (show ¬ (2 : Nat) = 0 by decide)] at hhd
      refine z_iload_n C 313 d_M_behindPart_312 rfl rfl ?_
      refine z_if_ne C 316 326 d_M_behindPart_313 rfl (by decide) (fun _ => ?_) (fun h9 => absurd h9 (show ¬ (2 : Int32) = 0 by decide))
      refine z_iload_n C 327 d_M_behindPart_326 rfl rfl ?_
      refine z_if_eq C 330 344 d_M_behindPart_327 rfl (by decide) (fun h9 => absurd h9 (show ¬ (2 : Int32) = 0 by decide)) (fun _ => ?_)
      refine z_iload_n C 331 d_M_behindPart_330 rfl rfl ?_
      refine z_iconst C 332 d_M_behindPart_331 rfl 1 (by decide) ?_
      rw [if_neg (fun q => absurd q.1 (by decide))] at hhd
      refine z_icmp_ne C 335 346 d_M_behindPart_332 rfl (by decide) (fun _ => ?_) (fun h9 => absurd h9 (show ¬ (2 : Int32) = 1 by decide))
      by_cases r1 : rlk T z s.1 = 125
      · rw [rTk, if_pos (show rlk T z (rAdd i j s).1 = 125 from r1)] at hhd
        refine z_aload_n C 347 d_M_behindPart_346 rfl rfl ?_
        refine z_aload_n C 348 d_M_behindPart_347 rfl rfl ?_
        refine z_bipush C 350 d_M_behindPart_348 rfl 125 (by decide) ?_
        have TK1 := TK 125
        rw [if_pos r1, if_pos r1] at TK1
        refine z_call C 353 (TK1) w_M_takes ini_M d_M_behindPart_350 rfl (z_goV (As := [.int 125]) C l_M_140 w_M_takes d_M_behindPart_350 (by omega) rfl rfl rfl) (Nat.le_of_ble_eq_true rfl) (by rw [hR]; simp only [zRm]; omega) (by rw [hR]; simp only [zRm]; omega) (by rw [hR]; simp only [zRm]; omega) (by rw [hR]; simp only [zRm]; omega) (fun v n' σ' hv => ?_) (fun x n' σ' hv => ?_)
        rotate_left
        · cases hv.1
        obtain ⟨e0, e1, rfl⟩ := hv
        cases e0
        obtain rfl : n = n' := e1.symm
        refine z_call C 356 (c_M_want hn 1) w_M_want ini_M d_M_behindPart_353 rfl (z_goV (As := [.int 1]) C l_M_122 w_M_want d_M_behindPart_353 (by omega) rfl rfl rfl) (Nat.le_of_ble_eq_true rfl) (by rw [hR]; simp only [zRm]; omega) (by rw [hR]; simp only [zRm]; omega) (by rw [hR]; simp only [zRm]; omega) (by rw [hR]; simp only [zRm]; omega) (fun v n' σ' hv => ?_) (fun x n' σ' hv => ?_)
        rotate_left
        · cases hv.1
        obtain ⟨e0, e1, rfl⟩ := hv
        cases e0
        obtain rfl : n = n' := e1.symm
        rw [if_neg (show ¬ (1 : Int32) = 0 by decide)]
        refine z_iconst C 357 d_M_behindPart_356 rfl 0 (by decide) ?_
        exact z_zret C rfl (rfl) d_M_behindPart_357 (by rw [hpo]; exact (by rw [← hhd]; exact ⟨rfl, _, _, rfl, rfl, mRd_add h0 rfl h5 (fun k a b => by simp only [upd, if_neg a, if_neg b]), rfl⟩)) (by rw [hmc]; omega) (by rw [hms]; omega)
      · rw [rTk, if_neg (show ¬ rlk T z (rAdd i j s).1 = 125 from r1)] at hhd
        refine z_aload_n C 347 d_M_behindPart_346 rfl rfl ?_
        refine z_aload_n C 348 d_M_behindPart_347 rfl rfl ?_
        refine z_bipush C 350 d_M_behindPart_348 rfl 125 (by decide) ?_
        have TK1 := TK 125
        rw [if_neg r1, if_neg r1] at TK1
        refine z_call C 353 (TK1) w_M_takes ini_M d_M_behindPart_350 rfl (z_goV (As := [.int 125]) C l_M_140 w_M_takes d_M_behindPart_350 (by omega) rfl rfl rfl) (Nat.le_of_ble_eq_true rfl) (by rw [hR]; simp only [zRm]; omega) (by rw [hR]; simp only [zRm]; omega) (by rw [hR]; simp only [zRm]; omega) (by rw [hR]; simp only [zRm]; omega) (fun v n' σ' hv => ?_) (fun x n' σ' hv => ?_)
        rotate_left
        · cases hv.1
        obtain ⟨e0, e1, rfl⟩ := hv
        cases e0
        obtain rfl : n = n' := e1.symm
        refine z_call C 356 (c_M_want hn 0) w_M_want ini_M d_M_behindPart_353 rfl (z_goV (As := [.int 0]) C l_M_122 w_M_want d_M_behindPart_353 (by omega) rfl rfl rfl) (Nat.le_of_ble_eq_true rfl) (by rw [hR]; simp only [zRm]; omega) (by rw [hR]; simp only [zRm]; omega) (by rw [hR]; simp only [zRm]; omega) (by rw [hR]; simp only [zRm]; omega) (fun v n' σ' hv => ?_) (fun x n' σ' hv => ?_)
        rotate_left
        · cases hv.1
        obtain ⟨e0, e1, rfl⟩ := hv
        cases e0
        obtain rfl : n = n' := e1.symm
        rw [if_pos (show (0 : Int32) = 0 from rfl)]
        refine z_iconst C 357 d_M_behindPart_356 rfl 0 (by decide) ?_
        exact z_zret C rfl (rfl) d_M_behindPart_357 (by rw [hpo]; exact (by rw [← hhd]; exact ⟨rfl, _, _, rfl, ⟨_, rfl, rfl⟩, hil _ _ h4 rfl (fun k a b => by simp only [upd, if_neg a, if_neg b]) rfl⟩)) (by rw [hmc]; omega) (by rw [hms]; omega)
  · rw [if_neg (show ¬ (12 : Nat) = 2 by decide), if_neg (show ¬ (12 : Nat) = 3 by decide), if_neg (show ¬ (12 : Nat) = 4 by decide), if_neg (show ¬ (12 : Nat) = 6 by decide), if_neg (show ¬ (12 : Nat) = 7 by decide), if_neg (show ¬ (12 : Nat) = 8 by decide), if_neg (show ¬ (12 : Nat) = 13 by decide)] at hhd
    refine z_tableIn C 386 d_M_behindPart_35 (by decide) (by decide) (off := 351) (by decide) (by decide) ?_
    refine z_iconst C 387 d_M_behindPart_386 rfl 0 (by decide) ?_
    exact z_zret C rfl (rfl) d_M_behindPart_387 (by rw [hpo]; exact (by rw [← hhd]; exact ⟨rfl, _, _, rfl, rfl, mRd_add h0 h4 h5 (fun _ _ _ => rfl), rfl⟩)) (by rw [hmc]; omega) (by rw [hms]; omega)
  · rw [if_neg (show ¬ (13 : Nat) = 2 by decide), if_neg (show ¬ (13 : Nat) = 3 by decide), if_neg (show ¬ (13 : Nat) = 4 by decide), if_neg (show ¬ (13 : Nat) = 6 by decide), if_neg (show ¬ (13 : Nat) = 7 by decide), if_neg (show ¬ (13 : Nat) = 8 by decide), if_pos rfl] at hhd
    refine z_tableIn C 358 d_M_behindPart_35 (by decide) (by decide) (off := 323) (by decide) (by decide) ?_
    have hkc : k0 = 0 ∨ k0 = 1 ∨ k0 = 2 ∨ k0 = 3 := by omega
    rcases hkc with rfl | rfl | rfl | rfl
    · rw [show (nI 0 : Int32) = 0 from rfl]
      refine z_iload_n C 359 d_M_behindPart_358 rfl rfl ?_
      refine z_iconst C 360 d_M_behindPart_359 rfl 3 (by decide) ?_
      refine z_icmp_ge C 363 374 d_M_behindPart_360 rfl (by decide) (fun h9 => absurd h9 (show ¬ (3 : Int32) ≤ 0 by decide)) (fun _ => ?_)
      refine z_aload_n C 364 d_M_behindPart_363 rfl rfl ?_
      refine z_bipush C 366 d_M_behindPart_364 rfl 44 (by decide) ?_
      by_cases r0 : rlk T z s.1 = 44
      · rw [if_pos ⟨by decide, r0⟩] at hhd
        have TK0 := TK 44
        rw [if_pos r0, if_pos r0] at TK0
        refine z_call C 369 (TK0) w_M_takes ini_M d_M_behindPart_366 rfl (z_goV (As := [.int 44]) C l_M_140 w_M_takes d_M_behindPart_366 (by omega) rfl rfl rfl) (Nat.le_of_ble_eq_true rfl) (by rw [hR]; simp only [zRm]; omega) (by rw [hR]; simp only [zRm]; omega) (by rw [hR]; simp only [zRm]; omega) (by rw [hR]; simp only [zRm]; omega) (fun v n' σ' hv => ?_) (fun x n' σ' hv => ?_)
        rotate_left
        · cases hv.1
        obtain ⟨e0, e1, rfl⟩ := hv
        cases e0
        obtain rfl : n = n' := e1.symm
        refine z_if_eq C 372 374 d_M_behindPart_369 rfl (by decide) (fun h9 => absurd h9 (show ¬ (1 : Int32) = 0 by decide)) (fun _ => ?_)
        refine z_iconst C 373 d_M_behindPart_372 rfl 1 (by decide) ?_
        exact z_zret C rfl (rfl) d_M_behindPart_373 (by rw [hpo]; exact (by rw [← hhd]; exact ⟨rfl, _, _, rfl, rfl, mRd_add h0 rfl h5 (fun k a b => by simp only [upd, if_neg a, if_neg b]), rfl⟩)) (by rw [hmc]; omega) (by rw [hms]; omega)
      rw [if_neg (fun q => r0 q.2)] at hhd
      have TK0 := TK 44
      rw [if_neg r0, if_neg r0] at TK0
      refine z_call C 369 (TK0) w_M_takes ini_M d_M_behindPart_366 rfl (z_goV (As := [.int 44]) C l_M_140 w_M_takes d_M_behindPart_366 (by omega) rfl rfl rfl) (Nat.le_of_ble_eq_true rfl) (by rw [hR]; simp only [zRm]; omega) (by rw [hR]; simp only [zRm]; omega) (by rw [hR]; simp only [zRm]; omega) (by rw [hR]; simp only [zRm]; omega) (fun v n' σ' hv => ?_) (fun x n' σ' hv => ?_)
      rotate_left
      · cases hv.1
      obtain ⟨e0, e1, rfl⟩ := hv
      cases e0
      obtain rfl : n = n' := e1.symm
      refine z_if_eq C 372 374 d_M_behindPart_369 rfl (by decide) (fun _ => ?_) (fun h9 => absurd (show (0 : Int32) = 0 from rfl) h9)
      by_cases r1 : rlk T z s.1 = 41
      · rw [rTk, if_pos (show rlk T z (rAdd i j s).1 = 41 from r1)] at hhd
        refine z_aload_n C 375 d_M_behindPart_374 rfl rfl ?_
        refine z_aload_n C 376 d_M_behindPart_375 rfl rfl ?_
        refine z_bipush C 378 d_M_behindPart_376 rfl 41 (by decide) ?_
        have TK1 := TK 41
        rw [if_pos r1, if_pos r1] at TK1
        refine z_call C 381 (TK1) w_M_takes ini_M d_M_behindPart_378 rfl (z_goV (As := [.int 41]) C l_M_140 w_M_takes d_M_behindPart_378 (by omega) rfl rfl rfl) (Nat.le_of_ble_eq_true rfl) (by rw [hR]; simp only [zRm]; omega) (by rw [hR]; simp only [zRm]; omega) (by rw [hR]; simp only [zRm]; omega) (by rw [hR]; simp only [zRm]; omega) (fun v n' σ' hv => ?_) (fun x n' σ' hv => ?_)
        rotate_left
        · cases hv.1
        obtain ⟨e0, e1, rfl⟩ := hv
        cases e0
        obtain rfl : n = n' := e1.symm
        refine z_call C 384 (c_M_want hn 1) w_M_want ini_M d_M_behindPart_381 rfl (z_goV (As := [.int 1]) C l_M_122 w_M_want d_M_behindPart_381 (by omega) rfl rfl rfl) (Nat.le_of_ble_eq_true rfl) (by rw [hR]; simp only [zRm]; omega) (by rw [hR]; simp only [zRm]; omega) (by rw [hR]; simp only [zRm]; omega) (by rw [hR]; simp only [zRm]; omega) (fun v n' σ' hv => ?_) (fun x n' σ' hv => ?_)
        rotate_left
        · cases hv.1
        obtain ⟨e0, e1, rfl⟩ := hv
        cases e0
        obtain rfl : n = n' := e1.symm
        rw [if_neg (show ¬ (1 : Int32) = 0 by decide)]
        refine z_iconst C 385 d_M_behindPart_384 rfl 0 (by decide) ?_
        exact z_zret C rfl (rfl) d_M_behindPart_385 (by rw [hpo]; exact (by rw [← hhd]; exact ⟨rfl, _, _, rfl, rfl, mRd_add h0 rfl h5 (fun k a b => by simp only [upd, if_neg a, if_neg b]), rfl⟩)) (by rw [hmc]; omega) (by rw [hms]; omega)
      · rw [rTk, if_neg (show ¬ rlk T z (rAdd i j s).1 = 41 from r1)] at hhd
        refine z_aload_n C 375 d_M_behindPart_374 rfl rfl ?_
        refine z_aload_n C 376 d_M_behindPart_375 rfl rfl ?_
        refine z_bipush C 378 d_M_behindPart_376 rfl 41 (by decide) ?_
        have TK1 := TK 41
        rw [if_neg r1, if_neg r1] at TK1
        refine z_call C 381 (TK1) w_M_takes ini_M d_M_behindPart_378 rfl (z_goV (As := [.int 41]) C l_M_140 w_M_takes d_M_behindPart_378 (by omega) rfl rfl rfl) (Nat.le_of_ble_eq_true rfl) (by rw [hR]; simp only [zRm]; omega) (by rw [hR]; simp only [zRm]; omega) (by rw [hR]; simp only [zRm]; omega) (by rw [hR]; simp only [zRm]; omega) (fun v n' σ' hv => ?_) (fun x n' σ' hv => ?_)
        rotate_left
        · cases hv.1
        obtain ⟨e0, e1, rfl⟩ := hv
        cases e0
        obtain rfl : n = n' := e1.symm
        refine z_call C 384 (c_M_want hn 0) w_M_want ini_M d_M_behindPart_381 rfl (z_goV (As := [.int 0]) C l_M_122 w_M_want d_M_behindPart_381 (by omega) rfl rfl rfl) (Nat.le_of_ble_eq_true rfl) (by rw [hR]; simp only [zRm]; omega) (by rw [hR]; simp only [zRm]; omega) (by rw [hR]; simp only [zRm]; omega) (by rw [hR]; simp only [zRm]; omega) (fun v n' σ' hv => ?_) (fun x n' σ' hv => ?_)
        rotate_left
        · cases hv.1
        obtain ⟨e0, e1, rfl⟩ := hv
        cases e0
        obtain rfl : n = n' := e1.symm
        rw [if_pos (show (0 : Int32) = 0 from rfl)]
        refine z_iconst C 385 d_M_behindPart_384 rfl 0 (by decide) ?_
        exact z_zret C rfl (rfl) d_M_behindPart_385 (by rw [hpo]; exact (by rw [← hhd]; exact ⟨rfl, _, _, rfl, ⟨_, rfl, rfl⟩, hil _ _ h4 rfl (fun k a b => by simp only [upd, if_neg a, if_neg b]) rfl⟩)) (by rw [hmc]; omega) (by rw [hms]; omega)
    · rw [show (nI 1 : Int32) = 1 from rfl]
      refine z_iload_n C 359 d_M_behindPart_358 rfl rfl ?_
      refine z_iconst C 360 d_M_behindPart_359 rfl 3 (by decide) ?_
      refine z_icmp_ge C 363 374 d_M_behindPart_360 rfl (by decide) (fun h9 => absurd h9 (show ¬ (3 : Int32) ≤ 1 by decide)) (fun _ => ?_)
      refine z_aload_n C 364 d_M_behindPart_363 rfl rfl ?_
      refine z_bipush C 366 d_M_behindPart_364 rfl 44 (by decide) ?_
      by_cases r0 : rlk T z s.1 = 44
      · rw [if_pos ⟨by decide, r0⟩] at hhd
        have TK0 := TK 44
        rw [if_pos r0, if_pos r0] at TK0
        refine z_call C 369 (TK0) w_M_takes ini_M d_M_behindPart_366 rfl (z_goV (As := [.int 44]) C l_M_140 w_M_takes d_M_behindPart_366 (by omega) rfl rfl rfl) (Nat.le_of_ble_eq_true rfl) (by rw [hR]; simp only [zRm]; omega) (by rw [hR]; simp only [zRm]; omega) (by rw [hR]; simp only [zRm]; omega) (by rw [hR]; simp only [zRm]; omega) (fun v n' σ' hv => ?_) (fun x n' σ' hv => ?_)
        rotate_left
        · cases hv.1
        obtain ⟨e0, e1, rfl⟩ := hv
        cases e0
        obtain rfl : n = n' := e1.symm
        refine z_if_eq C 372 374 d_M_behindPart_369 rfl (by decide) (fun h9 => absurd h9 (show ¬ (1 : Int32) = 0 by decide)) (fun _ => ?_)
        refine z_iconst C 373 d_M_behindPart_372 rfl 1 (by decide) ?_
        exact z_zret C rfl (rfl) d_M_behindPart_373 (by rw [hpo]; exact (by rw [← hhd]; exact ⟨rfl, _, _, rfl, rfl, mRd_add h0 rfl h5 (fun k a b => by simp only [upd, if_neg a, if_neg b]), rfl⟩)) (by rw [hmc]; omega) (by rw [hms]; omega)
      rw [if_neg (fun q => r0 q.2)] at hhd
      have TK0 := TK 44
      rw [if_neg r0, if_neg r0] at TK0
      refine z_call C 369 (TK0) w_M_takes ini_M d_M_behindPart_366 rfl (z_goV (As := [.int 44]) C l_M_140 w_M_takes d_M_behindPart_366 (by omega) rfl rfl rfl) (Nat.le_of_ble_eq_true rfl) (by rw [hR]; simp only [zRm]; omega) (by rw [hR]; simp only [zRm]; omega) (by rw [hR]; simp only [zRm]; omega) (by rw [hR]; simp only [zRm]; omega) (fun v n' σ' hv => ?_) (fun x n' σ' hv => ?_)
      rotate_left
      · cases hv.1
      obtain ⟨e0, e1, rfl⟩ := hv
      cases e0
      obtain rfl : n = n' := e1.symm
      refine z_if_eq C 372 374 d_M_behindPart_369 rfl (by decide) (fun _ => ?_) (fun h9 => absurd (show (0 : Int32) = 0 from rfl) h9)
      by_cases r1 : rlk T z s.1 = 41
      · rw [rTk, if_pos (show rlk T z (rAdd i j s).1 = 41 from r1)] at hhd
        refine z_aload_n C 375 d_M_behindPart_374 rfl rfl ?_
        refine z_aload_n C 376 d_M_behindPart_375 rfl rfl ?_
        refine z_bipush C 378 d_M_behindPart_376 rfl 41 (by decide) ?_
        have TK1 := TK 41
        rw [if_pos r1, if_pos r1] at TK1
        refine z_call C 381 (TK1) w_M_takes ini_M d_M_behindPart_378 rfl (z_goV (As := [.int 41]) C l_M_140 w_M_takes d_M_behindPart_378 (by omega) rfl rfl rfl) (Nat.le_of_ble_eq_true rfl) (by rw [hR]; simp only [zRm]; omega) (by rw [hR]; simp only [zRm]; omega) (by rw [hR]; simp only [zRm]; omega) (by rw [hR]; simp only [zRm]; omega) (fun v n' σ' hv => ?_) (fun x n' σ' hv => ?_)
        rotate_left
        · cases hv.1
        obtain ⟨e0, e1, rfl⟩ := hv
        cases e0
        obtain rfl : n = n' := e1.symm
        refine z_call C 384 (c_M_want hn 1) w_M_want ini_M d_M_behindPart_381 rfl (z_goV (As := [.int 1]) C l_M_122 w_M_want d_M_behindPart_381 (by omega) rfl rfl rfl) (Nat.le_of_ble_eq_true rfl) (by rw [hR]; simp only [zRm]; omega) (by rw [hR]; simp only [zRm]; omega) (by rw [hR]; simp only [zRm]; omega) (by rw [hR]; simp only [zRm]; omega) (fun v n' σ' hv => ?_) (fun x n' σ' hv => ?_)
        rotate_left
        · cases hv.1
        obtain ⟨e0, e1, rfl⟩ := hv
        cases e0
        obtain rfl : n = n' := e1.symm
        rw [if_neg (show ¬ (1 : Int32) = 0 by decide)]
        refine z_iconst C 385 d_M_behindPart_384 rfl 0 (by decide) ?_
        exact z_zret C rfl (rfl) d_M_behindPart_385 (by rw [hpo]; exact (by rw [← hhd]; exact ⟨rfl, _, _, rfl, rfl, mRd_add h0 rfl h5 (fun k a b => by simp only [upd, if_neg a, if_neg b]), rfl⟩)) (by rw [hmc]; omega) (by rw [hms]; omega)
      · rw [rTk, if_neg (show ¬ rlk T z (rAdd i j s).1 = 41 from r1)] at hhd
        refine z_aload_n C 375 d_M_behindPart_374 rfl rfl ?_
        refine z_aload_n C 376 d_M_behindPart_375 rfl rfl ?_
        refine z_bipush C 378 d_M_behindPart_376 rfl 41 (by decide) ?_
        have TK1 := TK 41
        rw [if_neg r1, if_neg r1] at TK1
        refine z_call C 381 (TK1) w_M_takes ini_M d_M_behindPart_378 rfl (z_goV (As := [.int 41]) C l_M_140 w_M_takes d_M_behindPart_378 (by omega) rfl rfl rfl) (Nat.le_of_ble_eq_true rfl) (by rw [hR]; simp only [zRm]; omega) (by rw [hR]; simp only [zRm]; omega) (by rw [hR]; simp only [zRm]; omega) (by rw [hR]; simp only [zRm]; omega) (fun v n' σ' hv => ?_) (fun x n' σ' hv => ?_)
        rotate_left
        · cases hv.1
        obtain ⟨e0, e1, rfl⟩ := hv
        cases e0
        obtain rfl : n = n' := e1.symm
        refine z_call C 384 (c_M_want hn 0) w_M_want ini_M d_M_behindPart_381 rfl (z_goV (As := [.int 0]) C l_M_122 w_M_want d_M_behindPart_381 (by omega) rfl rfl rfl) (Nat.le_of_ble_eq_true rfl) (by rw [hR]; simp only [zRm]; omega) (by rw [hR]; simp only [zRm]; omega) (by rw [hR]; simp only [zRm]; omega) (by rw [hR]; simp only [zRm]; omega) (fun v n' σ' hv => ?_) (fun x n' σ' hv => ?_)
        rotate_left
        · cases hv.1
        obtain ⟨e0, e1, rfl⟩ := hv
        cases e0
        obtain rfl : n = n' := e1.symm
        rw [if_pos (show (0 : Int32) = 0 from rfl)]
        refine z_iconst C 385 d_M_behindPart_384 rfl 0 (by decide) ?_
        exact z_zret C rfl (rfl) d_M_behindPart_385 (by rw [hpo]; exact (by rw [← hhd]; exact ⟨rfl, _, _, rfl, ⟨_, rfl, rfl⟩, hil _ _ h4 rfl (fun k a b => by simp only [upd, if_neg a, if_neg b]) rfl⟩)) (by rw [hmc]; omega) (by rw [hms]; omega)
    · rw [show (nI 2 : Int32) = 2 from rfl]
      refine z_iload_n C 359 d_M_behindPart_358 rfl rfl ?_
      refine z_iconst C 360 d_M_behindPart_359 rfl 3 (by decide) ?_
      refine z_icmp_ge C 363 374 d_M_behindPart_360 rfl (by decide) (fun h9 => absurd h9 (show ¬ (3 : Int32) ≤ 2 by decide)) (fun _ => ?_)
      refine z_aload_n C 364 d_M_behindPart_363 rfl rfl ?_
      refine z_bipush C 366 d_M_behindPart_364 rfl 44 (by decide) ?_
      by_cases r0 : rlk T z s.1 = 44
      · rw [if_pos ⟨by decide, r0⟩] at hhd
        have TK0 := TK 44
        rw [if_pos r0, if_pos r0] at TK0
        refine z_call C 369 (TK0) w_M_takes ini_M d_M_behindPart_366 rfl (z_goV (As := [.int 44]) C l_M_140 w_M_takes d_M_behindPart_366 (by omega) rfl rfl rfl) (Nat.le_of_ble_eq_true rfl) (by rw [hR]; simp only [zRm]; omega) (by rw [hR]; simp only [zRm]; omega) (by rw [hR]; simp only [zRm]; omega) (by rw [hR]; simp only [zRm]; omega) (fun v n' σ' hv => ?_) (fun x n' σ' hv => ?_)
        rotate_left
        · cases hv.1
        obtain ⟨e0, e1, rfl⟩ := hv
        cases e0
        obtain rfl : n = n' := e1.symm
        refine z_if_eq C 372 374 d_M_behindPart_369 rfl (by decide) (fun h9 => absurd h9 (show ¬ (1 : Int32) = 0 by decide)) (fun _ => ?_)
        refine z_iconst C 373 d_M_behindPart_372 rfl 1 (by decide) ?_
        exact z_zret C rfl (rfl) d_M_behindPart_373 (by rw [hpo]; exact (by rw [← hhd]; exact ⟨rfl, _, _, rfl, rfl, mRd_add h0 rfl h5 (fun k a b => by simp only [upd, if_neg a, if_neg b]), rfl⟩)) (by rw [hmc]; omega) (by rw [hms]; omega)
      rw [if_neg (fun q => r0 q.2)] at hhd
      have TK0 := TK 44
      rw [if_neg r0, if_neg r0] at TK0
      refine z_call C 369 (TK0) w_M_takes ini_M d_M_behindPart_366 rfl (z_goV (As := [.int 44]) C l_M_140 w_M_takes d_M_behindPart_366 (by omega) rfl rfl rfl) (Nat.le_of_ble_eq_true rfl) (by rw [hR]; simp only [zRm]; omega) (by rw [hR]; simp only [zRm]; omega) (by rw [hR]; simp only [zRm]; omega) (by rw [hR]; simp only [zRm]; omega) (fun v n' σ' hv => ?_) (fun x n' σ' hv => ?_)
      rotate_left
      · cases hv.1
      obtain ⟨e0, e1, rfl⟩ := hv
      cases e0
      obtain rfl : n = n' := e1.symm
      refine z_if_eq C 372 374 d_M_behindPart_369 rfl (by decide) (fun _ => ?_) (fun h9 => absurd (show (0 : Int32) = 0 from rfl) h9)
      by_cases r1 : rlk T z s.1 = 41
      · rw [rTk, if_pos (show rlk T z (rAdd i j s).1 = 41 from r1)] at hhd
        refine z_aload_n C 375 d_M_behindPart_374 rfl rfl ?_
        refine z_aload_n C 376 d_M_behindPart_375 rfl rfl ?_
        refine z_bipush C 378 d_M_behindPart_376 rfl 41 (by decide) ?_
        have TK1 := TK 41
        rw [if_pos r1, if_pos r1] at TK1
        refine z_call C 381 (TK1) w_M_takes ini_M d_M_behindPart_378 rfl (z_goV (As := [.int 41]) C l_M_140 w_M_takes d_M_behindPart_378 (by omega) rfl rfl rfl) (Nat.le_of_ble_eq_true rfl) (by rw [hR]; simp only [zRm]; omega) (by rw [hR]; simp only [zRm]; omega) (by rw [hR]; simp only [zRm]; omega) (by rw [hR]; simp only [zRm]; omega) (fun v n' σ' hv => ?_) (fun x n' σ' hv => ?_)
        rotate_left
        · cases hv.1
        obtain ⟨e0, e1, rfl⟩ := hv
        cases e0
        obtain rfl : n = n' := e1.symm
        refine z_call C 384 (c_M_want hn 1) w_M_want ini_M d_M_behindPart_381 rfl (z_goV (As := [.int 1]) C l_M_122 w_M_want d_M_behindPart_381 (by omega) rfl rfl rfl) (Nat.le_of_ble_eq_true rfl) (by rw [hR]; simp only [zRm]; omega) (by rw [hR]; simp only [zRm]; omega) (by rw [hR]; simp only [zRm]; omega) (by rw [hR]; simp only [zRm]; omega) (fun v n' σ' hv => ?_) (fun x n' σ' hv => ?_)
        rotate_left
        · cases hv.1
        obtain ⟨e0, e1, rfl⟩ := hv
        cases e0
        obtain rfl : n = n' := e1.symm
        rw [if_neg (show ¬ (1 : Int32) = 0 by decide)]
        refine z_iconst C 385 d_M_behindPart_384 rfl 0 (by decide) ?_
        exact z_zret C rfl (rfl) d_M_behindPart_385 (by rw [hpo]; exact (by rw [← hhd]; exact ⟨rfl, _, _, rfl, rfl, mRd_add h0 rfl h5 (fun k a b => by simp only [upd, if_neg a, if_neg b]), rfl⟩)) (by rw [hmc]; omega) (by rw [hms]; omega)
      · rw [rTk, if_neg (show ¬ rlk T z (rAdd i j s).1 = 41 from r1)] at hhd
        refine z_aload_n C 375 d_M_behindPart_374 rfl rfl ?_
        refine z_aload_n C 376 d_M_behindPart_375 rfl rfl ?_
        refine z_bipush C 378 d_M_behindPart_376 rfl 41 (by decide) ?_
        have TK1 := TK 41
        rw [if_neg r1, if_neg r1] at TK1
        refine z_call C 381 (TK1) w_M_takes ini_M d_M_behindPart_378 rfl (z_goV (As := [.int 41]) C l_M_140 w_M_takes d_M_behindPart_378 (by omega) rfl rfl rfl) (Nat.le_of_ble_eq_true rfl) (by rw [hR]; simp only [zRm]; omega) (by rw [hR]; simp only [zRm]; omega) (by rw [hR]; simp only [zRm]; omega) (by rw [hR]; simp only [zRm]; omega) (fun v n' σ' hv => ?_) (fun x n' σ' hv => ?_)
        rotate_left
        · cases hv.1
        obtain ⟨e0, e1, rfl⟩ := hv
        cases e0
        obtain rfl : n = n' := e1.symm
        refine z_call C 384 (c_M_want hn 0) w_M_want ini_M d_M_behindPart_381 rfl (z_goV (As := [.int 0]) C l_M_122 w_M_want d_M_behindPart_381 (by omega) rfl rfl rfl) (Nat.le_of_ble_eq_true rfl) (by rw [hR]; simp only [zRm]; omega) (by rw [hR]; simp only [zRm]; omega) (by rw [hR]; simp only [zRm]; omega) (by rw [hR]; simp only [zRm]; omega) (fun v n' σ' hv => ?_) (fun x n' σ' hv => ?_)
        rotate_left
        · cases hv.1
        obtain ⟨e0, e1, rfl⟩ := hv
        cases e0
        obtain rfl : n = n' := e1.symm
        rw [if_pos (show (0 : Int32) = 0 from rfl)]
        refine z_iconst C 385 d_M_behindPart_384 rfl 0 (by decide) ?_
        exact z_zret C rfl (rfl) d_M_behindPart_385 (by rw [hpo]; exact (by rw [← hhd]; exact ⟨rfl, _, _, rfl, ⟨_, rfl, rfl⟩, hil _ _ h4 rfl (fun k a b => by simp only [upd, if_neg a, if_neg b]) rfl⟩)) (by rw [hmc]; omega) (by rw [hms]; omega)
    · rw [show (nI 3 : Int32) = 3 from rfl]
      refine z_iload_n C 359 d_M_behindPart_358 rfl rfl ?_
      refine z_iconst C 360 d_M_behindPart_359 rfl 3 (by decide) ?_
      rw [if_neg (fun q => absurd q.1 (by decide))] at hhd
      refine z_icmp_ge C 363 374 d_M_behindPart_360 rfl (by decide) (fun _ => ?_) (fun h9 => absurd (show (3 : Int32) ≤ 3 by decide) h9)
      by_cases r1 : rlk T z s.1 = 41
      · rw [rTk, if_pos (show rlk T z (rAdd i j s).1 = 41 from r1)] at hhd
        refine z_aload_n C 375 d_M_behindPart_374 rfl rfl ?_
        refine z_aload_n C 376 d_M_behindPart_375 rfl rfl ?_
        refine z_bipush C 378 d_M_behindPart_376 rfl 41 (by decide) ?_
        have TK1 := TK 41
        rw [if_pos r1, if_pos r1] at TK1
        refine z_call C 381 (TK1) w_M_takes ini_M d_M_behindPart_378 rfl (z_goV (As := [.int 41]) C l_M_140 w_M_takes d_M_behindPart_378 (by omega) rfl rfl rfl) (Nat.le_of_ble_eq_true rfl) (by rw [hR]; simp only [zRm]; omega) (by rw [hR]; simp only [zRm]; omega) (by rw [hR]; simp only [zRm]; omega) (by rw [hR]; simp only [zRm]; omega) (fun v n' σ' hv => ?_) (fun x n' σ' hv => ?_)
        rotate_left
        · cases hv.1
        obtain ⟨e0, e1, rfl⟩ := hv
        cases e0
        obtain rfl : n = n' := e1.symm
        refine z_call C 384 (c_M_want hn 1) w_M_want ini_M d_M_behindPart_381 rfl (z_goV (As := [.int 1]) C l_M_122 w_M_want d_M_behindPart_381 (by omega) rfl rfl rfl) (Nat.le_of_ble_eq_true rfl) (by rw [hR]; simp only [zRm]; omega) (by rw [hR]; simp only [zRm]; omega) (by rw [hR]; simp only [zRm]; omega) (by rw [hR]; simp only [zRm]; omega) (fun v n' σ' hv => ?_) (fun x n' σ' hv => ?_)
        rotate_left
        · cases hv.1
        obtain ⟨e0, e1, rfl⟩ := hv
        cases e0
        obtain rfl : n = n' := e1.symm
        rw [if_neg (show ¬ (1 : Int32) = 0 by decide)]
        refine z_iconst C 385 d_M_behindPart_384 rfl 0 (by decide) ?_
        exact z_zret C rfl (rfl) d_M_behindPart_385 (by rw [hpo]; exact (by rw [← hhd]; exact ⟨rfl, _, _, rfl, rfl, mRd_add h0 rfl h5 (fun k a b => by simp only [upd, if_neg a, if_neg b]), rfl⟩)) (by rw [hmc]; omega) (by rw [hms]; omega)
      · rw [rTk, if_neg (show ¬ rlk T z (rAdd i j s).1 = 41 from r1)] at hhd
        refine z_aload_n C 375 d_M_behindPart_374 rfl rfl ?_
        refine z_aload_n C 376 d_M_behindPart_375 rfl rfl ?_
        refine z_bipush C 378 d_M_behindPart_376 rfl 41 (by decide) ?_
        have TK1 := TK 41
        rw [if_neg r1, if_neg r1] at TK1
        refine z_call C 381 (TK1) w_M_takes ini_M d_M_behindPart_378 rfl (z_goV (As := [.int 41]) C l_M_140 w_M_takes d_M_behindPart_378 (by omega) rfl rfl rfl) (Nat.le_of_ble_eq_true rfl) (by rw [hR]; simp only [zRm]; omega) (by rw [hR]; simp only [zRm]; omega) (by rw [hR]; simp only [zRm]; omega) (by rw [hR]; simp only [zRm]; omega) (fun v n' σ' hv => ?_) (fun x n' σ' hv => ?_)
        rotate_left
        · cases hv.1
        obtain ⟨e0, e1, rfl⟩ := hv
        cases e0
        obtain rfl : n = n' := e1.symm
        refine z_call C 384 (c_M_want hn 0) w_M_want ini_M d_M_behindPart_381 rfl (z_goV (As := [.int 0]) C l_M_122 w_M_want d_M_behindPart_381 (by omega) rfl rfl rfl) (Nat.le_of_ble_eq_true rfl) (by rw [hR]; simp only [zRm]; omega) (by rw [hR]; simp only [zRm]; omega) (by rw [hR]; simp only [zRm]; omega) (by rw [hR]; simp only [zRm]; omega) (fun v n' σ' hv => ?_) (fun x n' σ' hv => ?_)
        rotate_left
        · cases hv.1
        obtain ⟨e0, e1, rfl⟩ := hv
        cases e0
        obtain rfl : n = n' := e1.symm
        rw [if_pos (show (0 : Int32) = 0 from rfl)]
        refine z_iconst C 385 d_M_behindPart_384 rfl 0 (by decide) ?_
        exact z_zret C rfl (rfl) d_M_behindPart_385 (by rw [hpo]; exact (by rw [← hhd]; exact ⟨rfl, _, _, rfl, ⟨_, rfl, rfl⟩, hil _ _ h4 rfl (fun k a b => by simp only [upd, if_neg a, if_neg b]) rfl⟩)) (by rw [hmc]; omega) (by rw [hms]; omega)
end MBP
