theorem d_L_law_0 : decode b_L_law 0 = .ok (.new 8, 3) := by decide +kernel
theorem d_L_law_3 : decode b_L_law 3 = .ok (.dup, 1) := by decide +kernel
theorem d_L_law_4 : decode b_L_law 4 = .ok (.invokespecial 27, 3) := by decide +kernel
theorem d_L_law_7 : decode b_L_law 7 = .ok (.astore_n 1, 1) := by decide +kernel
theorem d_L_law_8 : decode b_L_law 8 = .ok (.new 28, 3) := by decide +kernel
theorem d_L_law_11 : decode b_L_law 11 = .ok (.dup, 1) := by decide +kernel
theorem d_L_law_12 : decode b_L_law 12 = .ok (.invokespecial 30, 3) := by decide +kernel
theorem d_L_law_15 : decode b_L_law 15 = .ok (.astore_n 2, 1) := by decide +kernel
theorem d_L_law_16 : decode b_L_law 16 = .ok (.iconst 1, 1) := by decide +kernel
theorem d_L_law_17 : decode b_L_law 17 = .ok (.newarray .long, 2) := by decide +kernel
theorem d_L_law_19 : decode b_L_law 19 = .ok (.astore_n 3, 1) := by decide +kernel
theorem d_L_law_20 : decode b_L_law 20 = .ok (.iconst 0, 1) := by decide +kernel
theorem d_L_law_21 : decode b_L_law 21 = .ok (.istore 4, 2) := by decide +kernel
theorem d_L_law_23 : decode b_L_law 23 = .ok (.iload 4, 2) := by decide +kernel
theorem d_L_law_25 : decode b_L_law 25 = .ok (.aload_n 0, 1) := by decide +kernel
theorem d_L_law_26 : decode b_L_law 26 = .ok (.arraylength, 1) := by decide +kernel
theorem d_L_law_27 : decode b_L_law 27 = .ok (.iconst 4, 1) := by decide +kernel
theorem d_L_law_28 : decode b_L_law 28 = .ok (.isub, 1) := by decide +kernel
theorem d_L_law_29 : decode b_L_law 29 = .ok (.if_icmp .gt 412, 3) := by decide +kernel
theorem d_L_law_32 : decode b_L_law 32 = .ok (.aload_n 0, 1) := by decide +kernel
theorem d_L_law_33 : decode b_L_law 33 = .ok (.iload 4, 2) := by decide +kernel
theorem d_L_law_35 : decode b_L_law 35 = .ok (.iaload, 1) := by decide +kernel
theorem d_L_law_36 : decode b_L_law 36 = .ok (.bipush 15, 2) := by decide +kernel
theorem d_L_law_38 : decode b_L_law 38 = .ok (.iand, 1) := by decide +kernel
theorem d_L_law_39 : decode b_L_law 39 = .ok (.tableswitch 396 0 10 #[57, 84, 128, 141, 154, 223, 281, 294, 308, 333, 371], 57) := by decide +kernel
theorem d_L_law_96 : decode b_L_law 96 = .ok (.aload_n 1, 1) := by decide +kernel
theorem d_L_law_97 : decode b_L_law 97 = .ok (.aload_n 0, 1) := by decide +kernel
theorem d_L_law_98 : decode b_L_law 98 = .ok (.iload 4, 2) := by decide +kernel
theorem d_L_law_100 : decode b_L_law 100 = .ok (.iconst 1, 1) := by decide +kernel
theorem d_L_law_101 : decode b_L_law 101 = .ok (.iadd, 1) := by decide +kernel
theorem d_L_law_102 : decode b_L_law 102 = .ok (.iaload, 1) := by decide +kernel
theorem d_L_law_103 : decode b_L_law 103 = .ok (.i2c, 1) := by decide +kernel
theorem d_L_law_104 : decode b_L_law 104 = .ok (.invokevirtual 31, 3) := by decide +kernel
theorem d_L_law_107 : decode b_L_law 107 = .ok (.aload_n 2, 1) := by decide +kernel
theorem d_L_law_108 : decode b_L_law 108 = .ok (.aload_n 0, 1) := by decide +kernel
theorem d_L_law_109 : decode b_L_law 109 = .ok (.iload 4, 2) := by decide +kernel
theorem d_L_law_111 : decode b_L_law 111 = .ok (.iconst 1, 1) := by decide +kernel
theorem d_L_law_112 : decode b_L_law 112 = .ok (.iadd, 1) := by decide +kernel
theorem d_L_law_113 : decode b_L_law 113 = .ok (.iaload, 1) := by decide +kernel
theorem d_L_law_114 : decode b_L_law 114 = .ok (.i2c, 1) := by decide +kernel
theorem d_L_law_115 : decode b_L_law 115 = .ok (.invokevirtual 35, 3) := by decide +kernel
theorem d_L_law_118 : decode b_L_law 118 = .ok (.if_icmp .eq 317, 3) := by decide +kernel
theorem d_L_law_121 : decode b_L_law 121 = .ok (.iconst 0, 1) := by decide +kernel
theorem d_L_law_122 : decode b_L_law 122 = .ok (.ireturn, 1) := by decide +kernel
theorem d_L_law_123 : decode b_L_law 123 = .ok (.aload_n 1, 1) := by decide +kernel
theorem d_L_law_124 : decode b_L_law 124 = .ok (.aload_n 3, 1) := by decide +kernel
theorem d_L_law_125 : decode b_L_law 125 = .ok (.invokestatic 36, 3) := by decide +kernel
theorem d_L_law_128 : decode b_L_law 128 = .ok (.istore 5, 2) := by decide +kernel
theorem d_L_law_130 : decode b_L_law 130 = .ok (.aload_n 2, 1) := by decide +kernel
theorem d_L_law_131 : decode b_L_law 131 = .ok (.invokevirtual 41, 3) := by decide +kernel
theorem d_L_law_134 : decode b_L_law 134 = .ok (.istore 6, 2) := by decide +kernel
theorem d_L_law_136 : decode b_L_law 136 = .ok (.aload_n 2, 1) := by decide +kernel
theorem d_L_law_137 : decode b_L_law 137 = .ok (.invokevirtual 42, 3) := by decide +kernel
theorem d_L_law_140 : decode b_L_law 140 = .ok (.iload 5, 2) := by decide +kernel
theorem d_L_law_142 : decode b_L_law 142 = .ok (.if_icmp .eq 5, 3) := by decide +kernel
theorem d_L_law_145 : decode b_L_law 145 = .ok (.iconst 0, 1) := by decide +kernel
theorem d_L_law_146 : decode b_L_law 146 = .ok (.ireturn, 1) := by decide +kernel
theorem d_L_law_147 : decode b_L_law 147 = .ok (.iload 5, 2) := by decide +kernel
theorem d_L_law_149 : decode b_L_law 149 = .ok (.ifCond .ne 15, 3) := by decide +kernel
theorem d_L_law_152 : decode b_L_law 152 = .ok (.aload_n 3, 1) := by decide +kernel
theorem d_L_law_153 : decode b_L_law 153 = .ok (.iconst 0, 1) := by decide +kernel
theorem d_L_law_154 : decode b_L_law 154 = .ok (.laload, 1) := by decide +kernel
theorem d_L_law_155 : decode b_L_law 155 = .ok (.iload 6, 2) := by decide +kernel
theorem d_L_law_157 : decode b_L_law 157 = .ok (.i2l, 1) := by decide +kernel
theorem d_L_law_158 : decode b_L_law 158 = .ok (.lcmp, 1) := by decide +kernel
theorem d_L_law_159 : decode b_L_law 159 = .ok (.ifCond .eq 5, 3) := by decide +kernel
theorem d_L_law_162 : decode b_L_law 162 = .ok (.iconst 0, 1) := by decide +kernel
theorem d_L_law_163 : decode b_L_law 163 = .ok (.ireturn, 1) := by decide +kernel
theorem d_L_law_164 : decode b_L_law 164 = .ok (.goto 271, 3) := by decide +kernel
theorem d_L_law_167 : decode b_L_law 167 = .ok (.aload_n 1, 1) := by decide +kernel
theorem d_L_law_168 : decode b_L_law 168 = .ok (.invokevirtual 45, 3) := by decide +kernel
theorem d_L_law_171 : decode b_L_law 171 = .ok (.aload_n 2, 1) := by decide +kernel
theorem d_L_law_172 : decode b_L_law 172 = .ok (.invokevirtual 48, 3) := by decide +kernel
theorem d_L_law_175 : decode b_L_law 175 = .ok (.if_icmp .eq 260, 3) := by decide +kernel
theorem d_L_law_178 : decode b_L_law 178 = .ok (.iconst 0, 1) := by decide +kernel
theorem d_L_law_179 : decode b_L_law 179 = .ok (.ireturn, 1) := by decide +kernel
theorem d_L_law_180 : decode b_L_law 180 = .ok (.aload_n 1, 1) := by decide +kernel
theorem d_L_law_181 : decode b_L_law 181 = .ok (.invokevirtual 49, 3) := by decide +kernel
theorem d_L_law_184 : decode b_L_law 184 = .ok (.aload_n 2, 1) := by decide +kernel
theorem d_L_law_185 : decode b_L_law 185 = .ok (.invokevirtual 52, 3) := by decide +kernel
theorem d_L_law_188 : decode b_L_law 188 = .ok (.if_icmp .eq 247, 3) := by decide +kernel
theorem d_L_law_191 : decode b_L_law 191 = .ok (.iconst 0, 1) := by decide +kernel
theorem d_L_law_192 : decode b_L_law 192 = .ok (.ireturn, 1) := by decide +kernel
theorem d_L_law_193 : decode b_L_law 193 = .ok (.aload_n 1, 1) := by decide +kernel
theorem d_L_law_194 : decode b_L_law 194 = .ok (.aload_n 0, 1) := by decide +kernel
theorem d_L_law_195 : decode b_L_law 195 = .ok (.iload 4, 2) := by decide +kernel
theorem d_L_law_197 : decode b_L_law 197 = .ok (.iconst 1, 1) := by decide +kernel
theorem d_L_law_198 : decode b_L_law 198 = .ok (.iadd, 1) := by decide +kernel
theorem d_L_law_199 : decode b_L_law 199 = .ok (.iaload, 1) := by decide +kernel
theorem d_L_law_200 : decode b_L_law 200 = .ok (.aload_n 0, 1) := by decide +kernel
theorem d_L_law_201 : decode b_L_law 201 = .ok (.iload 4, 2) := by decide +kernel
theorem d_L_law_203 : decode b_L_law 203 = .ok (.iconst 2, 1) := by decide +kernel
theorem d_L_law_204 : decode b_L_law 204 = .ok (.iadd, 1) := by decide +kernel
theorem d_L_law_205 : decode b_L_law 205 = .ok (.iaload, 1) := by decide +kernel
theorem d_L_law_206 : decode b_L_law 206 = .ok (.i2l, 1) := by decide +kernel
theorem d_L_law_207 : decode b_L_law 207 = .ok (.bipush 32, 2) := by decide +kernel
theorem d_L_law_209 : decode b_L_law 209 = .ok (.lshl, 1) := by decide +kernel
theorem d_L_law_210 : decode b_L_law 210 = .ok (.aload_n 0, 1) := by decide +kernel
theorem d_L_law_211 : decode b_L_law 211 = .ok (.iload 4, 2) := by decide +kernel
theorem d_L_law_213 : decode b_L_law 213 = .ok (.iconst 3, 1) := by decide +kernel
theorem d_L_law_214 : decode b_L_law 214 = .ok (.iadd, 1) := by decide +kernel
theorem d_L_law_215 : decode b_L_law 215 = .ok (.iaload, 1) := by decide +kernel
theorem d_L_law_216 : decode b_L_law 216 = .ok (.i2l, 1) := by decide +kernel
theorem d_L_law_217 : decode b_L_law 217 = .ok (.ldc2_w 53, 3) := by decide +kernel
theorem d_L_law_220 : decode b_L_law 220 = .ok (.land, 1) := by decide +kernel
theorem d_L_law_221 : decode b_L_law 221 = .ok (.lor, 1) := by decide +kernel
theorem d_L_law_222 : decode b_L_law 222 = .ok (.invokevirtual 55, 3) := by decide +kernel
theorem d_L_law_225 : decode b_L_law 225 = .ok (.aload_n 2, 1) := by decide +kernel
theorem d_L_law_226 : decode b_L_law 226 = .ok (.aload_n 0, 1) := by decide +kernel
theorem d_L_law_227 : decode b_L_law 227 = .ok (.iload 4, 2) := by decide +kernel
theorem d_L_law_229 : decode b_L_law 229 = .ok (.iconst 1, 1) := by decide +kernel
theorem d_L_law_230 : decode b_L_law 230 = .ok (.iadd, 1) := by decide +kernel
theorem d_L_law_231 : decode b_L_law 231 = .ok (.iaload, 1) := by decide +kernel
theorem d_L_law_232 : decode b_L_law 232 = .ok (.aload_n 0, 1) := by decide +kernel
theorem d_L_law_233 : decode b_L_law 233 = .ok (.iload 4, 2) := by decide +kernel
theorem d_L_law_235 : decode b_L_law 235 = .ok (.iconst 2, 1) := by decide +kernel
theorem d_L_law_236 : decode b_L_law 236 = .ok (.iadd, 1) := by decide +kernel
theorem d_L_law_237 : decode b_L_law 237 = .ok (.iaload, 1) := by decide +kernel
theorem d_L_law_238 : decode b_L_law 238 = .ok (.i2l, 1) := by decide +kernel
theorem d_L_law_239 : decode b_L_law 239 = .ok (.bipush 32, 2) := by decide +kernel
theorem d_L_law_241 : decode b_L_law 241 = .ok (.lshl, 1) := by decide +kernel
theorem d_L_law_242 : decode b_L_law 242 = .ok (.aload_n 0, 1) := by decide +kernel
theorem d_L_law_243 : decode b_L_law 243 = .ok (.iload 4, 2) := by decide +kernel
theorem d_L_law_245 : decode b_L_law 245 = .ok (.iconst 3, 1) := by decide +kernel
theorem d_L_law_246 : decode b_L_law 246 = .ok (.iadd, 1) := by decide +kernel
theorem d_L_law_247 : decode b_L_law 247 = .ok (.iaload, 1) := by decide +kernel
theorem d_L_law_248 : decode b_L_law 248 = .ok (.i2l, 1) := by decide +kernel
theorem d_L_law_249 : decode b_L_law 249 = .ok (.ldc2_w 53, 3) := by decide +kernel
theorem d_L_law_252 : decode b_L_law 252 = .ok (.land, 1) := by decide +kernel
theorem d_L_law_253 : decode b_L_law 253 = .ok (.lor, 1) := by decide +kernel
theorem d_L_law_254 : decode b_L_law 254 = .ok (.invokevirtual 59, 3) := by decide +kernel
theorem d_L_law_257 : decode b_L_law 257 = .ok (.if_icmp .eq 178, 3) := by decide +kernel
theorem d_L_law_260 : decode b_L_law 260 = .ok (.iconst 0, 1) := by decide +kernel
theorem d_L_law_261 : decode b_L_law 261 = .ok (.ireturn, 1) := by decide +kernel
theorem d_L_law_262 : decode b_L_law 262 = .ok (.aload_n 1, 1) := by decide +kernel
theorem d_L_law_263 : decode b_L_law 263 = .ok (.aload_n 0, 1) := by decide +kernel
theorem d_L_law_264 : decode b_L_law 264 = .ok (.iload 4, 2) := by decide +kernel
theorem d_L_law_266 : decode b_L_law 266 = .ok (.iconst 1, 1) := by decide +kernel
theorem d_L_law_267 : decode b_L_law 267 = .ok (.iadd, 1) := by decide +kernel
theorem d_L_law_268 : decode b_L_law 268 = .ok (.iaload, 1) := by decide +kernel
theorem d_L_law_269 : decode b_L_law 269 = .ok (.i2c, 1) := by decide +kernel
theorem d_L_law_270 : decode b_L_law 270 = .ok (.aload_n 3, 1) := by decide +kernel
theorem d_L_law_271 : decode b_L_law 271 = .ok (.invokestatic 60, 3) := by decide +kernel
theorem d_L_law_274 : decode b_L_law 274 = .ok (.istore 5, 2) := by decide +kernel
theorem d_L_law_276 : decode b_L_law 276 = .ok (.aload_n 2, 1) := by decide +kernel
theorem d_L_law_277 : decode b_L_law 277 = .ok (.aload_n 0, 1) := by decide +kernel
theorem d_L_law_278 : decode b_L_law 278 = .ok (.iload 4, 2) := by decide +kernel
theorem d_L_law_280 : decode b_L_law 280 = .ok (.iconst 1, 1) := by decide +kernel
theorem d_L_law_281 : decode b_L_law 281 = .ok (.iadd, 1) := by decide +kernel
theorem d_L_law_282 : decode b_L_law 282 = .ok (.iaload, 1) := by decide +kernel
theorem d_L_law_283 : decode b_L_law 283 = .ok (.i2c, 1) := by decide +kernel
theorem d_L_law_284 : decode b_L_law 284 = .ok (.invokevirtual 63, 3) := by decide +kernel
theorem d_L_law_287 : decode b_L_law 287 = .ok (.istore 6, 2) := by decide +kernel
theorem d_L_law_289 : decode b_L_law 289 = .ok (.aload_n 2, 1) := by decide +kernel
theorem d_L_law_290 : decode b_L_law 290 = .ok (.invokevirtual 42, 3) := by decide +kernel
theorem d_L_law_293 : decode b_L_law 293 = .ok (.iload 5, 2) := by decide +kernel
theorem d_L_law_295 : decode b_L_law 295 = .ok (.if_icmp .eq 5, 3) := by decide +kernel
theorem d_L_law_298 : decode b_L_law 298 = .ok (.iconst 0, 1) := by decide +kernel
theorem d_L_law_299 : decode b_L_law 299 = .ok (.ireturn, 1) := by decide +kernel
theorem d_L_law_300 : decode b_L_law 300 = .ok (.iload 5, 2) := by decide +kernel
theorem d_L_law_302 : decode b_L_law 302 = .ok (.ifCond .ne 15, 3) := by decide +kernel
theorem d_L_law_305 : decode b_L_law 305 = .ok (.aload_n 3, 1) := by decide +kernel
theorem d_L_law_306 : decode b_L_law 306 = .ok (.iconst 0, 1) := by decide +kernel
theorem d_L_law_307 : decode b_L_law 307 = .ok (.laload, 1) := by decide +kernel
theorem d_L_law_308 : decode b_L_law 308 = .ok (.iload 6, 2) := by decide +kernel
theorem d_L_law_310 : decode b_L_law 310 = .ok (.i2l, 1) := by decide +kernel
theorem d_L_law_311 : decode b_L_law 311 = .ok (.lcmp, 1) := by decide +kernel
theorem d_L_law_312 : decode b_L_law 312 = .ok (.ifCond .eq 5, 3) := by decide +kernel
theorem d_L_law_315 : decode b_L_law 315 = .ok (.iconst 0, 1) := by decide +kernel
theorem d_L_law_316 : decode b_L_law 316 = .ok (.ireturn, 1) := by decide +kernel
theorem d_L_law_317 : decode b_L_law 317 = .ok (.goto 118, 3) := by decide +kernel
theorem d_L_law_320 : decode b_L_law 320 = .ok (.aload_n 1, 1) := by decide +kernel
theorem d_L_law_321 : decode b_L_law 321 = .ok (.invokevirtual 64, 3) := by decide +kernel
theorem d_L_law_324 : decode b_L_law 324 = .ok (.aload_n 2, 1) := by decide +kernel
theorem d_L_law_325 : decode b_L_law 325 = .ok (.invokevirtual 67, 3) := by decide +kernel
theorem d_L_law_328 : decode b_L_law 328 = .ok (.if_icmp .eq 107, 3) := by decide +kernel
theorem d_L_law_331 : decode b_L_law 331 = .ok (.iconst 0, 1) := by decide +kernel
theorem d_L_law_332 : decode b_L_law 332 = .ok (.ireturn, 1) := by decide +kernel
theorem d_L_law_333 : decode b_L_law 333 = .ok (.aload_n 1, 1) := by decide +kernel
theorem d_L_law_334 : decode b_L_law 334 = .ok (.invokevirtual 68, 3) := by decide +kernel
theorem d_L_law_337 : decode b_L_law 337 = .ok (.aload_n 2, 1) := by decide +kernel
theorem d_L_law_338 : decode b_L_law 338 = .ok (.invokevirtual 72, 3) := by decide +kernel
theorem d_L_law_341 : decode b_L_law 341 = .ok (.lcmp, 1) := by decide +kernel
theorem d_L_law_342 : decode b_L_law 342 = .ok (.ifCond .eq 93, 3) := by decide +kernel
theorem d_L_law_345 : decode b_L_law 345 = .ok (.iconst 0, 1) := by decide +kernel
theorem d_L_law_346 : decode b_L_law 346 = .ok (.ireturn, 1) := by decide +kernel
theorem d_L_law_347 : decode b_L_law 347 = .ok (.aload_n 1, 1) := by decide +kernel
theorem d_L_law_348 : decode b_L_law 348 = .ok (.aload_n 0, 1) := by decide +kernel
theorem d_L_law_349 : decode b_L_law 349 = .ok (.iload 4, 2) := by decide +kernel
theorem d_L_law_351 : decode b_L_law 351 = .ok (.iconst 1, 1) := by decide +kernel
theorem d_L_law_352 : decode b_L_law 352 = .ok (.iadd, 1) := by decide +kernel
theorem d_L_law_353 : decode b_L_law 353 = .ok (.iaload, 1) := by decide +kernel
theorem d_L_law_354 : decode b_L_law 354 = .ok (.invokevirtual 73, 3) := by decide +kernel
theorem d_L_law_357 : decode b_L_law 357 = .ok (.aload_n 2, 1) := by decide +kernel
theorem d_L_law_358 : decode b_L_law 358 = .ok (.aload_n 0, 1) := by decide +kernel
theorem d_L_law_359 : decode b_L_law 359 = .ok (.iload 4, 2) := by decide +kernel
theorem d_L_law_361 : decode b_L_law 361 = .ok (.iconst 1, 1) := by decide +kernel
theorem d_L_law_362 : decode b_L_law 362 = .ok (.iadd, 1) := by decide +kernel
theorem d_L_law_363 : decode b_L_law 363 = .ok (.iaload, 1) := by decide +kernel
theorem d_L_law_364 : decode b_L_law 364 = .ok (.invokevirtual 77, 3) := by decide +kernel
theorem d_L_law_367 : decode b_L_law 367 = .ok (.if_icmp .eq 68, 3) := by decide +kernel
theorem d_L_law_370 : decode b_L_law 370 = .ok (.iconst 0, 1) := by decide +kernel
theorem d_L_law_371 : decode b_L_law 371 = .ok (.ireturn, 1) := by decide +kernel
theorem d_L_law_372 : decode b_L_law 372 = .ok (.aload_n 1, 1) := by decide +kernel
theorem d_L_law_373 : decode b_L_law 373 = .ok (.aload_n 0, 1) := by decide +kernel
theorem d_L_law_374 : decode b_L_law 374 = .ok (.iload 4, 2) := by decide +kernel
theorem d_L_law_376 : decode b_L_law 376 = .ok (.iconst 1, 1) := by decide +kernel
theorem d_L_law_377 : decode b_L_law 377 = .ok (.iadd, 1) := by decide +kernel
theorem d_L_law_378 : decode b_L_law 378 = .ok (.iaload, 1) := by decide +kernel
theorem d_L_law_379 : decode b_L_law 379 = .ok (.aload_n 0, 1) := by decide +kernel
theorem d_L_law_380 : decode b_L_law 380 = .ok (.iload 4, 2) := by decide +kernel
theorem d_L_law_382 : decode b_L_law 382 = .ok (.iconst 2, 1) := by decide +kernel
theorem d_L_law_383 : decode b_L_law 383 = .ok (.iadd, 1) := by decide +kernel
theorem d_L_law_384 : decode b_L_law 384 = .ok (.iaload, 1) := by decide +kernel
theorem d_L_law_385 : decode b_L_law 385 = .ok (.invokevirtual 78, 3) := by decide +kernel
theorem d_L_law_388 : decode b_L_law 388 = .ok (.aload_n 2, 1) := by decide +kernel
theorem d_L_law_389 : decode b_L_law 389 = .ok (.aload_n 0, 1) := by decide +kernel
theorem d_L_law_390 : decode b_L_law 390 = .ok (.iload 4, 2) := by decide +kernel
theorem d_L_law_392 : decode b_L_law 392 = .ok (.iconst 1, 1) := by decide +kernel
theorem d_L_law_393 : decode b_L_law 393 = .ok (.iadd, 1) := by decide +kernel
theorem d_L_law_394 : decode b_L_law 394 = .ok (.iaload, 1) := by decide +kernel
theorem d_L_law_395 : decode b_L_law 395 = .ok (.aload_n 0, 1) := by decide +kernel
theorem d_L_law_396 : decode b_L_law 396 = .ok (.iload 4, 2) := by decide +kernel
theorem d_L_law_398 : decode b_L_law 398 = .ok (.iconst 2, 1) := by decide +kernel
theorem d_L_law_399 : decode b_L_law 399 = .ok (.iadd, 1) := by decide +kernel
theorem d_L_law_400 : decode b_L_law 400 = .ok (.iaload, 1) := by decide +kernel
theorem d_L_law_401 : decode b_L_law 401 = .ok (.invokevirtual 82, 3) := by decide +kernel
theorem d_L_law_404 : decode b_L_law 404 = .ok (.lcmp, 1) := by decide +kernel
theorem d_L_law_405 : decode b_L_law 405 = .ok (.ifCond .eq 30, 3) := by decide +kernel
theorem d_L_law_408 : decode b_L_law 408 = .ok (.iconst 0, 1) := by decide +kernel
theorem d_L_law_409 : decode b_L_law 409 = .ok (.ireturn, 1) := by decide +kernel
theorem d_L_law_410 : decode b_L_law 410 = .ok (.aload_n 1, 1) := by decide +kernel
theorem d_L_law_411 : decode b_L_law 411 = .ok (.aload_n 0, 1) := by decide +kernel
theorem d_L_law_412 : decode b_L_law 412 = .ok (.iload 4, 2) := by decide +kernel
theorem d_L_law_414 : decode b_L_law 414 = .ok (.iconst 1, 1) := by decide +kernel
theorem d_L_law_415 : decode b_L_law 415 = .ok (.iadd, 1) := by decide +kernel
theorem d_L_law_416 : decode b_L_law 416 = .ok (.iaload, 1) := by decide +kernel
theorem d_L_law_417 : decode b_L_law 417 = .ok (.invokevirtual 83, 3) := by decide +kernel
theorem d_L_law_420 : decode b_L_law 420 = .ok (.aload_n 2, 1) := by decide +kernel
theorem d_L_law_421 : decode b_L_law 421 = .ok (.aload_n 0, 1) := by decide +kernel
theorem d_L_law_422 : decode b_L_law 422 = .ok (.iload 4, 2) := by decide +kernel
theorem d_L_law_424 : decode b_L_law 424 = .ok (.iconst 1, 1) := by decide +kernel
theorem d_L_law_425 : decode b_L_law 425 = .ok (.iadd, 1) := by decide +kernel
theorem d_L_law_426 : decode b_L_law 426 = .ok (.iaload, 1) := by decide +kernel
theorem d_L_law_427 : decode b_L_law 427 = .ok (.invokevirtual 86, 3) := by decide +kernel
theorem d_L_law_430 : decode b_L_law 430 = .ok (.if_icmp .eq 5, 3) := by decide +kernel
theorem d_L_law_433 : decode b_L_law 433 = .ok (.iconst 0, 1) := by decide +kernel
theorem d_L_law_434 : decode b_L_law 434 = .ok (.ireturn, 1) := by decide +kernel
theorem d_L_law_435 : decode b_L_law 435 = .ok (.iinc 4 4, 3) := by decide +kernel
theorem d_L_law_438 : decode b_L_law 438 = .ok (.goto (-415), 3) := by decide +kernel
theorem d_L_law_441 : decode b_L_law 441 = .ok (.iconst 1, 1) := by decide +kernel
theorem d_L_law_442 : decode b_L_law 442 = .ok (.ireturn, 1) := by decide +kernel
theorem nm_L_define (a : Array Value) (u : State) (h : (zWd y_L_define b_L_define 3 (some .int) [(0, 8, 11, 13), (0, 8, 14, 15)]).before a u = true) : ∃ mk, u.methodNamed? y_L_define = some mk := (Cond.codeWith_spec h).elim fun m hm => hm.elim fun _ hm => hm.elim fun _ hm => ⟨m, hm.1⟩
theorem nm_L_run (a : Array Value) (u : State) (h : (zWd y_L_run b_L_run 4 (some .int) [(0, 9, 12, 13), (0, 9, 15, 15), (0, 9, 18, 21), (0, 9, 21, 23), (0, 9, 24, 25)]).before a u = true) : ∃ mk, u.methodNamed? y_L_run = some mk := (Cond.codeWith_spec h).elim fun m hm => hm.elim fun _ hm => hm.elim fun _ hm => ⟨m, hm.1⟩
theorem cl_L_53 : Cond.constantLong "SoleArraysLaw" 53 4294967295 ∈ zTb := zt5 166 (by decide +kernel) rfl
/-- the script: an elder cell, by the name 1000000 -/
def zOld (G : zG) (K : zK) (Ls : Nat) (f : Nat → Int32) : Prop := va_X (zo G 1000000) Ls f (ks K) (zH0 G) ∧ zo G 1000000 < zz G ∧ Ls ≤ 2048
section LZ
variable {G : zG} {K : zK} {y : MethodName} {cc : ByteArray} {nL : Nat} {ret : Option FieldType} {hs : List (Nat × Nat × Nat × Nat)} {n k1 k2 pc : Nat} {σ : zS} {lv : List (Nat × Value)} {st : List Value} {Ls : Nat} {f : Nat → Int32}
theorem z_iald0 (C : zC G K y cc nL ret hs) (pc' : Nat) {j : Int32} (jn : Nat) (hd : decode cc pc = .ok (.iaload, 1)) (hp : pc + 1 = pc') (hX : zOld G K Ls f) (hj : j = nI jn) (hl : jn < Ls) (k : Z G K n σ k1 k2 pc' lv (.int (f jn) :: st)) : Z G K n σ k1 k2 pc lv (.int j :: .ref 1000000 :: st) := by
  subst hp; subst hj
  intro H locs ls h1 h2 h3
  obtain ⟨⟨scr, a1, a2, a3, a4, a5⟩, hb, hL⟩ := hX
  have kk := k H locs ls h1 h2 h3
  show W _ _ _ _ _ _ _ _ _ _ H locs k1 k2 _ (F0 _ pc ls (.int (nI jn) :: .ref (zo G 1000000) :: st.map (zV G)))
  have hcl : (nI jn).toNatClampNeg = jn := nI_clamp (by omega)
  exact W.iald (v := .int (f jn)) C.1 C.2.1 (by rw [h1.2.2.1 _ hb]; exact a1) a2 a3 (by rw [a4]; exact vp_in_nI hl (by omega)) (by rw [hcl]; exact a5 _ hl) rfl rfl hd kk
theorem z_alen0 (C : zC G K y cc nL ret hs) (pc' : Nat) (hd : decode cc pc = .ok (.arraylength, 1)) (hp : pc + 1 = pc') (hX : zOld G K Ls f) (k : Z G K n σ k1 k2 pc' lv (.int (nI Ls) :: st)) : Z G K n σ k1 k2 pc lv (.ref 1000000 :: st) := by
  subst hp
  intro H locs ls h1 h2 h3
  obtain ⟨⟨scr, a1, a2, a3, a4, a5⟩, hb, hL⟩ := hX
  have kk := k H locs ls h1 h2 h3
  show W _ _ _ _ _ _ _ _ _ _ H locs k1 k2 _ (F0 _ pc ls (.ref (zo G 1000000) :: st.map (zV G)))
  exact W.alen (n := nI Ls) C.1 C.2.1 (by rw [h1.2.2.1 _ hb]; exact a1) a2 (by rw [a4] <;> rfl) rfl rfl hd kk
end LZ
def lRoom (K : zK) (Ls : Nat) : Prop := 1400 ≤ (kR K).frames ∧ 84000 ≤ (kR K).locals ∧ 114 + 250 * Ls ≤ (kR K).cells ∧ 27457 + 3500 * Ls ≤ (kR K).slots
abbrev lv0 (t : Nat) : List (Nat × Value) := [(0, .ref 1000000), (1, .ref 0), (2, .ref 85), (3, .ref 113), (4, .int (nI (4 * t)))]
def lOut (σ : zS) : Prop := ∃ g, σ 113 = .inl (1, 1, .inr (.inl g))
def lFin (G : zG) (K : zK) (FR : rFR) (t : Nat) : Prop := ∀ (n : Nat) (σ : zS) (xs : mS) (xr : Int64) (xa : mA) (xl : mL) (xf : xF) (S : mS) (A : mA) (L : mL) (rn : Int64) (k1 k2 : Nat), 114 ≤ n → n ≤ 114 + 1000 * (t + 1) → lOut σ → Rel FR n σ xs xr xa xl xf S A L rn → k1 ≤ 114 + 1000 * (t + 1) → k2 ≤ 27457 + 14000 * (t + 1) → Z G K n (xOv xs xr xa xl xf (mOv S A L rn σ)) k1 k2 435 (lv0 t) []
def lAt (FR : rFR) (Ls t n : Nat) (σ : zS) (xs : mS) (xr : Int64) (xa : mA) (xl : mL) (xf : xF) (S : mS) (A : mA) (L : mL) (rn : Int64) (k1 k2 : Nat) : Prop := 4 * t + 4 ≤ Ls ∧ 114 ≤ n ∧ n ≤ 114 + 1000 * t ∧ lOut σ ∧ k1 ≤ 114 + 1000 * t ∧ k2 ≤ 27457 + 14000 * t ∧ Rel FR n σ xs xr xa xl xf S A L rn
section LW
variable {G : zG} {K : zK} {FR : rFR} {n k1 k2 t Ls : Nat} {f : Nat → Int32} {σ : zS} {xs : mS} {xr : Int64} {xa : mA} {xl : mL} {xf : xF} {S : mS} {A : mA} {L : mL} {rn : Int64}
theorem Rel.value (h : Rel FR n σ xs xr xa xl xf S A L rn) : (if xs 3 = 0 then xr else 0) = (if S 46 = 0 then rn else (0 : Int64)) := by
  obtain ⟨-, -, -, -, ⟨h1, h2⟩, -⟩ := h
  rw [h1]
  by_cases e : S 46 = 0
  · rw [if_pos e, if_pos e]
    rcases h2 with h2 | ⟨-, h2⟩ | ⟨h2, -⟩
    · rw [e] at h2; exact absurd h2 (by decide)
    · exact h2
    · rw [e] at h2; exact absurd h2 (by decide)
  · rw [if_neg e, if_neg e]
theorem Rel.size (h : Rel FR n σ xs xr xa xl xf S A L rn) (w : Int32) : ∃ a : Nat, ((xs 3 = 1 ∨ xs 3 = 2) → xr.toInt32 = nI a ∧ a < 8) ∧ xsize xs xa a w = msize S w := by
  obtain ⟨-, -, -, -, ⟨h1, h2⟩, -⟩ := h
  unfold xsize msize
  rw [h1]
  rcases h2 with h2 | ⟨h2, -⟩ | ⟨h2, a, r, c, ⟨h3, h4, h5, h6, -⟩, h7, h8, h9, -⟩
  · refine ⟨0, fun q => ?_, ?_⟩
    · rw [h2] at q; exact absurd q (by decide)
    · rw [h2, if_neg (fun q => absurd q.2 (by decide)), if_neg (fun q => absurd q.2 (by decide)), if_neg (fun q => absurd q.2 (by decide)), if_neg (fun q => absurd q.2 (by decide))]
  · refine ⟨0, fun q => ?_, ?_⟩
    · rw [h2] at q; exact absurd q (by decide)
    · rw [h2, if_neg (fun q => absurd q.2 (by decide)), if_neg (fun q => absurd q.2 (by decide)), if_neg (fun q => absurd q.2 (by decide)), if_neg (fun q => absurd q.2 (by decide))]
  · refine ⟨a, fun _ => ⟨h3, h4⟩, ?_⟩
    rw [h5, h6, ← h7, ← h8]
    have hp : 0 < S 46 := by rcases h2 with h2 | h2 <;> rw [h2] <;> decide
    by_cases e : w = 0
    · rw [if_pos ⟨e, h2⟩, if_pos ⟨e, hp⟩]
    · rw [if_neg (show ¬ (w = 0 ∧ (S 46 = 1 ∨ S 46 = 2)) from fun q => e q.1), if_neg (show ¬ (w = 0 ∧ 0 < S 46) from fun q => e q.1)]
theorem Rel.counted (h : Rel FR n σ xs xr xa xl xf S A L rn) (w : Int32) : xcounted xs w = mcounted S w := by
  obtain ⟨-, -, -, -, -, h1, h2, h3, h4⟩ := h
  unfold xcounted mcounted
  rw [h1, h2, h3, h4]
theorem l_c2 (C : zC G K y_L_law b_L_law 7 (some .boolean) []) (hr : lRoom K Ls) (hF : lFin G K FR t) (a : lAt FR Ls t n σ xs xr xa xl xf S A L rn k1 k2) : Z G K n (xOv xs xr xa xl xf (mOv S A L rn σ)) k1 k2 167 (lv0 t) [] := by
  obtain ⟨ht, hn, hn2, ho, hk1, hk2, h⟩ := a
  obtain ⟨r1, r2, r3, r4⟩ := hr
  refine z_aload_n C 168 d_L_law_167 rfl rfl ?_
  refine z_call C 171 (c_S_place (by omega)) w_S_place ini_S d_L_law_168 rfl (z_goV (As := []) C l_L_45 w_S_place d_L_law_168 (by omega) rfl rfl rfl) (Nat.le_of_ble_eq_true rfl) (by omega) (by omega) (by omega) (by omega) (fun v n' σ' hv => ?_) (fun x n' σ' hv => ?_)
  · obtain ⟨e0, e1, rfl⟩ := hv
    cases e0
    obtain rfl : n = n' := e1.symm
    rw [← mx_comm]
    refine z_aload_n C 172 d_L_law_171 rfl rfl ?_
    refine z_call C 175 (c_M_place (by omega)) w_M_place ini_M d_L_law_172 rfl (z_goV (As := []) C l_L_48 w_M_place d_L_law_172 (by omega) rfl rfl rfl) (Nat.le_of_ble_eq_true rfl) (by omega) (by omega) (by omega) (by omega) (fun v n' σ' hv => ?_) (fun x n' σ' hv => ?_)
    · obtain ⟨e0, e1, rfl⟩ := hv
      cases e0
      obtain rfl : n = n' := e1.symm
      rw [mx_comm]
      refine z_icmp_eq C 178 435 d_L_law_175 rfl (by decide) (fun _ => ?_) (fun h9 => absurd h.2.1 h9)
      exact hF _ _ _ _ _ _ _ _ _ _ _ _ _ (by omega) (by omega) ho (h.code 0) (by omega) (by omega)
    · cases hv.1
  · cases hv.1
theorem l_c6 (C : zC G K y_L_law b_L_law 7 (some .boolean) []) (hr : lRoom K Ls) (hF : lFin G K FR t) (a : lAt FR Ls t n σ xs xr xa xl xf S A L rn k1 k2) : Z G K n (xOv xs xr xa xl xf (mOv S A L rn σ)) k1 k2 320 (lv0 t) [] := by
  obtain ⟨ht, hn, hn2, ho, hk1, hk2, h⟩ := a
  obtain ⟨r1, r2, r3, r4⟩ := hr
  refine z_aload_n C 321 d_L_law_320 rfl rfl ?_
  refine z_call C 324 (c_S_kind (by omega)) w_S_kind ini_S d_L_law_321 rfl (z_goV (As := []) C l_L_64 w_S_kind d_L_law_321 (by omega) rfl rfl rfl) (Nat.le_of_ble_eq_true rfl) (by omega) (by omega) (by omega) (by omega) (fun v n' σ' hv => ?_) (fun x n' σ' hv => ?_)
  · obtain ⟨e0, e1, rfl⟩ := hv
    cases e0
    obtain rfl : n = n' := e1.symm
    rw [← mx_comm]
    refine z_aload_n C 325 d_L_law_324 rfl rfl ?_
    refine z_call C 328 (c_M_kind (by omega)) w_M_kind ini_M d_L_law_325 rfl (z_goV (As := []) C l_L_67 w_M_kind d_L_law_325 (by omega) rfl rfl rfl) (Nat.le_of_ble_eq_true rfl) (by omega) (by omega) (by omega) (by omega) (fun v n' σ' hv => ?_) (fun x n' σ' hv => ?_)
    · obtain ⟨e0, e1, rfl⟩ := hv
      cases e0
      obtain rfl : n = n' := e1.symm
      rw [mx_comm]
      refine z_icmp_eq C 331 435 d_L_law_328 rfl (by decide) (fun _ => ?_) (fun h9 => absurd h.2.2.2.2.1.1 h9)
      exact hF _ _ _ _ _ _ _ _ _ _ _ _ _ (by omega) (by omega) ho (h.code 0) (by omega) (by omega)
    · cases hv.1
  · cases hv.1
theorem l_c7 (C : zC G K y_L_law b_L_law 7 (some .boolean) []) (hr : lRoom K Ls) (hF : lFin G K FR t) (a : lAt FR Ls t n σ xs xr xa xl xf S A L rn k1 k2) : Z G K n (xOv xs xr xa xl xf (mOv S A L rn σ)) k1 k2 333 (lv0 t) [] := by
  obtain ⟨ht, hn, hn2, ho, hk1, hk2, h⟩ := a
  obtain ⟨r1, r2, r3, r4⟩ := hr
  refine z_aload_n C 334 d_L_law_333 rfl rfl ?_
  refine z_call C 337 (c_S_value (by omega)) w_S_value ini_S d_L_law_334 rfl (z_goV (As := []) C l_L_68 w_S_value d_L_law_334 (by omega) rfl rfl rfl) (Nat.le_of_ble_eq_true rfl) (by omega) (by omega) (by omega) (by omega) (fun v n' σ' hv => ?_) (fun x n' σ' hv => ?_)
  · obtain ⟨e0, e1, rfl⟩ := hv
    cases e0
    obtain rfl : n = n' := e1.symm
    rw [← mx_comm]
    refine z_aload_n C 338 d_L_law_337 rfl rfl ?_
    refine z_call C 341 (c_M_value (by omega)) w_M_value ini_M d_L_law_338 rfl (z_goV (As := []) C l_L_72 w_M_value d_L_law_338 (by omega) rfl rfl rfl) (Nat.le_of_ble_eq_true rfl) (by omega) (by omega) (by omega) (by omega) (fun v n' σ' hv => ?_) (fun x n' σ' hv => ?_)
    · obtain ⟨e0, e1, rfl⟩ := hv
      cases e0
      obtain rfl : n = n' := e1.symm
      rw [mx_comm]
      refine z_lcmp C 342 d_L_law_341 rfl ?_
      refine z_if_eq C 345 435 d_L_law_342 rfl (by decide) (fun _ => ?_) (fun h9 => absurd ((lg_cmp_eq _ _).mpr h.value) h9)
      exact hF _ _ _ _ _ _ _ _ _ _ _ _ _ (by omega) (by omega) ho (h.code 0) (by omega) (by omega)
    · cases hv.1
  · cases hv.1
theorem l_c8 (C : zC G K y_L_law b_L_law 7 (some .boolean) []) (hX : zOld G K Ls f) (hr : lRoom K Ls) (hF : lFin G K FR t) (a : lAt FR Ls t n σ xs xr xa xl xf S A L rn k1 k2) : Z G K n (xOv xs xr xa xl xf (mOv S A L rn σ)) k1 k2 347 (lv0 t) [] := by
  obtain ⟨ht, hn, hn2, ho, hk1, hk2, h⟩ := a
  obtain ⟨r1, r2, r3, r4⟩ := hr
  obtain ⟨ar, ha, hs⟩ := h.size (f (4 * t + 1))
  refine z_aload_n C 348 d_L_law_347 rfl rfl ?_
  refine z_aload_n C 349 d_L_law_348 rfl rfl ?_
  refine z_iload C 351 d_L_law_349 rfl rfl ?_
  refine z_iconst C 352 d_L_law_351 rfl 1 (by decide) ?_
  refine z_iadd C 353 d_L_law_352 rfl ?_
  refine z_iald0 C 354 (4 * t + 1) d_L_law_353 rfl hX (nI_add _ 1) (by omega) ?_
  refine z_call C 357 (c_S_size (by omega) _ ar ha) w_S_size ini_S d_L_law_354 rfl (z_goV (As := [.int (f (4 * t + 1))]) C l_L_73 w_S_size d_L_law_354 (by omega) rfl rfl rfl) (Nat.le_of_ble_eq_true rfl) (by omega) (by omega) (by omega) (by omega) (fun v n' σ' hv => ?_) (fun x n' σ' hv => ?_)
  · obtain ⟨e0, e1, rfl⟩ := hv
    cases e0
    obtain rfl : n = n' := e1.symm
    rw [← mx_comm]
    refine z_aload_n C 358 d_L_law_357 rfl rfl ?_
    refine z_aload_n C 359 d_L_law_358 rfl rfl ?_
    refine z_iload C 361 d_L_law_359 rfl rfl ?_
    refine z_iconst C 362 d_L_law_361 rfl 1 (by decide) ?_
    refine z_iadd C 363 d_L_law_362 rfl ?_
    refine z_iald0 C 364 (4 * t + 1) d_L_law_363 rfl hX (nI_add _ 1) (by omega) ?_
    refine z_call C 367 (c_M_size (by omega) _) w_M_size ini_M d_L_law_364 rfl (z_goV (As := [.int (f (4 * t + 1))]) C l_L_77 w_M_size d_L_law_364 (by omega) rfl rfl rfl) (Nat.le_of_ble_eq_true rfl) (by omega) (by omega) (by omega) (by omega) (fun v n' σ' hv => ?_) (fun x n' σ' hv => ?_)
    · obtain ⟨e0, e1, rfl⟩ := hv
      cases e0
      obtain rfl : n = n' := e1.symm
      rw [mx_comm]
      refine z_icmp_eq C 370 435 d_L_law_367 rfl (by decide) (fun _ => ?_) (fun h9 => absurd hs h9)
      exact hF _ _ _ _ _ _ _ _ _ _ _ _ _ (by omega) (by omega) ho (h.code 0) (by omega) (by omega)
    · cases hv.1
  · cases hv.1
theorem l_c10 (C : zC G K y_L_law b_L_law 7 (some .boolean) []) (hX : zOld G K Ls f) (hr : lRoom K Ls) (hF : lFin G K FR t) (a : lAt FR Ls t n σ xs xr xa xl xf S A L rn k1 k2) : Z G K n (xOv xs xr xa xl xf (mOv S A L rn σ)) k1 k2 410 (lv0 t) [] := by
  obtain ⟨ht, hn, hn2, ho, hk1, hk2, h⟩ := a
  obtain ⟨r1, r2, r3, r4⟩ := hr
  refine z_aload_n C 411 d_L_law_410 rfl rfl ?_
  refine z_aload_n C 412 d_L_law_411 rfl rfl ?_
  refine z_iload C 414 d_L_law_412 rfl rfl ?_
  refine z_iconst C 415 d_L_law_414 rfl 1 (by decide) ?_
  refine z_iadd C 416 d_L_law_415 rfl ?_
  refine z_iald0 C 417 (4 * t + 1) d_L_law_416 rfl hX (nI_add _ 1) (by omega) ?_
  refine z_call C 420 (c_S_counted (by omega) _) w_S_counted ini_S d_L_law_417 rfl (z_goV (As := [.int (f (4 * t + 1))]) C l_L_83 w_S_counted d_L_law_417 (by omega) rfl rfl rfl) (Nat.le_of_ble_eq_true rfl) (by omega) (by omega) (by omega) (by omega) (fun v n' σ' hv => ?_) (fun x n' σ' hv => ?_)
  · obtain ⟨e0, e1, rfl⟩ := hv
    cases e0
    obtain rfl : n = n' := e1.symm
    rw [← mx_comm]
    refine z_aload_n C 421 d_L_law_420 rfl rfl ?_
    refine z_aload_n C 422 d_L_law_421 rfl rfl ?_
    refine z_iload C 424 d_L_law_422 rfl rfl ?_
    refine z_iconst C 425 d_L_law_424 rfl 1 (by decide) ?_
    refine z_iadd C 426 d_L_law_425 rfl ?_
    refine z_iald0 C 427 (4 * t + 1) d_L_law_426 rfl hX (nI_add _ 1) (by omega) ?_
    refine z_call C 430 (c_M_counted (by omega) _) w_M_counted ini_M d_L_law_427 rfl (z_goV (As := [.int (f (4 * t + 1))]) C l_L_86 w_M_counted d_L_law_427 (by omega) rfl rfl rfl) (Nat.le_of_ble_eq_true rfl) (by omega) (by omega) (by omega) (by omega) (fun v n' σ' hv => ?_) (fun x n' σ' hv => ?_)
    · obtain ⟨e0, e1, rfl⟩ := hv
      cases e0
      obtain rfl : n = n' := e1.symm
      rw [mx_comm]
      refine z_icmp_eq C 433 435 d_L_law_430 rfl (by decide) (fun _ => ?_) (fun h9 => absurd (h.counted _) h9)
      exact hF _ _ _ _ _ _ _ _ _ _ _ _ _ (by omega) (by omega) ho (h.code 0) (by omega) (by omega)
    · cases hv.1
  · cases hv.1
theorem l_c3 (C : zC G K y_L_law b_L_law 7 (some .boolean) []) (hr : lRoom K Ls) (hO : rFRok FR) (hF : lFin G K FR t) (a : lAt FR Ls t n σ xs xr xa xl xf S A L rn k1 k2) : Z G K n (xOv xs xr xa xl xf (mOv S A L rn σ)) k1 k2 180 (lv0 t) [] := by
  obtain ⟨ht, hn, hn2, ho, hk1, hk2, h⟩ := a
  obtain ⟨r1, r2, r3, r4⟩ := hr
  refine z_aload_n C 181 d_L_law_180 rfl rfl ?_
  refine z_call C 184 (c_S_clear (by omega)) w_S_clear ini_S d_L_law_181 rfl (z_goV (As := []) C l_L_49 w_S_clear d_L_law_181 (by omega) rfl rfl rfl) (Nat.le_of_ble_eq_true rfl) (by omega) (by omega) (by omega) (by omega) (fun v n' σ' hv => ?_) (fun x n' σ' hv => ?_)
  · obtain ⟨e0, e1, rfl⟩ := hv
    cases e0
    obtain rfl : n = n' := e1.symm
    rw [← mx_comm]
    refine z_aload_n C 185 d_L_law_184 rfl rfl ?_
    refine z_call C 188 (c_M_clear (by omega)) w_M_clear ini_M d_L_law_185 rfl (z_goV (As := []) C l_L_52 w_M_clear d_L_law_185 (by omega) rfl rfl rfl) (Nat.le_of_ble_eq_true rfl) (by omega) (by omega) (by omega) (by omega) (fun v n' σ' hv => ?_) (fun x n' σ' hv => ?_)
    · obtain ⟨e0, e1, rfl⟩ := hv
      cases e0
      obtain rfl : n = n' := e1.symm
      rw [mx_comm]
      refine z_icmp_eq C 191 435 d_L_law_188 rfl (by decide) (fun _ => ?_) (fun h9 => absurd h.2.2.1.1 h9)
      exact hF _ _ _ _ _ _ _ _ _ _ _ _ _ (by omega) (by omega) ho (Rel.clear hO (h.code 0)) (by omega) (by omega)
    · cases hv.1
  · cases hv.1
end LW
