theorem d_L_law_0 : decode b_L_law 0 = .ok (.new 8, 3) := by decide +kernel
theorem d_L_law_3 : decode b_L_law 3 = .ok (.dup, 1) := by decide +kernel
theorem d_L_law_4 : decode b_L_law 4 = .ok (.invokespecial 69, 3) := by decide +kernel
theorem d_L_law_7 : decode b_L_law 7 = .ok (.astore_n 1, 1) := by decide +kernel
theorem d_L_law_8 : decode b_L_law 8 = .ok (.new 70, 3) := by decide +kernel
theorem d_L_law_11 : decode b_L_law 11 = .ok (.dup, 1) := by decide +kernel
theorem d_L_law_12 : decode b_L_law 12 = .ok (.invokespecial 72, 3) := by decide +kernel
theorem d_L_law_15 : decode b_L_law 15 = .ok (.astore_n 2, 1) := by decide +kernel
theorem d_L_law_16 : decode b_L_law 16 = .ok (.iconst 1, 1) := by decide +kernel
theorem d_L_law_17 : decode b_L_law 17 = .ok (.newarray .long, 2) := by decide +kernel
theorem d_L_law_19 : decode b_L_law 19 = .ok (.astore_n 3, 1) := by decide +kernel
theorem d_L_law_20 : decode b_L_law 20 = .ok (.iconst 0, 1) := by decide +kernel
theorem d_L_law_21 : decode b_L_law 21 = .ok (.istore 4, 2) := by decide +kernel
theorem d_L_law_23 : decode b_L_law 23 = .ok (.iload 4, 2) := by decide +kernel
theorem d_L_law_25 : decode b_L_law 25 = .ok (.aload_n 0, 1) := by decide +kernel
theorem d_L_law_26 : decode b_L_law 26 = .ok (.arraylength, 1) := by decide +kernel
theorem d_L_law_27 : decode b_L_law 27 = .ok (.iconst 5, 1) := by decide +kernel
theorem d_L_law_28 : decode b_L_law 28 = .ok (.isub, 1) := by decide +kernel
theorem d_L_law_29 : decode b_L_law 29 = .ok (.if_icmp .gt 1084, 3) := by decide +kernel
theorem d_L_law_32 : decode b_L_law 32 = .ok (.aload_n 0, 1) := by decide +kernel
theorem d_L_law_33 : decode b_L_law 33 = .ok (.iload 4, 2) := by decide +kernel
theorem d_L_law_35 : decode b_L_law 35 = .ok (.iaload, 1) := by decide +kernel
theorem d_L_law_36 : decode b_L_law 36 = .ok (.bipush 31, 2) := by decide +kernel
theorem d_L_law_38 : decode b_L_law 38 = .ok (.iand, 1) := by decide +kernel
theorem d_L_law_39 : decode b_L_law 39 = .ok (.tableswitch 1068 0 17 #[85, 153, 244, 316, 404, 415, 428, 496, 564, 632, 688, 732, 788, 856, 912, 936, 980, 1024], 85) := by decide +kernel
theorem d_L_law_124 : decode b_L_law 124 = .ok (.aload_n 1, 1) := by decide +kernel
theorem d_L_law_125 : decode b_L_law 125 = .ok (.aload_n 0, 1) := by decide +kernel
theorem d_L_law_126 : decode b_L_law 126 = .ok (.iload 4, 2) := by decide +kernel
theorem d_L_law_128 : decode b_L_law 128 = .ok (.iconst 1, 1) := by decide +kernel
theorem d_L_law_129 : decode b_L_law 129 = .ok (.iadd, 1) := by decide +kernel
theorem d_L_law_130 : decode b_L_law 130 = .ok (.iaload, 1) := by decide +kernel
theorem d_L_law_131 : decode b_L_law 131 = .ok (.aload_n 0, 1) := by decide +kernel
theorem d_L_law_132 : decode b_L_law 132 = .ok (.iload 4, 2) := by decide +kernel
theorem d_L_law_134 : decode b_L_law 134 = .ok (.iconst 2, 1) := by decide +kernel
theorem d_L_law_135 : decode b_L_law 135 = .ok (.iadd, 1) := by decide +kernel
theorem d_L_law_136 : decode b_L_law 136 = .ok (.iaload, 1) := by decide +kernel
theorem d_L_law_137 : decode b_L_law 137 = .ok (.aload_n 3, 1) := by decide +kernel
theorem d_L_law_138 : decode b_L_law 138 = .ok (.invokestatic 73, 3) := by decide +kernel
theorem d_L_law_141 : decode b_L_law 141 = .ok (.istore 5, 2) := by decide +kernel
theorem d_L_law_143 : decode b_L_law 143 = .ok (.aload_n 2, 1) := by decide +kernel
theorem d_L_law_144 : decode b_L_law 144 = .ok (.aload_n 0, 1) := by decide +kernel
theorem d_L_law_145 : decode b_L_law 145 = .ok (.iload 4, 2) := by decide +kernel
theorem d_L_law_147 : decode b_L_law 147 = .ok (.iconst 1, 1) := by decide +kernel
theorem d_L_law_148 : decode b_L_law 148 = .ok (.iadd, 1) := by decide +kernel
theorem d_L_law_149 : decode b_L_law 149 = .ok (.iaload, 1) := by decide +kernel
theorem d_L_law_150 : decode b_L_law 150 = .ok (.aload_n 0, 1) := by decide +kernel
theorem d_L_law_151 : decode b_L_law 151 = .ok (.iload 4, 2) := by decide +kernel
theorem d_L_law_153 : decode b_L_law 153 = .ok (.iconst 2, 1) := by decide +kernel
theorem d_L_law_154 : decode b_L_law 154 = .ok (.iadd, 1) := by decide +kernel
theorem d_L_law_155 : decode b_L_law 155 = .ok (.iaload, 1) := by decide +kernel
theorem d_L_law_156 : decode b_L_law 156 = .ok (.invokevirtual 78, 3) := by decide +kernel
theorem d_L_law_159 : decode b_L_law 159 = .ok (.istore 6, 2) := by decide +kernel
theorem d_L_law_161 : decode b_L_law 161 = .ok (.aload_n 2, 1) := by decide +kernel
theorem d_L_law_162 : decode b_L_law 162 = .ok (.invokevirtual 79, 3) := by decide +kernel
theorem d_L_law_165 : decode b_L_law 165 = .ok (.iload 5, 2) := by decide +kernel
theorem d_L_law_167 : decode b_L_law 167 = .ok (.if_icmp .eq 5, 3) := by decide +kernel
theorem d_L_law_170 : decode b_L_law 170 = .ok (.iconst 0, 1) := by decide +kernel
theorem d_L_law_171 : decode b_L_law 171 = .ok (.ireturn, 1) := by decide +kernel
theorem d_L_law_172 : decode b_L_law 172 = .ok (.iload 5, 2) := by decide +kernel
theorem d_L_law_174 : decode b_L_law 174 = .ok (.ifCond .ne 15, 3) := by decide +kernel
theorem d_L_law_177 : decode b_L_law 177 = .ok (.aload_n 3, 1) := by decide +kernel
theorem d_L_law_178 : decode b_L_law 178 = .ok (.iconst 0, 1) := by decide +kernel
theorem d_L_law_179 : decode b_L_law 179 = .ok (.laload, 1) := by decide +kernel
theorem d_L_law_180 : decode b_L_law 180 = .ok (.iload 6, 2) := by decide +kernel
theorem d_L_law_182 : decode b_L_law 182 = .ok (.i2l, 1) := by decide +kernel
theorem d_L_law_183 : decode b_L_law 183 = .ok (.lcmp, 1) := by decide +kernel
theorem d_L_law_184 : decode b_L_law 184 = .ok (.ifCond .eq 5, 3) := by decide +kernel
theorem d_L_law_187 : decode b_L_law 187 = .ok (.iconst 0, 1) := by decide +kernel
theorem d_L_law_188 : decode b_L_law 188 = .ok (.ireturn, 1) := by decide +kernel
theorem d_L_law_189 : decode b_L_law 189 = .ok (.goto 918, 3) := by decide +kernel
theorem d_L_law_192 : decode b_L_law 192 = .ok (.aload_n 1, 1) := by decide +kernel
theorem d_L_law_193 : decode b_L_law 193 = .ok (.aload_n 0, 1) := by decide +kernel
theorem d_L_law_194 : decode b_L_law 194 = .ok (.iload 4, 2) := by decide +kernel
theorem d_L_law_196 : decode b_L_law 196 = .ok (.iconst 1, 1) := by decide +kernel
theorem d_L_law_197 : decode b_L_law 197 = .ok (.iadd, 1) := by decide +kernel
theorem d_L_law_198 : decode b_L_law 198 = .ok (.iaload, 1) := by decide +kernel
theorem d_L_law_199 : decode b_L_law 199 = .ok (.aload_n 0, 1) := by decide +kernel
theorem d_L_law_200 : decode b_L_law 200 = .ok (.iload 4, 2) := by decide +kernel
theorem d_L_law_202 : decode b_L_law 202 = .ok (.iconst 2, 1) := by decide +kernel
theorem d_L_law_203 : decode b_L_law 203 = .ok (.iadd, 1) := by decide +kernel
theorem d_L_law_204 : decode b_L_law 204 = .ok (.iaload, 1) := by decide +kernel
theorem d_L_law_205 : decode b_L_law 205 = .ok (.ifCond .eq 7, 3) := by decide +kernel
theorem d_L_law_208 : decode b_L_law 208 = .ok (.iconst 1, 1) := by decide +kernel
theorem d_L_law_209 : decode b_L_law 209 = .ok (.goto 4, 3) := by decide +kernel
theorem d_L_law_212 : decode b_L_law 212 = .ok (.iconst 0, 1) := by decide +kernel
theorem d_L_law_213 : decode b_L_law 213 = .ok (.aload_n 3, 1) := by decide +kernel
theorem d_L_law_214 : decode b_L_law 214 = .ok (.invokestatic 82, 3) := by decide +kernel
theorem d_L_law_217 : decode b_L_law 217 = .ok (.istore 5, 2) := by decide +kernel
theorem d_L_law_219 : decode b_L_law 219 = .ok (.aload_n 2, 1) := by decide +kernel
theorem d_L_law_220 : decode b_L_law 220 = .ok (.aload_n 0, 1) := by decide +kernel
theorem d_L_law_221 : decode b_L_law 221 = .ok (.iload 4, 2) := by decide +kernel
theorem d_L_law_223 : decode b_L_law 223 = .ok (.iconst 1, 1) := by decide +kernel
theorem d_L_law_224 : decode b_L_law 224 = .ok (.iadd, 1) := by decide +kernel
theorem d_L_law_225 : decode b_L_law 225 = .ok (.iaload, 1) := by decide +kernel
theorem d_L_law_226 : decode b_L_law 226 = .ok (.aload_n 0, 1) := by decide +kernel
theorem d_L_law_227 : decode b_L_law 227 = .ok (.iload 4, 2) := by decide +kernel
theorem d_L_law_229 : decode b_L_law 229 = .ok (.iconst 2, 1) := by decide +kernel
theorem d_L_law_230 : decode b_L_law 230 = .ok (.iadd, 1) := by decide +kernel
theorem d_L_law_231 : decode b_L_law 231 = .ok (.iaload, 1) := by decide +kernel
theorem d_L_law_232 : decode b_L_law 232 = .ok (.ifCond .eq 7, 3) := by decide +kernel
theorem d_L_law_235 : decode b_L_law 235 = .ok (.iconst 1, 1) := by decide +kernel
theorem d_L_law_236 : decode b_L_law 236 = .ok (.goto 4, 3) := by decide +kernel
theorem d_L_law_239 : decode b_L_law 239 = .ok (.iconst 0, 1) := by decide +kernel
theorem d_L_law_240 : decode b_L_law 240 = .ok (.invokevirtual 85, 3) := by decide +kernel
theorem d_L_law_243 : decode b_L_law 243 = .ok (.istore 6, 2) := by decide +kernel
theorem d_L_law_245 : decode b_L_law 245 = .ok (.aload_n 2, 1) := by decide +kernel
theorem d_L_law_246 : decode b_L_law 246 = .ok (.invokevirtual 79, 3) := by decide +kernel
theorem d_L_law_249 : decode b_L_law 249 = .ok (.iload 5, 2) := by decide +kernel
theorem d_L_law_251 : decode b_L_law 251 = .ok (.if_icmp .eq 5, 3) := by decide +kernel
theorem d_L_law_254 : decode b_L_law 254 = .ok (.iconst 0, 1) := by decide +kernel
theorem d_L_law_255 : decode b_L_law 255 = .ok (.ireturn, 1) := by decide +kernel
theorem d_L_law_256 : decode b_L_law 256 = .ok (.iload 5, 2) := by decide +kernel
theorem d_L_law_258 : decode b_L_law 258 = .ok (.ifCond .ne 22, 3) := by decide +kernel
theorem d_L_law_261 : decode b_L_law 261 = .ok (.aload_n 3, 1) := by decide +kernel
theorem d_L_law_262 : decode b_L_law 262 = .ok (.iconst 0, 1) := by decide +kernel
theorem d_L_law_263 : decode b_L_law 263 = .ok (.laload, 1) := by decide +kernel
theorem d_L_law_264 : decode b_L_law 264 = .ok (.iload 6, 2) := by decide +kernel
theorem d_L_law_266 : decode b_L_law 266 = .ok (.ifCond .eq 7, 3) := by decide +kernel
theorem d_L_law_269 : decode b_L_law 269 = .ok (.lconst 1, 1) := by decide +kernel
theorem d_L_law_270 : decode b_L_law 270 = .ok (.goto 4, 3) := by decide +kernel
theorem d_L_law_273 : decode b_L_law 273 = .ok (.lconst 0, 1) := by decide +kernel
theorem d_L_law_274 : decode b_L_law 274 = .ok (.lcmp, 1) := by decide +kernel
theorem d_L_law_275 : decode b_L_law 275 = .ok (.ifCond .eq 5, 3) := by decide +kernel
theorem d_L_law_278 : decode b_L_law 278 = .ok (.iconst 0, 1) := by decide +kernel
theorem d_L_law_279 : decode b_L_law 279 = .ok (.ireturn, 1) := by decide +kernel
theorem d_L_law_280 : decode b_L_law 280 = .ok (.goto 827, 3) := by decide +kernel
theorem d_L_law_283 : decode b_L_law 283 = .ok (.aload_n 1, 1) := by decide +kernel
theorem d_L_law_284 : decode b_L_law 284 = .ok (.aload_n 0, 1) := by decide +kernel
theorem d_L_law_285 : decode b_L_law 285 = .ok (.iload 4, 2) := by decide +kernel
theorem d_L_law_287 : decode b_L_law 287 = .ok (.iconst 1, 1) := by decide +kernel
theorem d_L_law_288 : decode b_L_law 288 = .ok (.iadd, 1) := by decide +kernel
theorem d_L_law_289 : decode b_L_law 289 = .ok (.iaload, 1) := by decide +kernel
theorem d_L_law_290 : decode b_L_law 290 = .ok (.aload_n 0, 1) := by decide +kernel
theorem d_L_law_291 : decode b_L_law 291 = .ok (.iload 4, 2) := by decide +kernel
theorem d_L_law_293 : decode b_L_law 293 = .ok (.iconst 2, 1) := by decide +kernel
theorem d_L_law_294 : decode b_L_law 294 = .ok (.iadd, 1) := by decide +kernel
theorem d_L_law_295 : decode b_L_law 295 = .ok (.iaload, 1) := by decide +kernel
theorem d_L_law_296 : decode b_L_law 296 = .ok (.aload_n 0, 1) := by decide +kernel
theorem d_L_law_297 : decode b_L_law 297 = .ok (.iload 4, 2) := by decide +kernel
theorem d_L_law_299 : decode b_L_law 299 = .ok (.iconst 3, 1) := by decide +kernel
theorem d_L_law_300 : decode b_L_law 300 = .ok (.iadd, 1) := by decide +kernel
theorem d_L_law_301 : decode b_L_law 301 = .ok (.iaload, 1) := by decide +kernel
theorem d_L_law_302 : decode b_L_law 302 = .ok (.aload_n 0, 1) := by decide +kernel
theorem d_L_law_303 : decode b_L_law 303 = .ok (.iload 4, 2) := by decide +kernel
theorem d_L_law_305 : decode b_L_law 305 = .ok (.iconst 4, 1) := by decide +kernel
theorem d_L_law_306 : decode b_L_law 306 = .ok (.iadd, 1) := by decide +kernel
theorem d_L_law_307 : decode b_L_law 307 = .ok (.iaload, 1) := by decide +kernel
theorem d_L_law_308 : decode b_L_law 308 = .ok (.invokestatic 86, 3) := by decide +kernel
theorem d_L_law_311 : decode b_L_law 311 = .ok (.istore 5, 2) := by decide +kernel
theorem d_L_law_313 : decode b_L_law 313 = .ok (.aload_n 2, 1) := by decide +kernel
theorem d_L_law_314 : decode b_L_law 314 = .ok (.aload_n 0, 1) := by decide +kernel
theorem d_L_law_315 : decode b_L_law 315 = .ok (.iload 4, 2) := by decide +kernel
theorem d_L_law_317 : decode b_L_law 317 = .ok (.iconst 1, 1) := by decide +kernel
theorem d_L_law_318 : decode b_L_law 318 = .ok (.iadd, 1) := by decide +kernel
theorem d_L_law_319 : decode b_L_law 319 = .ok (.iaload, 1) := by decide +kernel
theorem d_L_law_320 : decode b_L_law 320 = .ok (.aload_n 0, 1) := by decide +kernel
theorem d_L_law_321 : decode b_L_law 321 = .ok (.iload 4, 2) := by decide +kernel
theorem d_L_law_323 : decode b_L_law 323 = .ok (.iconst 2, 1) := by decide +kernel
theorem d_L_law_324 : decode b_L_law 324 = .ok (.iadd, 1) := by decide +kernel
theorem d_L_law_325 : decode b_L_law 325 = .ok (.iaload, 1) := by decide +kernel
theorem d_L_law_326 : decode b_L_law 326 = .ok (.aload_n 0, 1) := by decide +kernel
theorem d_L_law_327 : decode b_L_law 327 = .ok (.iload 4, 2) := by decide +kernel
theorem d_L_law_329 : decode b_L_law 329 = .ok (.iconst 3, 1) := by decide +kernel
theorem d_L_law_330 : decode b_L_law 330 = .ok (.iadd, 1) := by decide +kernel
theorem d_L_law_331 : decode b_L_law 331 = .ok (.iaload, 1) := by decide +kernel
theorem d_L_law_332 : decode b_L_law 332 = .ok (.aload_n 0, 1) := by decide +kernel
theorem d_L_law_333 : decode b_L_law 333 = .ok (.iload 4, 2) := by decide +kernel
theorem d_L_law_335 : decode b_L_law 335 = .ok (.iconst 4, 1) := by decide +kernel
theorem d_L_law_336 : decode b_L_law 336 = .ok (.iadd, 1) := by decide +kernel
theorem d_L_law_337 : decode b_L_law 337 = .ok (.iaload, 1) := by decide +kernel
theorem d_L_law_338 : decode b_L_law 338 = .ok (.invokevirtual 89, 3) := by decide +kernel
theorem d_L_law_341 : decode b_L_law 341 = .ok (.aload_n 2, 1) := by decide +kernel
theorem d_L_law_342 : decode b_L_law 342 = .ok (.invokevirtual 79, 3) := by decide +kernel
theorem d_L_law_345 : decode b_L_law 345 = .ok (.iload 5, 2) := by decide +kernel
theorem d_L_law_347 : decode b_L_law 347 = .ok (.if_icmp .eq 5, 3) := by decide +kernel
theorem d_L_law_350 : decode b_L_law 350 = .ok (.iconst 0, 1) := by decide +kernel
theorem d_L_law_351 : decode b_L_law 351 = .ok (.ireturn, 1) := by decide +kernel
theorem d_L_law_352 : decode b_L_law 352 = .ok (.goto 755, 3) := by decide +kernel
theorem d_L_law_355 : decode b_L_law 355 = .ok (.aload_n 1, 1) := by decide +kernel
theorem d_L_law_356 : decode b_L_law 356 = .ok (.aload_n 0, 1) := by decide +kernel
theorem d_L_law_357 : decode b_L_law 357 = .ok (.iload 4, 2) := by decide +kernel
theorem d_L_law_359 : decode b_L_law 359 = .ok (.iconst 1, 1) := by decide +kernel
theorem d_L_law_360 : decode b_L_law 360 = .ok (.iadd, 1) := by decide +kernel
theorem d_L_law_361 : decode b_L_law 361 = .ok (.iaload, 1) := by decide +kernel
theorem d_L_law_362 : decode b_L_law 362 = .ok (.aload_n 0, 1) := by decide +kernel
theorem d_L_law_363 : decode b_L_law 363 = .ok (.iload 4, 2) := by decide +kernel
theorem d_L_law_365 : decode b_L_law 365 = .ok (.iconst 2, 1) := by decide +kernel
theorem d_L_law_366 : decode b_L_law 366 = .ok (.iadd, 1) := by decide +kernel
theorem d_L_law_367 : decode b_L_law 367 = .ok (.iaload, 1) := by decide +kernel
theorem d_L_law_368 : decode b_L_law 368 = .ok (.aload_n 0, 1) := by decide +kernel
theorem d_L_law_369 : decode b_L_law 369 = .ok (.iload 4, 2) := by decide +kernel
theorem d_L_law_371 : decode b_L_law 371 = .ok (.iconst 3, 1) := by decide +kernel
theorem d_L_law_372 : decode b_L_law 372 = .ok (.iadd, 1) := by decide +kernel
theorem d_L_law_373 : decode b_L_law 373 = .ok (.iaload, 1) := by decide +kernel
theorem d_L_law_374 : decode b_L_law 374 = .ok (.aload_n 0, 1) := by decide +kernel
theorem d_L_law_375 : decode b_L_law 375 = .ok (.iload 4, 2) := by decide +kernel
theorem d_L_law_377 : decode b_L_law 377 = .ok (.iconst 4, 1) := by decide +kernel
theorem d_L_law_378 : decode b_L_law 378 = .ok (.iadd, 1) := by decide +kernel
theorem d_L_law_379 : decode b_L_law 379 = .ok (.iaload, 1) := by decide +kernel
theorem d_L_law_380 : decode b_L_law 380 = .ok (.ifCond .eq 7, 3) := by decide +kernel
theorem d_L_law_383 : decode b_L_law 383 = .ok (.iconst 1, 1) := by decide +kernel
theorem d_L_law_384 : decode b_L_law 384 = .ok (.goto 4, 3) := by decide +kernel
theorem d_L_law_387 : decode b_L_law 387 = .ok (.iconst 0, 1) := by decide +kernel
theorem d_L_law_388 : decode b_L_law 388 = .ok (.invokestatic 90, 3) := by decide +kernel
theorem d_L_law_391 : decode b_L_law 391 = .ok (.istore 5, 2) := by decide +kernel
theorem d_L_law_393 : decode b_L_law 393 = .ok (.aload_n 2, 1) := by decide +kernel
theorem d_L_law_394 : decode b_L_law 394 = .ok (.aload_n 0, 1) := by decide +kernel
theorem d_L_law_395 : decode b_L_law 395 = .ok (.iload 4, 2) := by decide +kernel
theorem d_L_law_397 : decode b_L_law 397 = .ok (.iconst 1, 1) := by decide +kernel
theorem d_L_law_398 : decode b_L_law 398 = .ok (.iadd, 1) := by decide +kernel
theorem d_L_law_399 : decode b_L_law 399 = .ok (.iaload, 1) := by decide +kernel
theorem d_L_law_400 : decode b_L_law 400 = .ok (.aload_n 0, 1) := by decide +kernel
theorem d_L_law_401 : decode b_L_law 401 = .ok (.iload 4, 2) := by decide +kernel
theorem d_L_law_403 : decode b_L_law 403 = .ok (.iconst 2, 1) := by decide +kernel
theorem d_L_law_404 : decode b_L_law 404 = .ok (.iadd, 1) := by decide +kernel
theorem d_L_law_405 : decode b_L_law 405 = .ok (.iaload, 1) := by decide +kernel
theorem d_L_law_406 : decode b_L_law 406 = .ok (.aload_n 0, 1) := by decide +kernel
theorem d_L_law_407 : decode b_L_law 407 = .ok (.iload 4, 2) := by decide +kernel
theorem d_L_law_409 : decode b_L_law 409 = .ok (.iconst 3, 1) := by decide +kernel
theorem d_L_law_410 : decode b_L_law 410 = .ok (.iadd, 1) := by decide +kernel
