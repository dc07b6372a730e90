theorem d_Lw_law_0 : decode code 0 = .ok (.new 8, 3) := by decide +kernel
theorem d_Lw_law_3 : decode code 3 = .ok (.dup, 1) := by decide +kernel
theorem d_Lw_law_4 : decode code 4 = .ok (.invokespecial 79, 3) := by decide +kernel
theorem d_Lw_law_7 : decode code 7 = .ok (.astore_n 1, 1) := by decide +kernel
theorem d_Lw_law_8 : decode code 8 = .ok (.new 80, 3) := by decide +kernel
theorem d_Lw_law_11 : decode code 11 = .ok (.dup, 1) := by decide +kernel
theorem d_Lw_law_12 : decode code 12 = .ok (.invokespecial 82, 3) := by decide +kernel
theorem d_Lw_law_15 : decode code 15 = .ok (.astore_n 2, 1) := by decide +kernel
theorem d_Lw_law_16 : decode code 16 = .ok (.iconst 1, 1) := by decide +kernel
theorem d_Lw_law_17 : decode code 17 = .ok (.newarray .long, 2) := by decide +kernel
theorem d_Lw_law_19 : decode code 19 = .ok (.astore_n 3, 1) := by decide +kernel
theorem d_Lw_law_20 : decode code 20 = .ok (.iconst 0, 1) := by decide +kernel
theorem d_Lw_law_21 : decode code 21 = .ok (.istore 4, 2) := by decide +kernel
theorem d_Lw_law_23 : decode code 23 = .ok (.iload 4, 2) := by decide +kernel
theorem d_Lw_law_25 : decode code 25 = .ok (.aload_n 0, 1) := by decide +kernel
theorem d_Lw_law_26 : decode code 26 = .ok (.arraylength, 1) := by decide +kernel
theorem d_Lw_law_27 : decode code 27 = .ok (.bipush 6, 2) := by decide +kernel
theorem d_Lw_law_29 : decode code 29 = .ok (.isub, 1) := by decide +kernel
theorem d_Lw_law_30 : decode code 30 = .ok (.if_icmp .gt 1323, 3) := by decide +kernel
theorem d_Lw_law_33 : decode code 33 = .ok (.aload_n 0, 1) := by decide +kernel
theorem d_Lw_law_34 : decode code 34 = .ok (.iload 4, 2) := by decide +kernel
theorem d_Lw_law_36 : decode code 36 = .ok (.iaload, 1) := by decide +kernel
theorem d_Lw_law_37 : decode code 37 = .ok (.bipush 31, 2) := by decide +kernel
theorem d_Lw_law_39 : decode code 39 = .ok (.iand, 1) := by decide +kernel
theorem d_Lw_law_40 : decode code 40 = .ok (.tableswitch 1307 0 16 #[84, 132, 188, 272, 347, 407, 475, 543, 623, 703, 770, 869, 936, 1011, 1091, 1171, 1227], 84) := by decide +kernel
theorem d_Lw_law_124 : decode code 124 = .ok (.aload_n 1, 1) := by decide +kernel
theorem d_Lw_law_125 : decode code 125 = .ok (.aload_n 0, 1) := by decide +kernel
theorem d_Lw_law_126 : decode code 126 = .ok (.iload 4, 2) := by decide +kernel
theorem d_Lw_law_128 : decode code 128 = .ok (.iconst 1, 1) := by decide +kernel
theorem d_Lw_law_129 : decode code 129 = .ok (.iadd, 1) := by decide +kernel
theorem d_Lw_law_130 : decode code 130 = .ok (.iaload, 1) := by decide +kernel
theorem d_Lw_law_131 : decode code 131 = .ok (.aload_n 0, 1) := by decide +kernel
theorem d_Lw_law_132 : decode code 132 = .ok (.iload 4, 2) := by decide +kernel
theorem d_Lw_law_134 : decode code 134 = .ok (.iconst 2, 1) := by decide +kernel
theorem d_Lw_law_135 : decode code 135 = .ok (.iadd, 1) := by decide +kernel
theorem d_Lw_law_136 : decode code 136 = .ok (.iaload, 1) := by decide +kernel
theorem d_Lw_law_137 : decode code 137 = .ok (.invokestatic 83, 3) := by decide +kernel
theorem d_Lw_law_140 : decode code 140 = .ok (.istore 5, 2) := by decide +kernel
theorem d_Lw_law_142 : decode code 142 = .ok (.aload_n 2, 1) := by decide +kernel
theorem d_Lw_law_143 : decode code 143 = .ok (.aload_n 0, 1) := by decide +kernel
theorem d_Lw_law_144 : decode code 144 = .ok (.iload 4, 2) := by decide +kernel
theorem d_Lw_law_146 : decode code 146 = .ok (.iconst 1, 1) := by decide +kernel
theorem d_Lw_law_147 : decode code 147 = .ok (.iadd, 1) := by decide +kernel
theorem d_Lw_law_148 : decode code 148 = .ok (.iaload, 1) := by decide +kernel
theorem d_Lw_law_149 : decode code 149 = .ok (.aload_n 0, 1) := by decide +kernel
theorem d_Lw_law_150 : decode code 150 = .ok (.iload 4, 2) := by decide +kernel
theorem d_Lw_law_152 : decode code 152 = .ok (.iconst 2, 1) := by decide +kernel
theorem d_Lw_law_153 : decode code 153 = .ok (.iadd, 1) := by decide +kernel
theorem d_Lw_law_154 : decode code 154 = .ok (.iaload, 1) := by decide +kernel
theorem d_Lw_law_155 : decode code 155 = .ok (.invokevirtual 88, 3) := by decide +kernel
theorem d_Lw_law_158 : decode code 158 = .ok (.aload_n 2, 1) := by decide +kernel
theorem d_Lw_law_159 : decode code 159 = .ok (.invokevirtual 89, 3) := by decide +kernel
theorem d_Lw_law_162 : decode code 162 = .ok (.iload 5, 2) := by decide +kernel
theorem d_Lw_law_164 : decode code 164 = .ok (.if_icmp .eq 5, 3) := by decide +kernel
theorem d_Lw_law_167 : decode code 167 = .ok (.iconst 0, 1) := by decide +kernel
theorem d_Lw_law_168 : decode code 168 = .ok (.ireturn, 1) := by decide +kernel
theorem d_Lw_law_169 : decode code 169 = .ok (.goto 1178, 3) := by decide +kernel
theorem d_Lw_law_172 : decode code 172 = .ok (.aload_n 1, 1) := by decide +kernel
theorem d_Lw_law_173 : decode code 173 = .ok (.aload_n 0, 1) := by decide +kernel
theorem d_Lw_law_174 : decode code 174 = .ok (.iload 4, 2) := by decide +kernel
theorem d_Lw_law_176 : decode code 176 = .ok (.iconst 1, 1) := by decide +kernel
theorem d_Lw_law_177 : decode code 177 = .ok (.iadd, 1) := by decide +kernel
theorem d_Lw_law_178 : decode code 178 = .ok (.iaload, 1) := by decide +kernel
theorem d_Lw_law_179 : decode code 179 = .ok (.aload_n 3, 1) := by decide +kernel
theorem d_Lw_law_180 : decode code 180 = .ok (.invokestatic 93, 3) := by decide +kernel
theorem d_Lw_law_183 : decode code 183 = .ok (.istore 5, 2) := by decide +kernel
theorem d_Lw_law_185 : decode code 185 = .ok (.aload_n 2, 1) := by decide +kernel
theorem d_Lw_law_186 : decode code 186 = .ok (.aload_n 0, 1) := by decide +kernel
theorem d_Lw_law_187 : decode code 187 = .ok (.iload 4, 2) := by decide +kernel
theorem d_Lw_law_189 : decode code 189 = .ok (.iconst 1, 1) := by decide +kernel
theorem d_Lw_law_190 : decode code 190 = .ok (.iadd, 1) := by decide +kernel
theorem d_Lw_law_191 : decode code 191 = .ok (.iaload, 1) := by decide +kernel
theorem d_Lw_law_192 : decode code 192 = .ok (.invokevirtual 96, 3) := by decide +kernel
theorem d_Lw_law_195 : decode code 195 = .ok (.istore 6, 2) := by decide +kernel
theorem d_Lw_law_197 : decode code 197 = .ok (.aload_n 2, 1) := by decide +kernel
theorem d_Lw_law_198 : decode code 198 = .ok (.invokevirtual 89, 3) := by decide +kernel
theorem d_Lw_law_201 : decode code 201 = .ok (.iload 5, 2) := by decide +kernel
theorem d_Lw_law_203 : decode code 203 = .ok (.if_icmp .eq 5, 3) := by decide +kernel
theorem d_Lw_law_206 : decode code 206 = .ok (.iconst 0, 1) := by decide +kernel
theorem d_Lw_law_207 : decode code 207 = .ok (.ireturn, 1) := by decide +kernel
theorem d_Lw_law_208 : decode code 208 = .ok (.iload 5, 2) := by decide +kernel
theorem d_Lw_law_210 : decode code 210 = .ok (.ifCond .ne 15, 3) := by decide +kernel
theorem d_Lw_law_213 : decode code 213 = .ok (.aload_n 3, 1) := by decide +kernel
theorem d_Lw_law_214 : decode code 214 = .ok (.iconst 0, 1) := by decide +kernel
theorem d_Lw_law_215 : decode code 215 = .ok (.laload, 1) := by decide +kernel
theorem d_Lw_law_216 : decode code 216 = .ok (.iload 6, 2) := by decide +kernel
theorem d_Lw_law_218 : decode code 218 = .ok (.i2l, 1) := by decide +kernel
theorem d_Lw_law_219 : decode code 219 = .ok (.lcmp, 1) := by decide +kernel
theorem d_Lw_law_220 : decode code 220 = .ok (.ifCond .eq 5, 3) := by decide +kernel
theorem d_Lw_law_223 : decode code 223 = .ok (.iconst 0, 1) := by decide +kernel
theorem d_Lw_law_224 : decode code 224 = .ok (.ireturn, 1) := by decide +kernel
theorem d_Lw_law_225 : decode code 225 = .ok (.goto 1122, 3) := by decide +kernel
theorem d_Lw_law_228 : decode code 228 = .ok (.aload_n 1, 1) := by decide +kernel
theorem d_Lw_law_229 : decode code 229 = .ok (.aload_n 0, 1) := by decide +kernel
theorem d_Lw_law_230 : decode code 230 = .ok (.iload 4, 2) := by decide +kernel
theorem d_Lw_law_232 : decode code 232 = .ok (.iconst 1, 1) := by decide +kernel
theorem d_Lw_law_233 : decode code 233 = .ok (.iadd, 1) := by decide +kernel
theorem d_Lw_law_234 : decode code 234 = .ok (.iaload, 1) := by decide +kernel
theorem d_Lw_law_235 : decode code 235 = .ok (.aload_n 0, 1) := by decide +kernel
theorem d_Lw_law_236 : decode code 236 = .ok (.iload 4, 2) := by decide +kernel
theorem d_Lw_law_238 : decode code 238 = .ok (.iconst 2, 1) := by decide +kernel
theorem d_Lw_law_239 : decode code 239 = .ok (.iadd, 1) := by decide +kernel
theorem d_Lw_law_240 : decode code 240 = .ok (.iaload, 1) := by decide +kernel
theorem d_Lw_law_241 : decode code 241 = .ok (.aload_n 0, 1) := by decide +kernel
theorem d_Lw_law_242 : decode code 242 = .ok (.iload 4, 2) := by decide +kernel
theorem d_Lw_law_244 : decode code 244 = .ok (.iconst 3, 1) := by decide +kernel
theorem d_Lw_law_245 : decode code 245 = .ok (.iadd, 1) := by decide +kernel
theorem d_Lw_law_246 : decode code 246 = .ok (.iaload, 1) := by decide +kernel
theorem d_Lw_law_247 : decode code 247 = .ok (.aload_n 0, 1) := by decide +kernel
theorem d_Lw_law_248 : decode code 248 = .ok (.iload 4, 2) := by decide +kernel
theorem d_Lw_law_250 : decode code 250 = .ok (.iconst 4, 1) := by decide +kernel
theorem d_Lw_law_251 : decode code 251 = .ok (.iadd, 1) := by decide +kernel
theorem d_Lw_law_252 : decode code 252 = .ok (.iaload, 1) := by decide +kernel
theorem d_Lw_law_253 : decode code 253 = .ok (.aload_n 0, 1) := by decide +kernel
theorem d_Lw_law_254 : decode code 254 = .ok (.iload 4, 2) := by decide +kernel
theorem d_Lw_law_256 : decode code 256 = .ok (.iconst 5, 1) := by decide +kernel
theorem d_Lw_law_257 : decode code 257 = .ok (.iadd, 1) := by decide +kernel
theorem d_Lw_law_258 : decode code 258 = .ok (.iaload, 1) := by decide +kernel
theorem d_Lw_law_259 : decode code 259 = .ok (.invokestatic 97, 3) := by decide +kernel
theorem d_Lw_law_262 : decode code 262 = .ok (.istore 5, 2) := by decide +kernel
theorem d_Lw_law_264 : decode code 264 = .ok (.aload_n 2, 1) := by decide +kernel
theorem d_Lw_law_265 : decode code 265 = .ok (.aload_n 0, 1) := by decide +kernel
theorem d_Lw_law_266 : decode code 266 = .ok (.iload 4, 2) := by decide +kernel
theorem d_Lw_law_268 : decode code 268 = .ok (.iconst 1, 1) := by decide +kernel
theorem d_Lw_law_269 : decode code 269 = .ok (.iadd, 1) := by decide +kernel
theorem d_Lw_law_270 : decode code 270 = .ok (.iaload, 1) := by decide +kernel
theorem d_Lw_law_271 : decode code 271 = .ok (.aload_n 0, 1) := by decide +kernel
theorem d_Lw_law_272 : decode code 272 = .ok (.iload 4, 2) := by decide +kernel
theorem d_Lw_law_274 : decode code 274 = .ok (.iconst 2, 1) := by decide +kernel
theorem d_Lw_law_275 : decode code 275 = .ok (.iadd, 1) := by decide +kernel
theorem d_Lw_law_276 : decode code 276 = .ok (.iaload, 1) := by decide +kernel
theorem d_Lw_law_277 : decode code 277 = .ok (.aload_n 0, 1) := by decide +kernel
theorem d_Lw_law_278 : decode code 278 = .ok (.iload 4, 2) := by decide +kernel
theorem d_Lw_law_280 : decode code 280 = .ok (.iconst 3, 1) := by decide +kernel
theorem d_Lw_law_281 : decode code 281 = .ok (.iadd, 1) := by decide +kernel
theorem d_Lw_law_282 : decode code 282 = .ok (.iaload, 1) := by decide +kernel
theorem d_Lw_law_283 : decode code 283 = .ok (.aload_n 0, 1) := by decide +kernel
theorem d_Lw_law_284 : decode code 284 = .ok (.iload 4, 2) := by decide +kernel
theorem d_Lw_law_286 : decode code 286 = .ok (.iconst 4, 1) := by decide +kernel
theorem d_Lw_law_287 : decode code 287 = .ok (.iadd, 1) := by decide +kernel
theorem d_Lw_law_288 : decode code 288 = .ok (.iaload, 1) := by decide +kernel
theorem d_Lw_law_289 : decode code 289 = .ok (.aload_n 0, 1) := by decide +kernel
theorem d_Lw_law_290 : decode code 290 = .ok (.iload 4, 2) := by decide +kernel
theorem d_Lw_law_292 : decode code 292 = .ok (.iconst 5, 1) := by decide +kernel
theorem d_Lw_law_293 : decode code 293 = .ok (.iadd, 1) := by decide +kernel
theorem d_Lw_law_294 : decode code 294 = .ok (.iaload, 1) := by decide +kernel
theorem d_Lw_law_295 : decode code 295 = .ok (.invokevirtual 100, 3) := by decide +kernel
theorem d_Lw_law_298 : decode code 298 = .ok (.aload_n 2, 1) := by decide +kernel
theorem d_Lw_law_299 : decode code 299 = .ok (.invokevirtual 89, 3) := by decide +kernel
theorem d_Lw_law_302 : decode code 302 = .ok (.iload 5, 2) := by decide +kernel
theorem d_Lw_law_304 : decode code 304 = .ok (.if_icmp .eq 5, 3) := by decide +kernel
theorem d_Lw_law_307 : decode code 307 = .ok (.iconst 0, 1) := by decide +kernel
theorem d_Lw_law_308 : decode code 308 = .ok (.ireturn, 1) := by decide +kernel
theorem d_Lw_law_309 : decode code 309 = .ok (.goto 1038, 3) := by decide +kernel
theorem d_Lw_law_312 : decode code 312 = .ok (.aload_n 1, 1) := by decide +kernel
theorem d_Lw_law_313 : decode code 313 = .ok (.aload_n 0, 1) := by decide +kernel
theorem d_Lw_law_314 : decode code 314 = .ok (.iload 4, 2) := by decide +kernel
theorem d_Lw_law_316 : decode code 316 = .ok (.iconst 1, 1) := by decide +kernel
theorem d_Lw_law_317 : decode code 317 = .ok (.iadd, 1) := by decide +kernel
theorem d_Lw_law_318 : decode code 318 = .ok (.iaload, 1) := by decide +kernel
theorem d_Lw_law_319 : decode code 319 = .ok (.aload_n 0, 1) := by decide +kernel
theorem d_Lw_law_320 : decode code 320 = .ok (.iload 4, 2) := by decide +kernel
theorem d_Lw_law_322 : decode code 322 = .ok (.iconst 2, 1) := by decide +kernel
theorem d_Lw_law_323 : decode code 323 = .ok (.iadd, 1) := by decide +kernel
theorem d_Lw_law_324 : decode code 324 = .ok (.iaload, 1) := by decide +kernel
theorem d_Lw_law_325 : decode code 325 = .ok (.aload_n 3, 1) := by decide +kernel
theorem d_Lw_law_326 : decode code 326 = .ok (.invokestatic 101, 3) := by decide +kernel
theorem d_Lw_law_329 : decode code 329 = .ok (.istore 5, 2) := by decide +kernel
theorem d_Lw_law_331 : decode code 331 = .ok (.aload_n 2, 1) := by decide +kernel
theorem d_Lw_law_332 : decode code 332 = .ok (.aload_n 0, 1) := by decide +kernel
theorem d_Lw_law_333 : decode code 333 = .ok (.iload 4, 2) := by decide +kernel
theorem d_Lw_law_335 : decode code 335 = .ok (.iconst 1, 1) := by decide +kernel
theorem d_Lw_law_336 : decode code 336 = .ok (.iadd, 1) := by decide +kernel
theorem d_Lw_law_337 : decode code 337 = .ok (.iaload, 1) := by decide +kernel
theorem d_Lw_law_338 : decode code 338 = .ok (.aload_n 0, 1) := by decide +kernel
theorem d_Lw_law_339 : decode code 339 = .ok (.iload 4, 2) := by decide +kernel
theorem d_Lw_law_341 : decode code 341 = .ok (.iconst 2, 1) := by decide +kernel
theorem d_Lw_law_342 : decode code 342 = .ok (.iadd, 1) := by decide +kernel
theorem d_Lw_law_343 : decode code 343 = .ok (.iaload, 1) := by decide +kernel
theorem d_Lw_law_344 : decode code 344 = .ok (.invokevirtual 104, 3) := by decide +kernel
theorem d_Lw_law_347 : decode code 347 = .ok (.istore 6, 2) := by decide +kernel
theorem d_Lw_law_349 : decode code 349 = .ok (.aload_n 2, 1) := by decide +kernel
theorem d_Lw_law_350 : decode code 350 = .ok (.invokevirtual 89, 3) := by decide +kernel
theorem d_Lw_law_353 : decode code 353 = .ok (.iload 5, 2) := by decide +kernel
theorem d_Lw_law_355 : decode code 355 = .ok (.if_icmp .eq 5, 3) := by decide +kernel
theorem d_Lw_law_358 : decode code 358 = .ok (.iconst 0, 1) := by decide +kernel
theorem d_Lw_law_359 : decode code 359 = .ok (.ireturn, 1) := by decide +kernel
theorem d_Lw_law_360 : decode code 360 = .ok (.iload 5, 2) := by decide +kernel
theorem d_Lw_law_362 : decode code 362 = .ok (.ifCond .ne 22, 3) := by decide +kernel
theorem d_Lw_law_365 : decode code 365 = .ok (.aload_n 3, 1) := by decide +kernel
theorem d_Lw_law_366 : decode code 366 = .ok (.iconst 0, 1) := by decide +kernel
theorem d_Lw_law_367 : decode code 367 = .ok (.laload, 1) := by decide +kernel
theorem d_Lw_law_368 : decode code 368 = .ok (.iload 6, 2) := by decide +kernel
theorem d_Lw_law_370 : decode code 370 = .ok (.ifCond .eq 7, 3) := by decide +kernel
theorem d_Lw_law_373 : decode code 373 = .ok (.lconst 1, 1) := by decide +kernel
theorem d_Lw_law_374 : decode code 374 = .ok (.goto 4, 3) := by decide +kernel
theorem d_Lw_law_377 : decode code 377 = .ok (.lconst 0, 1) := by decide +kernel
theorem d_Lw_law_378 : decode code 378 = .ok (.lcmp, 1) := by decide +kernel
theorem d_Lw_law_379 : decode code 379 = .ok (.ifCond .eq 5, 3) := by decide +kernel
theorem d_Lw_law_382 : decode code 382 = .ok (.iconst 0, 1) := by decide +kernel
theorem d_Lw_law_383 : decode code 383 = .ok (.ireturn, 1) := by decide +kernel
theorem d_Lw_law_384 : decode code 384 = .ok (.goto 963, 3) := by decide +kernel
theorem d_Lw_law_387 : decode code 387 = .ok (.aload_n 1, 1) := by decide +kernel
theorem d_Lw_law_388 : decode code 388 = .ok (.aload_n 0, 1) := by decide +kernel
theorem d_Lw_law_389 : decode code 389 = .ok (.iload 4, 2) := by decide +kernel
theorem d_Lw_law_391 : decode code 391 = .ok (.iconst 1, 1) := by decide +kernel
theorem d_Lw_law_392 : decode code 392 = .ok (.iadd, 1) := by decide +kernel
theorem d_Lw_law_393 : decode code 393 = .ok (.iaload, 1) := by decide +kernel
theorem d_Lw_law_394 : decode code 394 = .ok (.aload_n 0, 1) := by decide +kernel
theorem d_Lw_law_395 : decode code 395 = .ok (.iload 4, 2) := by decide +kernel
theorem d_Lw_law_397 : decode code 397 = .ok (.iconst 2, 1) := by decide +kernel
theorem d_Lw_law_398 : decode code 398 = .ok (.iadd, 1) := by decide +kernel
theorem d_Lw_law_399 : decode code 399 = .ok (.iaload, 1) := by decide +kernel
theorem d_Lw_law_400 : decode code 400 = .ok (.aload_n 0, 1) := by decide +kernel
theorem d_Lw_law_401 : decode code 401 = .ok (.iload 4, 2) := by decide +kernel
theorem d_Lw_law_403 : decode code 403 = .ok (.iconst 3, 1) := by decide +kernel
theorem d_Lw_law_404 : decode code 404 = .ok (.iadd, 1) := by decide +kernel
theorem d_Lw_law_405 : decode code 405 = .ok (.iaload, 1) := by decide +kernel
theorem d_Lw_law_406 : decode code 406 = .ok (.invokestatic 105, 3) := by decide +kernel
theorem d_Lw_law_409 : decode code 409 = .ok (.istore 5, 2) := by decide +kernel
