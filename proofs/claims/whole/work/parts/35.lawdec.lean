theorem d_L_law_0 : decode code 0 = .ok (.new 7, 3) := by decide +kernel
theorem d_L_law_3 : decode code 3 = .ok (.dup, 1) := by decide +kernel
theorem d_L_law_4 : decode code 4 = .ok (.invokespecial 9, 3) := by decide +kernel
theorem d_L_law_7 : decode code 7 = .ok (.astore_n 1, 1) := by decide +kernel
theorem d_L_law_8 : decode code 8 = .ok (.new 10, 3) := by decide +kernel
theorem d_L_law_11 : decode code 11 = .ok (.dup, 1) := by decide +kernel
theorem d_L_law_12 : decode code 12 = .ok (.invokespecial 12, 3) := by decide +kernel
theorem d_L_law_15 : decode code 15 = .ok (.astore_n 2, 1) := by decide +kernel
theorem d_L_law_16 : decode code 16 = .ok (.iconst 0, 1) := by decide +kernel
theorem d_L_law_17 : decode code 17 = .ok (.istore_n 3, 1) := by decide +kernel
theorem d_L_law_18 : decode code 18 = .ok (.iload_n 3, 1) := by decide +kernel
theorem d_L_law_19 : decode code 19 = .ok (.aload_n 0, 1) := by decide +kernel
theorem d_L_law_20 : decode code 20 = .ok (.arraylength, 1) := by decide +kernel
theorem d_L_law_21 : decode code 21 = .ok (.bipush 6, 2) := by decide +kernel
theorem d_L_law_23 : decode code 23 = .ok (.isub, 1) := by decide +kernel
theorem d_L_law_24 : decode code 24 = .ok (.if_icmp .gt 975, 3) := by decide +kernel
theorem d_L_law_27 : decode code 27 = .ok (.aload_n 0, 1) := by decide +kernel
theorem d_L_law_28 : decode code 28 = .ok (.iload_n 3, 1) := by decide +kernel
theorem d_L_law_29 : decode code 29 = .ok (.iaload, 1) := by decide +kernel
theorem d_L_law_30 : decode code 30 = .ok (.bipush 31, 2) := by decide +kernel
theorem d_L_law_32 : decode code 32 = .ok (.iand, 1) := by decide +kernel
theorem d_L_law_33 : decode code 33 = .ok (.tableswitch 960 0 21 #[103, 176, 199, 242, 265, 298, 331, 364, 397, 440, 463, 517, 550, 593, 626, 699, 802, 855, 878, 901, 924, 947], 103) := by decide +kernel
theorem d_L_law_136 : decode code 136 = .ok (.aload_n 1, 1) := by decide +kernel
theorem d_L_law_137 : decode code 137 = .ok (.aload_n 0, 1) := by decide +kernel
theorem d_L_law_138 : decode code 138 = .ok (.iload_n 3, 1) := by decide +kernel
theorem d_L_law_139 : decode code 139 = .ok (.iconst 1, 1) := by decide +kernel
theorem d_L_law_140 : decode code 140 = .ok (.iadd, 1) := by decide +kernel
theorem d_L_law_141 : decode code 141 = .ok (.iaload, 1) := by decide +kernel
theorem d_L_law_142 : decode code 142 = .ok (.aload_n 0, 1) := by decide +kernel
theorem d_L_law_143 : decode code 143 = .ok (.iload_n 3, 1) := by decide +kernel
theorem d_L_law_144 : decode code 144 = .ok (.iconst 2, 1) := by decide +kernel
theorem d_L_law_145 : decode code 145 = .ok (.iadd, 1) := by decide +kernel
theorem d_L_law_146 : decode code 146 = .ok (.iaload, 1) := by decide +kernel
theorem d_L_law_147 : decode code 147 = .ok (.i2l, 1) := by decide +kernel
theorem d_L_law_148 : decode code 148 = .ok (.bipush 32, 2) := by decide +kernel
theorem d_L_law_150 : decode code 150 = .ok (.lshl, 1) := by decide +kernel
theorem d_L_law_151 : decode code 151 = .ok (.aload_n 0, 1) := by decide +kernel
theorem d_L_law_152 : decode code 152 = .ok (.iload_n 3, 1) := by decide +kernel
theorem d_L_law_153 : decode code 153 = .ok (.iconst 3, 1) := by decide +kernel
theorem d_L_law_154 : decode code 154 = .ok (.iadd, 1) := by decide +kernel
theorem d_L_law_155 : decode code 155 = .ok (.iaload, 1) := by decide +kernel
theorem d_L_law_156 : decode code 156 = .ok (.i2l, 1) := by decide +kernel
theorem d_L_law_157 : decode code 157 = .ok (.ldc2_w 13, 3) := by decide +kernel
theorem d_L_law_160 : decode code 160 = .ok (.land, 1) := by decide +kernel
theorem d_L_law_161 : decode code 161 = .ok (.lor, 1) := by decide +kernel
theorem d_L_law_162 : decode code 162 = .ok (.aload_n 0, 1) := by decide +kernel
theorem d_L_law_163 : decode code 163 = .ok (.iload_n 3, 1) := by decide +kernel
theorem d_L_law_164 : decode code 164 = .ok (.iconst 4, 1) := by decide +kernel
theorem d_L_law_165 : decode code 165 = .ok (.iadd, 1) := by decide +kernel
theorem d_L_law_166 : decode code 166 = .ok (.iaload, 1) := by decide +kernel
theorem d_L_law_167 : decode code 167 = .ok (.invokevirtual 15, 3) := by decide +kernel
theorem d_L_law_170 : decode code 170 = .ok (.aload_n 2, 1) := by decide +kernel
theorem d_L_law_171 : decode code 171 = .ok (.aload_n 0, 1) := by decide +kernel
theorem d_L_law_172 : decode code 172 = .ok (.iload_n 3, 1) := by decide +kernel
theorem d_L_law_173 : decode code 173 = .ok (.iconst 1, 1) := by decide +kernel
theorem d_L_law_174 : decode code 174 = .ok (.iadd, 1) := by decide +kernel
theorem d_L_law_175 : decode code 175 = .ok (.iaload, 1) := by decide +kernel
theorem d_L_law_176 : decode code 176 = .ok (.aload_n 0, 1) := by decide +kernel
theorem d_L_law_177 : decode code 177 = .ok (.iload_n 3, 1) := by decide +kernel
theorem d_L_law_178 : decode code 178 = .ok (.iconst 2, 1) := by decide +kernel
theorem d_L_law_179 : decode code 179 = .ok (.iadd, 1) := by decide +kernel
theorem d_L_law_180 : decode code 180 = .ok (.iaload, 1) := by decide +kernel
theorem d_L_law_181 : decode code 181 = .ok (.i2l, 1) := by decide +kernel
theorem d_L_law_182 : decode code 182 = .ok (.bipush 32, 2) := by decide +kernel
theorem d_L_law_184 : decode code 184 = .ok (.lshl, 1) := by decide +kernel
theorem d_L_law_185 : decode code 185 = .ok (.aload_n 0, 1) := by decide +kernel
theorem d_L_law_186 : decode code 186 = .ok (.iload_n 3, 1) := by decide +kernel
theorem d_L_law_187 : decode code 187 = .ok (.iconst 3, 1) := by decide +kernel
theorem d_L_law_188 : decode code 188 = .ok (.iadd, 1) := by decide +kernel
theorem d_L_law_189 : decode code 189 = .ok (.iaload, 1) := by decide +kernel
theorem d_L_law_190 : decode code 190 = .ok (.i2l, 1) := by decide +kernel
theorem d_L_law_191 : decode code 191 = .ok (.ldc2_w 13, 3) := by decide +kernel
theorem d_L_law_194 : decode code 194 = .ok (.land, 1) := by decide +kernel
theorem d_L_law_195 : decode code 195 = .ok (.lor, 1) := by decide +kernel
theorem d_L_law_196 : decode code 196 = .ok (.aload_n 0, 1) := by decide +kernel
theorem d_L_law_197 : decode code 197 = .ok (.iload_n 3, 1) := by decide +kernel
theorem d_L_law_198 : decode code 198 = .ok (.iconst 4, 1) := by decide +kernel
theorem d_L_law_199 : decode code 199 = .ok (.iadd, 1) := by decide +kernel
theorem d_L_law_200 : decode code 200 = .ok (.iaload, 1) := by decide +kernel
theorem d_L_law_201 : decode code 201 = .ok (.invokevirtual 19, 3) := by decide +kernel
theorem d_L_law_204 : decode code 204 = .ok (.if_icmp .eq 789, 3) := by decide +kernel
theorem d_L_law_207 : decode code 207 = .ok (.iconst 0, 1) := by decide +kernel
theorem d_L_law_208 : decode code 208 = .ok (.ireturn, 1) := by decide +kernel
theorem d_L_law_209 : decode code 209 = .ok (.aload_n 1, 1) := by decide +kernel
theorem d_L_law_210 : decode code 210 = .ok (.aload_n 0, 1) := by decide +kernel
theorem d_L_law_211 : decode code 211 = .ok (.iload_n 3, 1) := by decide +kernel
theorem d_L_law_212 : decode code 212 = .ok (.iconst 1, 1) := by decide +kernel
theorem d_L_law_213 : decode code 213 = .ok (.iadd, 1) := by decide +kernel
theorem d_L_law_214 : decode code 214 = .ok (.iaload, 1) := by decide +kernel
theorem d_L_law_215 : decode code 215 = .ok (.invokevirtual 20, 3) := by decide +kernel
theorem d_L_law_218 : decode code 218 = .ok (.aload_n 2, 1) := by decide +kernel
theorem d_L_law_219 : decode code 219 = .ok (.aload_n 0, 1) := by decide +kernel
theorem d_L_law_220 : decode code 220 = .ok (.iload_n 3, 1) := by decide +kernel
theorem d_L_law_221 : decode code 221 = .ok (.iconst 1, 1) := by decide +kernel
theorem d_L_law_222 : decode code 222 = .ok (.iadd, 1) := by decide +kernel
theorem d_L_law_223 : decode code 223 = .ok (.iaload, 1) := by decide +kernel
theorem d_L_law_224 : decode code 224 = .ok (.invokevirtual 24, 3) := by decide +kernel
theorem d_L_law_227 : decode code 227 = .ok (.if_icmp .eq 766, 3) := by decide +kernel
theorem d_L_law_230 : decode code 230 = .ok (.iconst 0, 1) := by decide +kernel
theorem d_L_law_231 : decode code 231 = .ok (.ireturn, 1) := by decide +kernel
theorem d_L_law_232 : decode code 232 = .ok (.aload_n 1, 1) := by decide +kernel
theorem d_L_law_233 : decode code 233 = .ok (.aload_n 0, 1) := by decide +kernel
theorem d_L_law_234 : decode code 234 = .ok (.iload_n 3, 1) := by decide +kernel
theorem d_L_law_235 : decode code 235 = .ok (.iconst 1, 1) := by decide +kernel
theorem d_L_law_236 : decode code 236 = .ok (.iadd, 1) := by decide +kernel
theorem d_L_law_237 : decode code 237 = .ok (.iaload, 1) := by decide +kernel
theorem d_L_law_238 : decode code 238 = .ok (.aload_n 0, 1) := by decide +kernel
theorem d_L_law_239 : decode code 239 = .ok (.iload_n 3, 1) := by decide +kernel
theorem d_L_law_240 : decode code 240 = .ok (.iconst 2, 1) := by decide +kernel
theorem d_L_law_241 : decode code 241 = .ok (.iadd, 1) := by decide +kernel
theorem d_L_law_242 : decode code 242 = .ok (.iaload, 1) := by decide +kernel
theorem d_L_law_243 : decode code 243 = .ok (.aload_n 0, 1) := by decide +kernel
theorem d_L_law_244 : decode code 244 = .ok (.iload_n 3, 1) := by decide +kernel
theorem d_L_law_245 : decode code 245 = .ok (.iconst 3, 1) := by decide +kernel
theorem d_L_law_246 : decode code 246 = .ok (.iadd, 1) := by decide +kernel
theorem d_L_law_247 : decode code 247 = .ok (.iaload, 1) := by decide +kernel
theorem d_L_law_248 : decode code 248 = .ok (.invokevirtual 25, 3) := by decide +kernel
theorem d_L_law_251 : decode code 251 = .ok (.aload_n 2, 1) := by decide +kernel
theorem d_L_law_252 : decode code 252 = .ok (.aload_n 0, 1) := by decide +kernel
theorem d_L_law_253 : decode code 253 = .ok (.iload_n 3, 1) := by decide +kernel
theorem d_L_law_254 : decode code 254 = .ok (.iconst 1, 1) := by decide +kernel
theorem d_L_law_255 : decode code 255 = .ok (.iadd, 1) := by decide +kernel
theorem d_L_law_256 : decode code 256 = .ok (.iaload, 1) := by decide +kernel
theorem d_L_law_257 : decode code 257 = .ok (.aload_n 0, 1) := by decide +kernel
theorem d_L_law_258 : decode code 258 = .ok (.iload_n 3, 1) := by decide +kernel
theorem d_L_law_259 : decode code 259 = .ok (.iconst 2, 1) := by decide +kernel
theorem d_L_law_260 : decode code 260 = .ok (.iadd, 1) := by decide +kernel
theorem d_L_law_261 : decode code 261 = .ok (.iaload, 1) := by decide +kernel
theorem d_L_law_262 : decode code 262 = .ok (.aload_n 0, 1) := by decide +kernel
theorem d_L_law_263 : decode code 263 = .ok (.iload_n 3, 1) := by decide +kernel
theorem d_L_law_264 : decode code 264 = .ok (.iconst 3, 1) := by decide +kernel
theorem d_L_law_265 : decode code 265 = .ok (.iadd, 1) := by decide +kernel
theorem d_L_law_266 : decode code 266 = .ok (.iaload, 1) := by decide +kernel
theorem d_L_law_267 : decode code 267 = .ok (.invokevirtual 29, 3) := by decide +kernel
theorem d_L_law_270 : decode code 270 = .ok (.if_icmp .eq 723, 3) := by decide +kernel
theorem d_L_law_273 : decode code 273 = .ok (.iconst 0, 1) := by decide +kernel
theorem d_L_law_274 : decode code 274 = .ok (.ireturn, 1) := by decide +kernel
theorem d_L_law_275 : decode code 275 = .ok (.aload_n 1, 1) := by decide +kernel
theorem d_L_law_276 : decode code 276 = .ok (.aload_n 0, 1) := by decide +kernel
theorem d_L_law_277 : decode code 277 = .ok (.iload_n 3, 1) := by decide +kernel
theorem d_L_law_278 : decode code 278 = .ok (.iconst 1, 1) := by decide +kernel
theorem d_L_law_279 : decode code 279 = .ok (.iadd, 1) := by decide +kernel
theorem d_L_law_280 : decode code 280 = .ok (.iaload, 1) := by decide +kernel
theorem d_L_law_281 : decode code 281 = .ok (.invokevirtual 30, 3) := by decide +kernel
theorem d_L_law_284 : decode code 284 = .ok (.aload_n 2, 1) := by decide +kernel
theorem d_L_law_285 : decode code 285 = .ok (.aload_n 0, 1) := by decide +kernel
theorem d_L_law_286 : decode code 286 = .ok (.iload_n 3, 1) := by decide +kernel
theorem d_L_law_287 : decode code 287 = .ok (.iconst 1, 1) := by decide +kernel
theorem d_L_law_288 : decode code 288 = .ok (.iadd, 1) := by decide +kernel
theorem d_L_law_289 : decode code 289 = .ok (.iaload, 1) := by decide +kernel
theorem d_L_law_290 : decode code 290 = .ok (.invokevirtual 33, 3) := by decide +kernel
theorem d_L_law_293 : decode code 293 = .ok (.if_icmp .eq 700, 3) := by decide +kernel
theorem d_L_law_296 : decode code 296 = .ok (.iconst 0, 1) := by decide +kernel
theorem d_L_law_297 : decode code 297 = .ok (.ireturn, 1) := by decide +kernel
theorem d_L_law_298 : decode code 298 = .ok (.aload_n 1, 1) := by decide +kernel
theorem d_L_law_299 : decode code 299 = .ok (.aload_n 0, 1) := by decide +kernel
theorem d_L_law_300 : decode code 300 = .ok (.iload_n 3, 1) := by decide +kernel
theorem d_L_law_301 : decode code 301 = .ok (.iconst 1, 1) := by decide +kernel
theorem d_L_law_302 : decode code 302 = .ok (.iadd, 1) := by decide +kernel
theorem d_L_law_303 : decode code 303 = .ok (.iaload, 1) := by decide +kernel
theorem d_L_law_304 : decode code 304 = .ok (.aload_n 0, 1) := by decide +kernel
theorem d_L_law_305 : decode code 305 = .ok (.iload_n 3, 1) := by decide +kernel
theorem d_L_law_306 : decode code 306 = .ok (.iconst 2, 1) := by decide +kernel
theorem d_L_law_307 : decode code 307 = .ok (.iadd, 1) := by decide +kernel
theorem d_L_law_308 : decode code 308 = .ok (.iaload, 1) := by decide +kernel
theorem d_L_law_309 : decode code 309 = .ok (.invokevirtual 34, 3) := by decide +kernel
theorem d_L_law_312 : decode code 312 = .ok (.aload_n 2, 1) := by decide +kernel
theorem d_L_law_313 : decode code 313 = .ok (.aload_n 0, 1) := by decide +kernel
theorem d_L_law_314 : decode code 314 = .ok (.iload_n 3, 1) := by decide +kernel
theorem d_L_law_315 : decode code 315 = .ok (.iconst 1, 1) := by decide +kernel
theorem d_L_law_316 : decode code 316 = .ok (.iadd, 1) := by decide +kernel
theorem d_L_law_317 : decode code 317 = .ok (.iaload, 1) := by decide +kernel
theorem d_L_law_318 : decode code 318 = .ok (.aload_n 0, 1) := by decide +kernel
theorem d_L_law_319 : decode code 319 = .ok (.iload_n 3, 1) := by decide +kernel
theorem d_L_law_320 : decode code 320 = .ok (.iconst 2, 1) := by decide +kernel
theorem d_L_law_321 : decode code 321 = .ok (.iadd, 1) := by decide +kernel
theorem d_L_law_322 : decode code 322 = .ok (.iaload, 1) := by decide +kernel
theorem d_L_law_323 : decode code 323 = .ok (.invokevirtual 38, 3) := by decide +kernel
theorem d_L_law_326 : decode code 326 = .ok (.if_icmp .eq 667, 3) := by decide +kernel
theorem d_L_law_329 : decode code 329 = .ok (.iconst 0, 1) := by decide +kernel
theorem d_L_law_330 : decode code 330 = .ok (.ireturn, 1) := by decide +kernel
theorem d_L_law_331 : decode code 331 = .ok (.aload_n 1, 1) := by decide +kernel
theorem d_L_law_332 : decode code 332 = .ok (.aload_n 0, 1) := by decide +kernel
theorem d_L_law_333 : decode code 333 = .ok (.iload_n 3, 1) := by decide +kernel
theorem d_L_law_334 : decode code 334 = .ok (.iconst 1, 1) := by decide +kernel
theorem d_L_law_335 : decode code 335 = .ok (.iadd, 1) := by decide +kernel
theorem d_L_law_336 : decode code 336 = .ok (.iaload, 1) := by decide +kernel
theorem d_L_law_337 : decode code 337 = .ok (.aload_n 0, 1) := by decide +kernel
theorem d_L_law_338 : decode code 338 = .ok (.iload_n 3, 1) := by decide +kernel
theorem d_L_law_339 : decode code 339 = .ok (.iconst 2, 1) := by decide +kernel
theorem d_L_law_340 : decode code 340 = .ok (.iadd, 1) := by decide +kernel
theorem d_L_law_341 : decode code 341 = .ok (.iaload, 1) := by decide +kernel
theorem d_L_law_342 : decode code 342 = .ok (.invokevirtual 39, 3) := by decide +kernel
theorem d_L_law_345 : decode code 345 = .ok (.aload_n 2, 1) := by decide +kernel
theorem d_L_law_346 : decode code 346 = .ok (.aload_n 0, 1) := by decide +kernel
theorem d_L_law_347 : decode code 347 = .ok (.iload_n 3, 1) := by decide +kernel
theorem d_L_law_348 : decode code 348 = .ok (.iconst 1, 1) := by decide +kernel
theorem d_L_law_349 : decode code 349 = .ok (.iadd, 1) := by decide +kernel
theorem d_L_law_350 : decode code 350 = .ok (.iaload, 1) := by decide +kernel
theorem d_L_law_351 : decode code 351 = .ok (.aload_n 0, 1) := by decide +kernel
theorem d_L_law_352 : decode code 352 = .ok (.iload_n 3, 1) := by decide +kernel
theorem d_L_law_353 : decode code 353 = .ok (.iconst 2, 1) := by decide +kernel
theorem d_L_law_354 : decode code 354 = .ok (.iadd, 1) := by decide +kernel
theorem d_L_law_355 : decode code 355 = .ok (.iaload, 1) := by decide +kernel
theorem d_L_law_356 : decode code 356 = .ok (.invokevirtual 43, 3) := by decide +kernel
theorem d_L_law_359 : decode code 359 = .ok (.if_icmp .eq 634, 3) := by decide +kernel
theorem d_L_law_362 : decode code 362 = .ok (.iconst 0, 1) := by decide +kernel
theorem d_L_law_363 : decode code 363 = .ok (.ireturn, 1) := by decide +kernel
theorem d_L_law_364 : decode code 364 = .ok (.aload_n 1, 1) := by decide +kernel
theorem d_L_law_365 : decode code 365 = .ok (.aload_n 0, 1) := by decide +kernel
theorem d_L_law_366 : decode code 366 = .ok (.iload_n 3, 1) := by decide +kernel
theorem d_L_law_367 : decode code 367 = .ok (.iconst 1, 1) := by decide +kernel
theorem d_L_law_368 : decode code 368 = .ok (.iadd, 1) := by decide +kernel
theorem d_L_law_369 : decode code 369 = .ok (.iaload, 1) := by decide +kernel
theorem d_L_law_370 : decode code 370 = .ok (.aload_n 0, 1) := by decide +kernel
theorem d_L_law_371 : decode code 371 = .ok (.iload_n 3, 1) := by decide +kernel
theorem d_L_law_372 : decode code 372 = .ok (.iconst 2, 1) := by decide +kernel
theorem d_L_law_373 : decode code 373 = .ok (.iadd, 1) := by decide +kernel
theorem d_L_law_374 : decode code 374 = .ok (.iaload, 1) := by decide +kernel
theorem d_L_law_375 : decode code 375 = .ok (.invokevirtual 44, 3) := by decide +kernel
theorem d_L_law_378 : decode code 378 = .ok (.aload_n 2, 1) := by decide +kernel
theorem d_L_law_379 : decode code 379 = .ok (.aload_n 0, 1) := by decide +kernel
theorem d_L_law_380 : decode code 380 = .ok (.iload_n 3, 1) := by decide +kernel
theorem d_L_law_381 : decode code 381 = .ok (.iconst 1, 1) := by decide +kernel
theorem d_L_law_382 : decode code 382 = .ok (.iadd, 1) := by decide +kernel
theorem d_L_law_383 : decode code 383 = .ok (.iaload, 1) := by decide +kernel
theorem d_L_law_384 : decode code 384 = .ok (.aload_n 0, 1) := by decide +kernel
theorem d_L_law_385 : decode code 385 = .ok (.iload_n 3, 1) := by decide +kernel
theorem d_L_law_386 : decode code 386 = .ok (.iconst 2, 1) := by decide +kernel
theorem d_L_law_387 : decode code 387 = .ok (.iadd, 1) := by decide +kernel
theorem d_L_law_388 : decode code 388 = .ok (.iaload, 1) := by decide +kernel
theorem d_L_law_389 : decode code 389 = .ok (.invokevirtual 47, 3) := by decide +kernel
theorem d_L_law_392 : decode code 392 = .ok (.if_icmp .eq 601, 3) := by decide +kernel
theorem d_L_law_395 : decode code 395 = .ok (.iconst 0, 1) := by decide +kernel
theorem d_L_law_396 : decode code 396 = .ok (.ireturn, 1) := by decide +kernel
theorem d_L_law_397 : decode code 397 = .ok (.aload_n 1, 1) := by decide +kernel
theorem d_L_law_398 : decode code 398 = .ok (.aload_n 0, 1) := by decide +kernel
theorem d_L_law_399 : decode code 399 = .ok (.iload_n 3, 1) := by decide +kernel
theorem d_L_law_400 : decode code 400 = .ok (.iconst 1, 1) := by decide +kernel
theorem d_L_law_401 : decode code 401 = .ok (.iadd, 1) := by decide +kernel
theorem d_L_law_402 : decode code 402 = .ok (.iaload, 1) := by decide +kernel
theorem d_L_law_403 : decode code 403 = .ok (.aload_n 0, 1) := by decide +kernel
theorem d_L_law_404 : decode code 404 = .ok (.iload_n 3, 1) := by decide +kernel
theorem d_L_law_405 : decode code 405 = .ok (.iconst 2, 1) := by decide +kernel
theorem d_L_law_406 : decode code 406 = .ok (.iadd, 1) := by decide +kernel
theorem d_L_law_407 : decode code 407 = .ok (.iaload, 1) := by decide +kernel
theorem d_L_law_408 : decode code 408 = .ok (.invokevirtual 48, 3) := by decide +kernel
theorem d_L_law_411 : decode code 411 = .ok (.aload_n 2, 1) := by decide +kernel
theorem d_L_law_412 : decode code 412 = .ok (.aload_n 0, 1) := by decide +kernel
theorem d_L_law_413 : decode code 413 = .ok (.iload_n 3, 1) := by decide +kernel
theorem d_L_law_414 : decode code 414 = .ok (.iconst 1, 1) := by decide +kernel
theorem d_L_law_415 : decode code 415 = .ok (.iadd, 1) := by decide +kernel
theorem d_L_law_416 : decode code 416 = .ok (.iaload, 1) := by decide +kernel
theorem d_L_law_417 : decode code 417 = .ok (.aload_n 0, 1) := by decide +kernel
theorem d_L_law_418 : decode code 418 = .ok (.iload_n 3, 1) := by decide +kernel
theorem d_L_law_419 : decode code 419 = .ok (.iconst 2, 1) := by decide +kernel
theorem d_L_law_420 : decode code 420 = .ok (.iadd, 1) := by decide +kernel
theorem d_L_law_421 : decode code 421 = .ok (.iaload, 1) := by decide +kernel
theorem d_L_law_422 : decode code 422 = .ok (.invokevirtual 51, 3) := by decide +kernel
theorem d_L_law_425 : decode code 425 = .ok (.if_icmp .eq 568, 3) := by decide +kernel
theorem d_L_law_428 : decode code 428 = .ok (.iconst 0, 1) := by decide +kernel
theorem d_L_law_429 : decode code 429 = .ok (.ireturn, 1) := by decide +kernel
theorem d_L_law_430 : decode code 430 = .ok (.aload_n 1, 1) := by decide +kernel
theorem d_L_law_431 : decode code 431 = .ok (.aload_n 0, 1) := by decide +kernel
theorem d_L_law_432 : decode code 432 = .ok (.iload_n 3, 1) := by decide +kernel
theorem d_L_law_433 : decode code 433 = .ok (.iconst 1, 1) := by decide +kernel
theorem d_L_law_434 : decode code 434 = .ok (.iadd, 1) := by decide +kernel
theorem d_L_law_435 : decode code 435 = .ok (.iaload, 1) := by decide +kernel
theorem d_L_law_436 : decode code 436 = .ok (.aload_n 0, 1) := by decide +kernel
theorem d_L_law_437 : decode code 437 = .ok (.iload_n 3, 1) := by decide +kernel
theorem d_L_law_438 : decode code 438 = .ok (.iconst 2, 1) := by decide +kernel
theorem d_L_law_439 : decode code 439 = .ok (.iadd, 1) := by decide +kernel
theorem d_L_law_440 : decode code 440 = .ok (.iaload, 1) := by decide +kernel
theorem d_L_law_441 : decode code 441 = .ok (.aload_n 0, 1) := by decide +kernel
theorem d_L_law_442 : decode code 442 = .ok (.iload_n 3, 1) := by decide +kernel
theorem d_L_law_443 : decode code 443 = .ok (.iconst 3, 1) := by decide +kernel
theorem d_L_law_444 : decode code 444 = .ok (.iadd, 1) := by decide +kernel
theorem d_L_law_445 : decode code 445 = .ok (.iaload, 1) := by decide +kernel
theorem d_L_law_446 : decode code 446 = .ok (.invokevirtual 52, 3) := by decide +kernel
theorem d_L_law_449 : decode code 449 = .ok (.aload_n 2, 1) := by decide +kernel
theorem d_L_law_450 : decode code 450 = .ok (.aload_n 0, 1) := by decide +kernel
theorem d_L_law_451 : decode code 451 = .ok (.iload_n 3, 1) := by decide +kernel
theorem d_L_law_452 : decode code 452 = .ok (.iconst 1, 1) := by decide +kernel
theorem d_L_law_453 : decode code 453 = .ok (.iadd, 1) := by decide +kernel
theorem d_L_law_454 : decode code 454 = .ok (.iaload, 1) := by decide +kernel
theorem d_L_law_455 : decode code 455 = .ok (.aload_n 0, 1) := by decide +kernel
theorem d_L_law_456 : decode code 456 = .ok (.iload_n 3, 1) := by decide +kernel
theorem d_L_law_457 : decode code 457 = .ok (.iconst 2, 1) := by decide +kernel
theorem d_L_law_458 : decode code 458 = .ok (.iadd, 1) := by decide +kernel
theorem d_L_law_459 : decode code 459 = .ok (.iaload, 1) := by decide +kernel
theorem d_L_law_460 : decode code 460 = .ok (.aload_n 0, 1) := by decide +kernel
theorem d_L_law_461 : decode code 461 = .ok (.iload_n 3, 1) := by decide +kernel
theorem d_L_law_462 : decode code 462 = .ok (.iconst 3, 1) := by decide +kernel
theorem d_L_law_463 : decode code 463 = .ok (.iadd, 1) := by decide +kernel
theorem d_L_law_464 : decode code 464 = .ok (.iaload, 1) := by decide +kernel
theorem d_L_law_465 : decode code 465 = .ok (.invokevirtual 56, 3) := by decide +kernel
theorem d_L_law_468 : decode code 468 = .ok (.if_icmp .eq 525, 3) := by decide +kernel
theorem d_L_law_471 : decode code 471 = .ok (.iconst 0, 1) := by decide +kernel
theorem d_L_law_472 : decode code 472 = .ok (.ireturn, 1) := by decide +kernel
theorem d_L_law_473 : decode code 473 = .ok (.aload_n 1, 1) := by decide +kernel
theorem d_L_law_474 : decode code 474 = .ok (.aload_n 0, 1) := by decide +kernel
theorem d_L_law_475 : decode code 475 = .ok (.iload_n 3, 1) := by decide +kernel
theorem d_L_law_476 : decode code 476 = .ok (.iconst 1, 1) := by decide +kernel
theorem d_L_law_477 : decode code 477 = .ok (.iadd, 1) := by decide +kernel
theorem d_L_law_478 : decode code 478 = .ok (.iaload, 1) := by decide +kernel
theorem d_L_law_479 : decode code 479 = .ok (.invokevirtual 57, 3) := by decide +kernel
theorem d_L_law_482 : decode code 482 = .ok (.aload_n 2, 1) := by decide +kernel
theorem d_L_law_483 : decode code 483 = .ok (.aload_n 0, 1) := by decide +kernel
theorem d_L_law_484 : decode code 484 = .ok (.iload_n 3, 1) := by decide +kernel
theorem d_L_law_485 : decode code 485 = .ok (.iconst 1, 1) := by decide +kernel
theorem d_L_law_486 : decode code 486 = .ok (.iadd, 1) := by decide +kernel
theorem d_L_law_487 : decode code 487 = .ok (.iaload, 1) := by decide +kernel
theorem d_L_law_488 : decode code 488 = .ok (.invokevirtual 60, 3) := by decide +kernel
theorem d_L_law_491 : decode code 491 = .ok (.if_icmp .eq 502, 3) := by decide +kernel
theorem d_L_law_494 : decode code 494 = .ok (.iconst 0, 1) := by decide +kernel
theorem d_L_law_495 : decode code 495 = .ok (.ireturn, 1) := by decide +kernel
theorem d_L_law_496 : decode code 496 = .ok (.aload_n 1, 1) := by decide +kernel
theorem d_L_law_497 : decode code 497 = .ok (.aload_n 0, 1) := by decide +kernel
theorem d_L_law_498 : decode code 498 = .ok (.iload_n 3, 1) := by decide +kernel
theorem d_L_law_499 : decode code 499 = .ok (.iconst 1, 1) := by decide +kernel
theorem d_L_law_500 : decode code 500 = .ok (.iadd, 1) := by decide +kernel
theorem d_L_law_501 : decode code 501 = .ok (.iaload, 1) := by decide +kernel
theorem d_L_law_502 : decode code 502 = .ok (.aload_n 0, 1) := by decide +kernel
theorem d_L_law_503 : decode code 503 = .ok (.iload_n 3, 1) := by decide +kernel
theorem d_L_law_504 : decode code 504 = .ok (.iconst 2, 1) := by decide +kernel
theorem d_L_law_505 : decode code 505 = .ok (.iadd, 1) := by decide +kernel
theorem d_L_law_506 : decode code 506 = .ok (.iaload, 1) := by decide +kernel
theorem d_L_law_507 : decode code 507 = .ok (.aload_n 0, 1) := by decide +kernel
theorem d_L_law_508 : decode code 508 = .ok (.iload_n 3, 1) := by decide +kernel
theorem d_L_law_509 : decode code 509 = .ok (.iconst 3, 1) := by decide +kernel
theorem d_L_law_510 : decode code 510 = .ok (.iadd, 1) := by decide +kernel
theorem d_L_law_511 : decode code 511 = .ok (.iaload, 1) := by decide +kernel
theorem d_L_law_512 : decode code 512 = .ok (.aload_n 0, 1) := by decide +kernel
theorem d_L_law_513 : decode code 513 = .ok (.iload_n 3, 1) := by decide +kernel
theorem d_L_law_514 : decode code 514 = .ok (.iconst 4, 1) := by decide +kernel
theorem d_L_law_515 : decode code 515 = .ok (.iadd, 1) := by decide +kernel
theorem d_L_law_516 : decode code 516 = .ok (.iaload, 1) := by decide +kernel
theorem d_L_law_517 : decode code 517 = .ok (.invokevirtual 61, 3) := by decide +kernel
theorem d_L_law_520 : decode code 520 = .ok (.aload_n 2, 1) := by decide +kernel
theorem d_L_law_521 : decode code 521 = .ok (.aload_n 0, 1) := by decide +kernel
theorem d_L_law_522 : decode code 522 = .ok (.iload_n 3, 1) := by decide +kernel
theorem d_L_law_523 : decode code 523 = .ok (.iconst 1, 1) := by decide +kernel
theorem d_L_law_524 : decode code 524 = .ok (.iadd, 1) := by decide +kernel
theorem d_L_law_525 : decode code 525 = .ok (.iaload, 1) := by decide +kernel
theorem d_L_law_526 : decode code 526 = .ok (.aload_n 0, 1) := by decide +kernel
theorem d_L_law_527 : decode code 527 = .ok (.iload_n 3, 1) := by decide +kernel
theorem d_L_law_528 : decode code 528 = .ok (.iconst 2, 1) := by decide +kernel
theorem d_L_law_529 : decode code 529 = .ok (.iadd, 1) := by decide +kernel
theorem d_L_law_530 : decode code 530 = .ok (.iaload, 1) := by decide +kernel
theorem d_L_law_531 : decode code 531 = .ok (.aload_n 0, 1) := by decide +kernel
theorem d_L_law_532 : decode code 532 = .ok (.iload_n 3, 1) := by decide +kernel
theorem d_L_law_533 : decode code 533 = .ok (.iconst 3, 1) := by decide +kernel
theorem d_L_law_534 : decode code 534 = .ok (.iadd, 1) := by decide +kernel
theorem d_L_law_535 : decode code 535 = .ok (.iaload, 1) := by decide +kernel
theorem d_L_law_536 : decode code 536 = .ok (.aload_n 0, 1) := by decide +kernel
theorem d_L_law_537 : decode code 537 = .ok (.iload_n 3, 1) := by decide +kernel
theorem d_L_law_538 : decode code 538 = .ok (.iconst 4, 1) := by decide +kernel
theorem d_L_law_539 : decode code 539 = .ok (.iadd, 1) := by decide +kernel
theorem d_L_law_540 : decode code 540 = .ok (.iaload, 1) := by decide +kernel
theorem d_L_law_541 : decode code 541 = .ok (.invokevirtual 65, 3) := by decide +kernel
theorem d_L_law_544 : decode code 544 = .ok (.lcmp, 1) := by decide +kernel
theorem d_L_law_545 : decode code 545 = .ok (.ifCond .eq 448, 3) := by decide +kernel
theorem d_L_law_548 : decode code 548 = .ok (.iconst 0, 1) := by decide +kernel
theorem d_L_law_549 : decode code 549 = .ok (.ireturn, 1) := by decide +kernel
theorem d_L_law_550 : decode code 550 = .ok (.aload_n 1, 1) := by decide +kernel
theorem d_L_law_551 : decode code 551 = .ok (.aload_n 0, 1) := by decide +kernel
theorem d_L_law_552 : decode code 552 = .ok (.iload_n 3, 1) := by decide +kernel
theorem d_L_law_553 : decode code 553 = .ok (.iconst 1, 1) := by decide +kernel
theorem d_L_law_554 : decode code 554 = .ok (.iadd, 1) := by decide +kernel
theorem d_L_law_555 : decode code 555 = .ok (.iaload, 1) := by decide +kernel
theorem d_L_law_556 : decode code 556 = .ok (.aload_n 0, 1) := by decide +kernel
theorem d_L_law_557 : decode code 557 = .ok (.iload_n 3, 1) := by decide +kernel
theorem d_L_law_558 : decode code 558 = .ok (.iconst 2, 1) := by decide +kernel
theorem d_L_law_559 : decode code 559 = .ok (.iadd, 1) := by decide +kernel
theorem d_L_law_560 : decode code 560 = .ok (.iaload, 1) := by decide +kernel
theorem d_L_law_561 : decode code 561 = .ok (.invokevirtual 66, 3) := by decide +kernel
theorem d_L_law_564 : decode code 564 = .ok (.aload_n 2, 1) := by decide +kernel
theorem d_L_law_565 : decode code 565 = .ok (.aload_n 0, 1) := by decide +kernel
theorem d_L_law_566 : decode code 566 = .ok (.iload_n 3, 1) := by decide +kernel
theorem d_L_law_567 : decode code 567 = .ok (.iconst 1, 1) := by decide +kernel
theorem d_L_law_568 : decode code 568 = .ok (.iadd, 1) := by decide +kernel
theorem d_L_law_569 : decode code 569 = .ok (.iaload, 1) := by decide +kernel
theorem d_L_law_570 : decode code 570 = .ok (.aload_n 0, 1) := by decide +kernel
theorem d_L_law_571 : decode code 571 = .ok (.iload_n 3, 1) := by decide +kernel
theorem d_L_law_572 : decode code 572 = .ok (.iconst 2, 1) := by decide +kernel
theorem d_L_law_573 : decode code 573 = .ok (.iadd, 1) := by decide +kernel
theorem d_L_law_574 : decode code 574 = .ok (.iaload, 1) := by decide +kernel
theorem d_L_law_575 : decode code 575 = .ok (.invokevirtual 69, 3) := by decide +kernel
theorem d_L_law_578 : decode code 578 = .ok (.if_icmp .eq 415, 3) := by decide +kernel
theorem d_L_law_581 : decode code 581 = .ok (.iconst 0, 1) := by decide +kernel
theorem d_L_law_582 : decode code 582 = .ok (.ireturn, 1) := by decide +kernel
theorem d_L_law_583 : decode code 583 = .ok (.aload_n 1, 1) := by decide +kernel
theorem d_L_law_584 : decode code 584 = .ok (.aload_n 0, 1) := by decide +kernel
theorem d_L_law_585 : decode code 585 = .ok (.iload_n 3, 1) := by decide +kernel
theorem d_L_law_586 : decode code 586 = .ok (.iconst 1, 1) := by decide +kernel
theorem d_L_law_587 : decode code 587 = .ok (.iadd, 1) := by decide +kernel
theorem d_L_law_588 : decode code 588 = .ok (.iaload, 1) := by decide +kernel
theorem d_L_law_589 : decode code 589 = .ok (.aload_n 0, 1) := by decide +kernel
theorem d_L_law_590 : decode code 590 = .ok (.iload_n 3, 1) := by decide +kernel
theorem d_L_law_591 : decode code 591 = .ok (.iconst 2, 1) := by decide +kernel
theorem d_L_law_592 : decode code 592 = .ok (.iadd, 1) := by decide +kernel
theorem d_L_law_593 : decode code 593 = .ok (.iaload, 1) := by decide +kernel
theorem d_L_law_594 : decode code 594 = .ok (.aload_n 0, 1) := by decide +kernel
theorem d_L_law_595 : decode code 595 = .ok (.iload_n 3, 1) := by decide +kernel
theorem d_L_law_596 : decode code 596 = .ok (.iconst 3, 1) := by decide +kernel
theorem d_L_law_597 : decode code 597 = .ok (.iadd, 1) := by decide +kernel
theorem d_L_law_598 : decode code 598 = .ok (.iaload, 1) := by decide +kernel
theorem d_L_law_599 : decode code 599 = .ok (.invokevirtual 70, 3) := by decide +kernel
theorem d_L_law_602 : decode code 602 = .ok (.aload_n 2, 1) := by decide +kernel
theorem d_L_law_603 : decode code 603 = .ok (.aload_n 0, 1) := by decide +kernel
theorem d_L_law_604 : decode code 604 = .ok (.iload_n 3, 1) := by decide +kernel
theorem d_L_law_605 : decode code 605 = .ok (.iconst 1, 1) := by decide +kernel
theorem d_L_law_606 : decode code 606 = .ok (.iadd, 1) := by decide +kernel
theorem d_L_law_607 : decode code 607 = .ok (.iaload, 1) := by decide +kernel
theorem d_L_law_608 : decode code 608 = .ok (.aload_n 0, 1) := by decide +kernel
theorem d_L_law_609 : decode code 609 = .ok (.iload_n 3, 1) := by decide +kernel
theorem d_L_law_610 : decode code 610 = .ok (.iconst 2, 1) := by decide +kernel
theorem d_L_law_611 : decode code 611 = .ok (.iadd, 1) := by decide +kernel
theorem d_L_law_612 : decode code 612 = .ok (.iaload, 1) := by decide +kernel
theorem d_L_law_613 : decode code 613 = .ok (.aload_n 0, 1) := by decide +kernel
theorem d_L_law_614 : decode code 614 = .ok (.iload_n 3, 1) := by decide +kernel
theorem d_L_law_615 : decode code 615 = .ok (.iconst 3, 1) := by decide +kernel
theorem d_L_law_616 : decode code 616 = .ok (.iadd, 1) := by decide +kernel
theorem d_L_law_617 : decode code 617 = .ok (.iaload, 1) := by decide +kernel
theorem d_L_law_618 : decode code 618 = .ok (.invokevirtual 73, 3) := by decide +kernel
theorem d_L_law_621 : decode code 621 = .ok (.if_icmp .eq 372, 3) := by decide +kernel
theorem d_L_law_624 : decode code 624 = .ok (.iconst 0, 1) := by decide +kernel
theorem d_L_law_625 : decode code 625 = .ok (.ireturn, 1) := by decide +kernel
theorem d_L_law_626 : decode code 626 = .ok (.aload_n 1, 1) := by decide +kernel
theorem d_L_law_627 : decode code 627 = .ok (.aload_n 0, 1) := by decide +kernel
theorem d_L_law_628 : decode code 628 = .ok (.iload_n 3, 1) := by decide +kernel
theorem d_L_law_629 : decode code 629 = .ok (.iconst 1, 1) := by decide +kernel
theorem d_L_law_630 : decode code 630 = .ok (.iadd, 1) := by decide +kernel
theorem d_L_law_631 : decode code 631 = .ok (.iaload, 1) := by decide +kernel
theorem d_L_law_632 : decode code 632 = .ok (.aload_n 0, 1) := by decide +kernel
theorem d_L_law_633 : decode code 633 = .ok (.iload_n 3, 1) := by decide +kernel
theorem d_L_law_634 : decode code 634 = .ok (.iconst 2, 1) := by decide +kernel
theorem d_L_law_635 : decode code 635 = .ok (.iadd, 1) := by decide +kernel
theorem d_L_law_636 : decode code 636 = .ok (.iaload, 1) := by decide +kernel
theorem d_L_law_637 : decode code 637 = .ok (.invokevirtual 74, 3) := by decide +kernel
theorem d_L_law_640 : decode code 640 = .ok (.aload_n 2, 1) := by decide +kernel
theorem d_L_law_641 : decode code 641 = .ok (.aload_n 0, 1) := by decide +kernel
theorem d_L_law_642 : decode code 642 = .ok (.iload_n 3, 1) := by decide +kernel
theorem d_L_law_643 : decode code 643 = .ok (.iconst 1, 1) := by decide +kernel
theorem d_L_law_644 : decode code 644 = .ok (.iadd, 1) := by decide +kernel
theorem d_L_law_645 : decode code 645 = .ok (.iaload, 1) := by decide +kernel
theorem d_L_law_646 : decode code 646 = .ok (.aload_n 0, 1) := by decide +kernel
theorem d_L_law_647 : decode code 647 = .ok (.iload_n 3, 1) := by decide +kernel
theorem d_L_law_648 : decode code 648 = .ok (.iconst 2, 1) := by decide +kernel
theorem d_L_law_649 : decode code 649 = .ok (.iadd, 1) := by decide +kernel
theorem d_L_law_650 : decode code 650 = .ok (.iaload, 1) := by decide +kernel
theorem d_L_law_651 : decode code 651 = .ok (.invokevirtual 77, 3) := by decide +kernel
theorem d_L_law_654 : decode code 654 = .ok (.if_icmp .eq 339, 3) := by decide +kernel
theorem d_L_law_657 : decode code 657 = .ok (.iconst 0, 1) := by decide +kernel
theorem d_L_law_658 : decode code 658 = .ok (.ireturn, 1) := by decide +kernel
theorem d_L_law_659 : decode code 659 = .ok (.aload_n 1, 1) := by decide +kernel
theorem d_L_law_660 : decode code 660 = .ok (.aload_n 0, 1) := by decide +kernel
theorem d_L_law_661 : decode code 661 = .ok (.iload_n 3, 1) := by decide +kernel
theorem d_L_law_662 : decode code 662 = .ok (.iconst 1, 1) := by decide +kernel
theorem d_L_law_663 : decode code 663 = .ok (.iadd, 1) := by decide +kernel
theorem d_L_law_664 : decode code 664 = .ok (.iaload, 1) := by decide +kernel
theorem d_L_law_665 : decode code 665 = .ok (.aload_n 0, 1) := by decide +kernel
theorem d_L_law_666 : decode code 666 = .ok (.iload_n 3, 1) := by decide +kernel
theorem d_L_law_667 : decode code 667 = .ok (.iconst 2, 1) := by decide +kernel
theorem d_L_law_668 : decode code 668 = .ok (.iadd, 1) := by decide +kernel
theorem d_L_law_669 : decode code 669 = .ok (.iaload, 1) := by decide +kernel
theorem d_L_law_670 : decode code 670 = .ok (.i2l, 1) := by decide +kernel
theorem d_L_law_671 : decode code 671 = .ok (.bipush 32, 2) := by decide +kernel
theorem d_L_law_673 : decode code 673 = .ok (.lshl, 1) := by decide +kernel
theorem d_L_law_674 : decode code 674 = .ok (.aload_n 0, 1) := by decide +kernel
theorem d_L_law_675 : decode code 675 = .ok (.iload_n 3, 1) := by decide +kernel
theorem d_L_law_676 : decode code 676 = .ok (.iconst 3, 1) := by decide +kernel
theorem d_L_law_677 : decode code 677 = .ok (.iadd, 1) := by decide +kernel
theorem d_L_law_678 : decode code 678 = .ok (.iaload, 1) := by decide +kernel
theorem d_L_law_679 : decode code 679 = .ok (.i2l, 1) := by decide +kernel
theorem d_L_law_680 : decode code 680 = .ok (.ldc2_w 13, 3) := by decide +kernel
theorem d_L_law_683 : decode code 683 = .ok (.land, 1) := by decide +kernel
theorem d_L_law_684 : decode code 684 = .ok (.lor, 1) := by decide +kernel
theorem d_L_law_685 : decode code 685 = .ok (.aload_n 0, 1) := by decide +kernel
theorem d_L_law_686 : decode code 686 = .ok (.iload_n 3, 1) := by decide +kernel
theorem d_L_law_687 : decode code 687 = .ok (.iconst 4, 1) := by decide +kernel
theorem d_L_law_688 : decode code 688 = .ok (.iadd, 1) := by decide +kernel
theorem d_L_law_689 : decode code 689 = .ok (.iaload, 1) := by decide +kernel
theorem d_L_law_690 : decode code 690 = .ok (.invokevirtual 78, 3) := by decide +kernel
theorem d_L_law_693 : decode code 693 = .ok (.aload_n 2, 1) := by decide +kernel
theorem d_L_law_694 : decode code 694 = .ok (.aload_n 0, 1) := by decide +kernel
theorem d_L_law_695 : decode code 695 = .ok (.iload_n 3, 1) := by decide +kernel
theorem d_L_law_696 : decode code 696 = .ok (.iconst 1, 1) := by decide +kernel
theorem d_L_law_697 : decode code 697 = .ok (.iadd, 1) := by decide +kernel
theorem d_L_law_698 : decode code 698 = .ok (.iaload, 1) := by decide +kernel
theorem d_L_law_699 : decode code 699 = .ok (.aload_n 0, 1) := by decide +kernel
theorem d_L_law_700 : decode code 700 = .ok (.iload_n 3, 1) := by decide +kernel
theorem d_L_law_701 : decode code 701 = .ok (.iconst 2, 1) := by decide +kernel
theorem d_L_law_702 : decode code 702 = .ok (.iadd, 1) := by decide +kernel
theorem d_L_law_703 : decode code 703 = .ok (.iaload, 1) := by decide +kernel
theorem d_L_law_704 : decode code 704 = .ok (.i2l, 1) := by decide +kernel
theorem d_L_law_705 : decode code 705 = .ok (.bipush 32, 2) := by decide +kernel
theorem d_L_law_707 : decode code 707 = .ok (.lshl, 1) := by decide +kernel
theorem d_L_law_708 : decode code 708 = .ok (.aload_n 0, 1) := by decide +kernel
theorem d_L_law_709 : decode code 709 = .ok (.iload_n 3, 1) := by decide +kernel
theorem d_L_law_710 : decode code 710 = .ok (.iconst 3, 1) := by decide +kernel
theorem d_L_law_711 : decode code 711 = .ok (.iadd, 1) := by decide +kernel
theorem d_L_law_712 : decode code 712 = .ok (.iaload, 1) := by decide +kernel
theorem d_L_law_713 : decode code 713 = .ok (.i2l, 1) := by decide +kernel
theorem d_L_law_714 : decode code 714 = .ok (.ldc2_w 13, 3) := by decide +kernel
theorem d_L_law_717 : decode code 717 = .ok (.land, 1) := by decide +kernel
theorem d_L_law_718 : decode code 718 = .ok (.lor, 1) := by decide +kernel
theorem d_L_law_719 : decode code 719 = .ok (.aload_n 0, 1) := by decide +kernel
theorem d_L_law_720 : decode code 720 = .ok (.iload_n 3, 1) := by decide +kernel
theorem d_L_law_721 : decode code 721 = .ok (.iconst 4, 1) := by decide +kernel
theorem d_L_law_722 : decode code 722 = .ok (.iadd, 1) := by decide +kernel
theorem d_L_law_723 : decode code 723 = .ok (.iaload, 1) := by decide +kernel
theorem d_L_law_724 : decode code 724 = .ok (.invokevirtual 81, 3) := by decide +kernel
theorem d_L_law_727 : decode code 727 = .ok (.if_icmp .eq 266, 3) := by decide +kernel
theorem d_L_law_730 : decode code 730 = .ok (.iconst 0, 1) := by decide +kernel
theorem d_L_law_731 : decode code 731 = .ok (.ireturn, 1) := by decide +kernel
theorem d_L_law_732 : decode code 732 = .ok (.aload_n 1, 1) := by decide +kernel
theorem d_L_law_733 : decode code 733 = .ok (.aload_n 0, 1) := by decide +kernel
theorem d_L_law_734 : decode code 734 = .ok (.iload_n 3, 1) := by decide +kernel
theorem d_L_law_735 : decode code 735 = .ok (.iconst 1, 1) := by decide +kernel
theorem d_L_law_736 : decode code 736 = .ok (.iadd, 1) := by decide +kernel
theorem d_L_law_737 : decode code 737 = .ok (.iaload, 1) := by decide +kernel
theorem d_L_law_738 : decode code 738 = .ok (.aload_n 0, 1) := by decide +kernel
theorem d_L_law_739 : decode code 739 = .ok (.iload_n 3, 1) := by decide +kernel
theorem d_L_law_740 : decode code 740 = .ok (.iconst 2, 1) := by decide +kernel
theorem d_L_law_741 : decode code 741 = .ok (.iadd, 1) := by decide +kernel
theorem d_L_law_742 : decode code 742 = .ok (.iaload, 1) := by decide +kernel
theorem d_L_law_743 : decode code 743 = .ok (.i2l, 1) := by decide +kernel
theorem d_L_law_744 : decode code 744 = .ok (.bipush 32, 2) := by decide +kernel
theorem d_L_law_746 : decode code 746 = .ok (.lshl, 1) := by decide +kernel
theorem d_L_law_747 : decode code 747 = .ok (.aload_n 0, 1) := by decide +kernel
theorem d_L_law_748 : decode code 748 = .ok (.iload_n 3, 1) := by decide +kernel
theorem d_L_law_749 : decode code 749 = .ok (.iconst 3, 1) := by decide +kernel
theorem d_L_law_750 : decode code 750 = .ok (.iadd, 1) := by decide +kernel
theorem d_L_law_751 : decode code 751 = .ok (.iaload, 1) := by decide +kernel
theorem d_L_law_752 : decode code 752 = .ok (.i2l, 1) := by decide +kernel
theorem d_L_law_753 : decode code 753 = .ok (.ldc2_w 13, 3) := by decide +kernel
theorem d_L_law_756 : decode code 756 = .ok (.land, 1) := by decide +kernel
theorem d_L_law_757 : decode code 757 = .ok (.lor, 1) := by decide +kernel
theorem d_L_law_758 : decode code 758 = .ok (.aload_n 0, 1) := by decide +kernel
theorem d_L_law_759 : decode code 759 = .ok (.iload_n 3, 1) := by decide +kernel
theorem d_L_law_760 : decode code 760 = .ok (.iconst 4, 1) := by decide +kernel
theorem d_L_law_761 : decode code 761 = .ok (.iadd, 1) := by decide +kernel
theorem d_L_law_762 : decode code 762 = .ok (.iaload, 1) := by decide +kernel
theorem d_L_law_763 : decode code 763 = .ok (.i2l, 1) := by decide +kernel
theorem d_L_law_764 : decode code 764 = .ok (.bipush 32, 2) := by decide +kernel
theorem d_L_law_766 : decode code 766 = .ok (.lshl, 1) := by decide +kernel
theorem d_L_law_767 : decode code 767 = .ok (.aload_n 0, 1) := by decide +kernel
theorem d_L_law_768 : decode code 768 = .ok (.iload_n 3, 1) := by decide +kernel
theorem d_L_law_769 : decode code 769 = .ok (.iconst 5, 1) := by decide +kernel
theorem d_L_law_770 : decode code 770 = .ok (.iadd, 1) := by decide +kernel
theorem d_L_law_771 : decode code 771 = .ok (.iaload, 1) := by decide +kernel
theorem d_L_law_772 : decode code 772 = .ok (.i2l, 1) := by decide +kernel
theorem d_L_law_773 : decode code 773 = .ok (.ldc2_w 13, 3) := by decide +kernel
theorem d_L_law_776 : decode code 776 = .ok (.land, 1) := by decide +kernel
theorem d_L_law_777 : decode code 777 = .ok (.lor, 1) := by decide +kernel
theorem d_L_law_778 : decode code 778 = .ok (.invokevirtual 82, 3) := by decide +kernel
theorem d_L_law_781 : decode code 781 = .ok (.aload_n 2, 1) := by decide +kernel
theorem d_L_law_782 : decode code 782 = .ok (.aload_n 0, 1) := by decide +kernel
theorem d_L_law_783 : decode code 783 = .ok (.iload_n 3, 1) := by decide +kernel
theorem d_L_law_784 : decode code 784 = .ok (.iconst 1, 1) := by decide +kernel
theorem d_L_law_785 : decode code 785 = .ok (.iadd, 1) := by decide +kernel
theorem d_L_law_786 : decode code 786 = .ok (.iaload, 1) := by decide +kernel
theorem d_L_law_787 : decode code 787 = .ok (.aload_n 0, 1) := by decide +kernel
theorem d_L_law_788 : decode code 788 = .ok (.iload_n 3, 1) := by decide +kernel
theorem d_L_law_789 : decode code 789 = .ok (.iconst 2, 1) := by decide +kernel
theorem d_L_law_790 : decode code 790 = .ok (.iadd, 1) := by decide +kernel
theorem d_L_law_791 : decode code 791 = .ok (.iaload, 1) := by decide +kernel
theorem d_L_law_792 : decode code 792 = .ok (.i2l, 1) := by decide +kernel
theorem d_L_law_793 : decode code 793 = .ok (.bipush 32, 2) := by decide +kernel
theorem d_L_law_795 : decode code 795 = .ok (.lshl, 1) := by decide +kernel
theorem d_L_law_796 : decode code 796 = .ok (.aload_n 0, 1) := by decide +kernel
theorem d_L_law_797 : decode code 797 = .ok (.iload_n 3, 1) := by decide +kernel
theorem d_L_law_798 : decode code 798 = .ok (.iconst 3, 1) := by decide +kernel
theorem d_L_law_799 : decode code 799 = .ok (.iadd, 1) := by decide +kernel
theorem d_L_law_800 : decode code 800 = .ok (.iaload, 1) := by decide +kernel
theorem d_L_law_801 : decode code 801 = .ok (.i2l, 1) := by decide +kernel
theorem d_L_law_802 : decode code 802 = .ok (.ldc2_w 13, 3) := by decide +kernel
theorem d_L_law_805 : decode code 805 = .ok (.land, 1) := by decide +kernel
theorem d_L_law_806 : decode code 806 = .ok (.lor, 1) := by decide +kernel
theorem d_L_law_807 : decode code 807 = .ok (.aload_n 0, 1) := by decide +kernel
theorem d_L_law_808 : decode code 808 = .ok (.iload_n 3, 1) := by decide +kernel
theorem d_L_law_809 : decode code 809 = .ok (.iconst 4, 1) := by decide +kernel
theorem d_L_law_810 : decode code 810 = .ok (.iadd, 1) := by decide +kernel
theorem d_L_law_811 : decode code 811 = .ok (.iaload, 1) := by decide +kernel
theorem d_L_law_812 : decode code 812 = .ok (.i2l, 1) := by decide +kernel
theorem d_L_law_813 : decode code 813 = .ok (.bipush 32, 2) := by decide +kernel
theorem d_L_law_815 : decode code 815 = .ok (.lshl, 1) := by decide +kernel
theorem d_L_law_816 : decode code 816 = .ok (.aload_n 0, 1) := by decide +kernel
theorem d_L_law_817 : decode code 817 = .ok (.iload_n 3, 1) := by decide +kernel
theorem d_L_law_818 : decode code 818 = .ok (.iconst 5, 1) := by decide +kernel
theorem d_L_law_819 : decode code 819 = .ok (.iadd, 1) := by decide +kernel
theorem d_L_law_820 : decode code 820 = .ok (.iaload, 1) := by decide +kernel
theorem d_L_law_821 : decode code 821 = .ok (.i2l, 1) := by decide +kernel
theorem d_L_law_822 : decode code 822 = .ok (.ldc2_w 13, 3) := by decide +kernel
theorem d_L_law_825 : decode code 825 = .ok (.land, 1) := by decide +kernel
theorem d_L_law_826 : decode code 826 = .ok (.lor, 1) := by decide +kernel
theorem d_L_law_827 : decode code 827 = .ok (.invokevirtual 86, 3) := by decide +kernel
theorem d_L_law_830 : decode code 830 = .ok (.if_icmp .eq 163, 3) := by decide +kernel
theorem d_L_law_833 : decode code 833 = .ok (.iconst 0, 1) := by decide +kernel
theorem d_L_law_834 : decode code 834 = .ok (.ireturn, 1) := by decide +kernel
theorem d_L_law_835 : decode code 835 = .ok (.aload_n 1, 1) := by decide +kernel
theorem d_L_law_836 : decode code 836 = .ok (.aload_n 0, 1) := by decide +kernel
theorem d_L_law_837 : decode code 837 = .ok (.iload_n 3, 1) := by decide +kernel
theorem d_L_law_838 : decode code 838 = .ok (.iconst 1, 1) := by decide +kernel
theorem d_L_law_839 : decode code 839 = .ok (.iadd, 1) := by decide +kernel
theorem d_L_law_840 : decode code 840 = .ok (.iaload, 1) := by decide +kernel
theorem d_L_law_841 : decode code 841 = .ok (.i2l, 1) := by decide +kernel
theorem d_L_law_842 : decode code 842 = .ok (.bipush 32, 2) := by decide +kernel
theorem d_L_law_844 : decode code 844 = .ok (.lshl, 1) := by decide +kernel
theorem d_L_law_845 : decode code 845 = .ok (.aload_n 0, 1) := by decide +kernel
theorem d_L_law_846 : decode code 846 = .ok (.iload_n 3, 1) := by decide +kernel
theorem d_L_law_847 : decode code 847 = .ok (.iconst 2, 1) := by decide +kernel
theorem d_L_law_848 : decode code 848 = .ok (.iadd, 1) := by decide +kernel
theorem d_L_law_849 : decode code 849 = .ok (.iaload, 1) := by decide +kernel
theorem d_L_law_850 : decode code 850 = .ok (.i2l, 1) := by decide +kernel
theorem d_L_law_851 : decode code 851 = .ok (.ldc2_w 13, 3) := by decide +kernel
theorem d_L_law_854 : decode code 854 = .ok (.land, 1) := by decide +kernel
theorem d_L_law_855 : decode code 855 = .ok (.lor, 1) := by decide +kernel
theorem d_L_law_856 : decode code 856 = .ok (.invokevirtual 87, 3) := by decide +kernel
theorem d_L_law_859 : decode code 859 = .ok (.aload_n 2, 1) := by decide +kernel
theorem d_L_law_860 : decode code 860 = .ok (.aload_n 0, 1) := by decide +kernel
theorem d_L_law_861 : decode code 861 = .ok (.iload_n 3, 1) := by decide +kernel
theorem d_L_law_862 : decode code 862 = .ok (.iconst 1, 1) := by decide +kernel
theorem d_L_law_863 : decode code 863 = .ok (.iadd, 1) := by decide +kernel
theorem d_L_law_864 : decode code 864 = .ok (.iaload, 1) := by decide +kernel
theorem d_L_law_865 : decode code 865 = .ok (.i2l, 1) := by decide +kernel
theorem d_L_law_866 : decode code 866 = .ok (.bipush 32, 2) := by decide +kernel
theorem d_L_law_868 : decode code 868 = .ok (.lshl, 1) := by decide +kernel
theorem d_L_law_869 : decode code 869 = .ok (.aload_n 0, 1) := by decide +kernel
theorem d_L_law_870 : decode code 870 = .ok (.iload_n 3, 1) := by decide +kernel
theorem d_L_law_871 : decode code 871 = .ok (.iconst 2, 1) := by decide +kernel
theorem d_L_law_872 : decode code 872 = .ok (.iadd, 1) := by decide +kernel
theorem d_L_law_873 : decode code 873 = .ok (.iaload, 1) := by decide +kernel
theorem d_L_law_874 : decode code 874 = .ok (.i2l, 1) := by decide +kernel
theorem d_L_law_875 : decode code 875 = .ok (.ldc2_w 13, 3) := by decide +kernel
theorem d_L_law_878 : decode code 878 = .ok (.land, 1) := by decide +kernel
theorem d_L_law_879 : decode code 879 = .ok (.lor, 1) := by decide +kernel
theorem d_L_law_880 : decode code 880 = .ok (.invokevirtual 91, 3) := by decide +kernel
theorem d_L_law_883 : decode code 883 = .ok (.if_icmp .eq 110, 3) := by decide +kernel
theorem d_L_law_886 : decode code 886 = .ok (.iconst 0, 1) := by decide +kernel
theorem d_L_law_887 : decode code 887 = .ok (.ireturn, 1) := by decide +kernel
theorem d_L_law_888 : decode code 888 = .ok (.aload_n 1, 1) := by decide +kernel
theorem d_L_law_889 : decode code 889 = .ok (.aload_n 0, 1) := by decide +kernel
theorem d_L_law_890 : decode code 890 = .ok (.iload_n 3, 1) := by decide +kernel
theorem d_L_law_891 : decode code 891 = .ok (.iconst 1, 1) := by decide +kernel
theorem d_L_law_892 : decode code 892 = .ok (.iadd, 1) := by decide +kernel
theorem d_L_law_893 : decode code 893 = .ok (.iaload, 1) := by decide +kernel
theorem d_L_law_894 : decode code 894 = .ok (.invokevirtual 92, 3) := by decide +kernel
theorem d_L_law_897 : decode code 897 = .ok (.aload_n 2, 1) := by decide +kernel
theorem d_L_law_898 : decode code 898 = .ok (.aload_n 0, 1) := by decide +kernel
theorem d_L_law_899 : decode code 899 = .ok (.iload_n 3, 1) := by decide +kernel
theorem d_L_law_900 : decode code 900 = .ok (.iconst 1, 1) := by decide +kernel
theorem d_L_law_901 : decode code 901 = .ok (.iadd, 1) := by decide +kernel
theorem d_L_law_902 : decode code 902 = .ok (.iaload, 1) := by decide +kernel
theorem d_L_law_903 : decode code 903 = .ok (.invokevirtual 95, 3) := by decide +kernel
theorem d_L_law_906 : decode code 906 = .ok (.if_icmp .eq 87, 3) := by decide +kernel
theorem d_L_law_909 : decode code 909 = .ok (.iconst 0, 1) := by decide +kernel
theorem d_L_law_910 : decode code 910 = .ok (.ireturn, 1) := by decide +kernel
theorem d_L_law_911 : decode code 911 = .ok (.aload_n 1, 1) := by decide +kernel
theorem d_L_law_912 : decode code 912 = .ok (.aload_n 0, 1) := by decide +kernel
theorem d_L_law_913 : decode code 913 = .ok (.iload_n 3, 1) := by decide +kernel
theorem d_L_law_914 : decode code 914 = .ok (.iconst 1, 1) := by decide +kernel
theorem d_L_law_915 : decode code 915 = .ok (.iadd, 1) := by decide +kernel
theorem d_L_law_916 : decode code 916 = .ok (.iaload, 1) := by decide +kernel
theorem d_L_law_917 : decode code 917 = .ok (.invokevirtual 96, 3) := by decide +kernel
theorem d_L_law_920 : decode code 920 = .ok (.aload_n 2, 1) := by decide +kernel
theorem d_L_law_921 : decode code 921 = .ok (.aload_n 0, 1) := by decide +kernel
theorem d_L_law_922 : decode code 922 = .ok (.iload_n 3, 1) := by decide +kernel
theorem d_L_law_923 : decode code 923 = .ok (.iconst 1, 1) := by decide +kernel
theorem d_L_law_924 : decode code 924 = .ok (.iadd, 1) := by decide +kernel
theorem d_L_law_925 : decode code 925 = .ok (.iaload, 1) := by decide +kernel
theorem d_L_law_926 : decode code 926 = .ok (.invokevirtual 99, 3) := by decide +kernel
theorem d_L_law_929 : decode code 929 = .ok (.if_icmp .eq 64, 3) := by decide +kernel
theorem d_L_law_932 : decode code 932 = .ok (.iconst 0, 1) := by decide +kernel
theorem d_L_law_933 : decode code 933 = .ok (.ireturn, 1) := by decide +kernel
theorem d_L_law_934 : decode code 934 = .ok (.aload_n 1, 1) := by decide +kernel
theorem d_L_law_935 : decode code 935 = .ok (.aload_n 0, 1) := by decide +kernel
theorem d_L_law_936 : decode code 936 = .ok (.iload_n 3, 1) := by decide +kernel
theorem d_L_law_937 : decode code 937 = .ok (.iconst 1, 1) := by decide +kernel
theorem d_L_law_938 : decode code 938 = .ok (.iadd, 1) := by decide +kernel
theorem d_L_law_939 : decode code 939 = .ok (.iaload, 1) := by decide +kernel
theorem d_L_law_940 : decode code 940 = .ok (.invokevirtual 100, 3) := by decide +kernel
theorem d_L_law_943 : decode code 943 = .ok (.aload_n 2, 1) := by decide +kernel
theorem d_L_law_944 : decode code 944 = .ok (.aload_n 0, 1) := by decide +kernel
theorem d_L_law_945 : decode code 945 = .ok (.iload_n 3, 1) := by decide +kernel
theorem d_L_law_946 : decode code 946 = .ok (.iconst 1, 1) := by decide +kernel
theorem d_L_law_947 : decode code 947 = .ok (.iadd, 1) := by decide +kernel
theorem d_L_law_948 : decode code 948 = .ok (.iaload, 1) := by decide +kernel
theorem d_L_law_949 : decode code 949 = .ok (.invokevirtual 103, 3) := by decide +kernel
theorem d_L_law_952 : decode code 952 = .ok (.if_icmp .eq 41, 3) := by decide +kernel
theorem d_L_law_955 : decode code 955 = .ok (.iconst 0, 1) := by decide +kernel
theorem d_L_law_956 : decode code 956 = .ok (.ireturn, 1) := by decide +kernel
theorem d_L_law_957 : decode code 957 = .ok (.aload_n 1, 1) := by decide +kernel
theorem d_L_law_958 : decode code 958 = .ok (.aload_n 0, 1) := by decide +kernel
theorem d_L_law_959 : decode code 959 = .ok (.iload_n 3, 1) := by decide +kernel
theorem d_L_law_960 : decode code 960 = .ok (.iconst 1, 1) := by decide +kernel
theorem d_L_law_961 : decode code 961 = .ok (.iadd, 1) := by decide +kernel
theorem d_L_law_962 : decode code 962 = .ok (.iaload, 1) := by decide +kernel
theorem d_L_law_963 : decode code 963 = .ok (.invokevirtual 104, 3) := by decide +kernel
theorem d_L_law_966 : decode code 966 = .ok (.aload_n 2, 1) := by decide +kernel
theorem d_L_law_967 : decode code 967 = .ok (.aload_n 0, 1) := by decide +kernel
theorem d_L_law_968 : decode code 968 = .ok (.iload_n 3, 1) := by decide +kernel
theorem d_L_law_969 : decode code 969 = .ok (.iconst 1, 1) := by decide +kernel
theorem d_L_law_970 : decode code 970 = .ok (.iadd, 1) := by decide +kernel
theorem d_L_law_971 : decode code 971 = .ok (.iaload, 1) := by decide +kernel
theorem d_L_law_972 : decode code 972 = .ok (.invokevirtual 107, 3) := by decide +kernel
theorem d_L_law_975 : decode code 975 = .ok (.if_icmp .eq 18, 3) := by decide +kernel
theorem d_L_law_978 : decode code 978 = .ok (.iconst 0, 1) := by decide +kernel
theorem d_L_law_979 : decode code 979 = .ok (.ireturn, 1) := by decide +kernel
theorem d_L_law_980 : decode code 980 = .ok (.aload_n 1, 1) := by decide +kernel
theorem d_L_law_981 : decode code 981 = .ok (.invokevirtual 108, 3) := by decide +kernel
theorem d_L_law_984 : decode code 984 = .ok (.aload_n 2, 1) := by decide +kernel
theorem d_L_law_985 : decode code 985 = .ok (.invokevirtual 112, 3) := by decide +kernel
theorem d_L_law_988 : decode code 988 = .ok (.if_icmp .eq 5, 3) := by decide +kernel
theorem d_L_law_991 : decode code 991 = .ok (.iconst 0, 1) := by decide +kernel
theorem d_L_law_992 : decode code 992 = .ok (.ireturn, 1) := by decide +kernel
theorem d_L_law_993 : decode code 993 = .ok (.iinc 3 6, 3) := by decide +kernel
theorem d_L_law_996 : decode code 996 = .ok (.goto (-978), 3) := by decide +kernel
theorem d_L_law_999 : decode code 999 = .ok (.iconst 1, 1) := by decide +kernel
theorem d_L_law_1000 : decode code 1000 = .ok (.ireturn, 1) := by decide +kernel
