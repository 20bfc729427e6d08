theorem dX11_init_83 : decode cX11_init 83 = .ok (.newarray .boolean, 2) := by decide +kernel
theorem dX11_init_85 : decode cX11_init 85 = .ok (.putfield 42, 3) := by decide +kernel
theorem dX11_init_88 : decode cX11_init 88 = .ok (.aload_n 0, 1) := by decide +kernel
theorem dX11_init_89 : decode cX11_init 89 = .ok (.sipush 6000, 3) := by decide +kernel
theorem dX11_init_92 : decode cX11_init 92 = .ok (.newarray .int, 2) := by decide +kernel
theorem dX11_init_94 : decode cX11_init 94 = .ok (.putfield 45, 3) := by decide +kernel
theorem dX11_init_97 : decode cX11_init 97 = .ok (.aload_n 0, 1) := by decide +kernel
theorem dX11_init_98 : decode cX11_init 98 = .ok (.sipush 6000, 3) := by decide +kernel
theorem dX11_init_101 : decode cX11_init 101 = .ok (.newarray .int, 2) := by decide +kernel
theorem dX11_init_103 : decode cX11_init 103 = .ok (.putfield 48, 3) := by decide +kernel
theorem dX11_init_106 : decode cX11_init 106 = .ok (.aload_n 0, 1) := by decide +kernel
theorem dX11_init_107 : decode cX11_init 107 = .ok (.sipush 6000, 3) := by decide +kernel
theorem dX11_init_110 : decode cX11_init 110 = .ok (.newarray .int, 2) := by decide +kernel
theorem dX11_init_112 : decode cX11_init 112 = .ok (.putfield 51, 3) := by decide +kernel
theorem dX11_init_115 : decode cX11_init 115 = .ok (.aload_n 0, 1) := by decide +kernel
theorem dX11_init_116 : decode cX11_init 116 = .ok (.sipush 6000, 3) := by decide +kernel
theorem dX11_init_119 : decode cX11_init 119 = .ok (.newarray .int, 2) := by decide +kernel
theorem dX11_init_121 : decode cX11_init 121 = .ok (.putfield 54, 3) := by decide +kernel
theorem dX11_init_124 : decode cX11_init 124 = .ok (.aload_n 0, 1) := by decide +kernel
theorem dX11_init_125 : decode cX11_init 125 = .ok (.sipush 6000, 3) := by decide +kernel
theorem dX11_init_128 : decode cX11_init 128 = .ok (.newarray .boolean, 2) := by decide +kernel
theorem dX11_init_130 : decode cX11_init 130 = .ok (.putfield 57, 3) := by decide +kernel
theorem dX11_init_133 : decode cX11_init 133 = .ok (.aload_n 0, 1) := by decide +kernel
theorem dX11_init_134 : decode cX11_init 134 = .ok (.ldc 60, 2) := by decide +kernel
theorem dX11_init_136 : decode cX11_init 136 = .ok (.newarray .boolean, 2) := by decide +kernel
theorem dX11_init_138 : decode cX11_init 138 = .ok (.putfield 61, 3) := by decide +kernel
theorem dX11_init_141 : decode cX11_init 141 = .ok (.aload_n 0, 1) := by decide +kernel
theorem dX11_init_142 : decode cX11_init 142 = .ok (.bipush 64, 2) := by decide +kernel
theorem dX11_init_144 : decode cX11_init 144 = .ok (.newarray .int, 2) := by decide +kernel
theorem dX11_init_146 : decode cX11_init 146 = .ok (.putfield 64, 3) := by decide +kernel
theorem dX11_init_149 : decode cX11_init 149 = .ok (.aload_n 0, 1) := by decide +kernel
theorem dX11_init_150 : decode cX11_init 150 = .ok (.iconst 4, 1) := by decide +kernel
theorem dX11_init_151 : decode cX11_init 151 = .ok (.newarray .boolean, 2) := by decide +kernel
theorem dX11_init_153 : decode cX11_init 153 = .ok (.putfield 67, 3) := by decide +kernel
theorem dX11_init_156 : decode cX11_init 156 = .ok (.aload_n 0, 1) := by decide +kernel
theorem dX11_init_157 : decode cX11_init 157 = .ok (.iconst 4, 1) := by decide +kernel
theorem dX11_init_158 : decode cX11_init 158 = .ok (.newarray .int, 2) := by decide +kernel
theorem dX11_init_160 : decode cX11_init 160 = .ok (.putfield 70, 3) := by decide +kernel
theorem dX11_init_163 : decode cX11_init 163 = .ok (.aload_n 0, 1) := by decide +kernel
theorem dX11_init_164 : decode cX11_init 164 = .ok (.iconst 4, 1) := by decide +kernel
theorem dX11_init_165 : decode cX11_init 165 = .ok (.newarray .int, 2) := by decide +kernel
theorem dX11_init_167 : decode cX11_init 167 = .ok (.putfield 73, 3) := by decide +kernel
theorem dX11_init_170 : decode cX11_init 170 = .ok (.aload_n 0, 1) := by decide +kernel
theorem dX11_init_171 : decode cX11_init 171 = .ok (.sipush 800, 3) := by decide +kernel
theorem dX11_init_174 : decode cX11_init 174 = .ok (.newarray .boolean, 2) := by decide +kernel
theorem dX11_init_176 : decode cX11_init 176 = .ok (.putfield 76, 3) := by decide +kernel
theorem dX11_init_179 : decode cX11_init 179 = .ok (.aload_n 0, 1) := by decide +kernel
theorem dX11_init_180 : decode cX11_init 180 = .ok (.iconst 4, 1) := by decide +kernel
theorem dX11_init_181 : decode cX11_init 181 = .ok (.newarray .int, 2) := by decide +kernel
theorem dX11_init_183 : decode cX11_init 183 = .ok (.putfield 79, 3) := by decide +kernel
theorem dX11_init_186 : decode cX11_init 186 = .ok (.aload_n 0, 1) := by decide +kernel
theorem dX11_init_187 : decode cX11_init 187 = .ok (.iconst 4, 1) := by decide +kernel
theorem dX11_init_188 : decode cX11_init 188 = .ok (.newarray .int, 2) := by decide +kernel
theorem dX11_init_190 : decode cX11_init 190 = .ok (.putfield 82, 3) := by decide +kernel
theorem dX11_init_193 : decode cX11_init 193 = .ok (.aload_n 0, 1) := by decide +kernel
theorem dX11_init_194 : decode cX11_init 194 = .ok (.iconst 4, 1) := by decide +kernel
theorem dX11_init_195 : decode cX11_init 195 = .ok (.newarray .int, 2) := by decide +kernel
theorem dX11_init_197 : decode cX11_init 197 = .ok (.putfield 85, 3) := by decide +kernel
theorem dX11_init_200 : decode cX11_init 200 = .ok (.aload_n 0, 1) := by decide +kernel
theorem dX11_init_201 : decode cX11_init 201 = .ok (.iconst 4, 1) := by decide +kernel
theorem dX11_init_202 : decode cX11_init 202 = .ok (.newarray .int, 2) := by decide +kernel
theorem dX11_init_204 : decode cX11_init 204 = .ok (.putfield 88, 3) := by decide +kernel
theorem dX11_init_207 : decode cX11_init 207 = .ok (.aload_n 0, 1) := by decide +kernel
theorem dX11_init_208 : decode cX11_init 208 = .ok (.iconst 4, 1) := by decide +kernel
theorem dX11_init_209 : decode cX11_init 209 = .ok (.newarray .boolean, 2) := by decide +kernel
theorem dX11_init_211 : decode cX11_init 211 = .ok (.putfield 91, 3) := by decide +kernel
theorem dX11_init_214 : decode cX11_init 214 = .ok (.aload_n 0, 1) := by decide +kernel
theorem dX11_init_215 : decode cX11_init 215 = .ok (.iconst 4, 1) := by decide +kernel
theorem dX11_init_216 : decode cX11_init 216 = .ok (.newarray .int, 2) := by decide +kernel
theorem dX11_init_218 : decode cX11_init 218 = .ok (.putfield 94, 3) := by decide +kernel
theorem dX11_init_221 : decode cX11_init 221 = .ok (.aload_n 0, 1) := by decide +kernel
theorem dX11_init_222 : decode cX11_init 222 = .ok (.iconst 4, 1) := by decide +kernel
theorem dX11_init_223 : decode cX11_init 223 = .ok (.newarray .int, 2) := by decide +kernel
theorem dX11_init_225 : decode cX11_init 225 = .ok (.putfield 97, 3) := by decide +kernel
theorem dX11_init_228 : decode cX11_init 228 = .ok (.aload_n 0, 1) := by decide +kernel
theorem dX11_init_229 : decode cX11_init 229 = .ok (.iconst 4, 1) := by decide +kernel
theorem dX11_init_230 : decode cX11_init 230 = .ok (.newarray .int, 2) := by decide +kernel
theorem dX11_init_232 : decode cX11_init 232 = .ok (.putfield 100, 3) := by decide +kernel
theorem dX11_init_235 : decode cX11_init 235 = .ok (.aload_n 0, 1) := by decide +kernel
theorem dX11_init_236 : decode cX11_init 236 = .ok (.iconst 4, 1) := by decide +kernel
theorem dX11_init_237 : decode cX11_init 237 = .ok (.newarray .int, 2) := by decide +kernel
theorem dX11_init_239 : decode cX11_init 239 = .ok (.putfield 103, 3) := by decide +kernel
theorem dX11_init_242 : decode cX11_init 242 = .ok (.aload_n 0, 1) := by decide +kernel
theorem dX11_init_243 : decode cX11_init 243 = .ok (.iconst 4, 1) := by decide +kernel
theorem dX11_init_244 : decode cX11_init 244 = .ok (.newarray .int, 2) := by decide +kernel
theorem dX11_init_246 : decode cX11_init 246 = .ok (.putfield 106, 3) := by decide +kernel
theorem dX11_init_249 : decode cX11_init 249 = .ok (.aload_n 0, 1) := by decide +kernel
theorem dX11_init_250 : decode cX11_init 250 = .ok (.iconst 4, 1) := by decide +kernel
theorem dX11_init_251 : decode cX11_init 251 = .ok (.newarray .int, 2) := by decide +kernel
theorem dX11_init_253 : decode cX11_init 253 = .ok (.putfield 109, 3) := by decide +kernel
theorem dX11_init_256 : decode cX11_init 256 = .ok (.aload_n 0, 1) := by decide +kernel
theorem dX11_init_257 : decode cX11_init 257 = .ok (.iconst 4, 1) := by decide +kernel
theorem dX11_init_258 : decode cX11_init 258 = .ok (.newarray .int, 2) := by decide +kernel
theorem dX11_init_260 : decode cX11_init 260 = .ok (.putfield 112, 3) := by decide +kernel
theorem dX11_init_263 : decode cX11_init 263 = .ok (.aload_n 0, 1) := by decide +kernel
theorem dX11_init_264 : decode cX11_init 264 = .ok (.iconst 4, 1) := by decide +kernel
theorem dX11_init_265 : decode cX11_init 265 = .ok (.newarray .int, 2) := by decide +kernel
theorem dX11_init_267 : decode cX11_init 267 = .ok (.putfield 115, 3) := by decide +kernel
theorem dX11_init_270 : decode cX11_init 270 = .ok (.aload_n 0, 1) := by decide +kernel
theorem dX11_init_271 : decode cX11_init 271 = .ok (.iconst 4, 1) := by decide +kernel
theorem dX11_init_272 : decode cX11_init 272 = .ok (.newarray .int, 2) := by decide +kernel
theorem dX11_init_274 : decode cX11_init 274 = .ok (.putfield 118, 3) := by decide +kernel
theorem dX11_init_277 : decode cX11_init 277 = .ok (.aload_n 0, 1) := by decide +kernel
theorem dX11_init_278 : decode cX11_init 278 = .ok (.iconst 4, 1) := by decide +kernel
theorem dX11_init_279 : decode cX11_init 279 = .ok (.newarray .int, 2) := by decide +kernel
theorem dX11_init_281 : decode cX11_init 281 = .ok (.putfield 121, 3) := by decide +kernel
theorem dX11_init_284 : decode cX11_init 284 = .ok (.aload_n 0, 1) := by decide +kernel
theorem dX11_init_285 : decode cX11_init 285 = .ok (.iconst 4, 1) := by decide +kernel
theorem dX11_init_286 : decode cX11_init 286 = .ok (.newarray .boolean, 2) := by decide +kernel
theorem dX11_init_288 : decode cX11_init 288 = .ok (.putfield 124, 3) := by decide +kernel
theorem dX11_init_291 : decode cX11_init 291 = .ok (.aload_n 0, 1) := by decide +kernel
theorem dX11_init_292 : decode cX11_init 292 = .ok (.iconst 4, 1) := by decide +kernel
theorem dX11_init_293 : decode cX11_init 293 = .ok (.newarray .int, 2) := by decide +kernel
theorem dX11_init_295 : decode cX11_init 295 = .ok (.putfield 127, 3) := by decide +kernel
theorem dX11_init_298 : decode cX11_init 298 = .ok (.aload_n 0, 1) := by decide +kernel
theorem dX11_init_299 : decode cX11_init 299 = .ok (.iconst 4, 1) := by decide +kernel
theorem dX11_init_300 : decode cX11_init 300 = .ok (.newarray .boolean, 2) := by decide +kernel
theorem dX11_init_302 : decode cX11_init 302 = .ok (.putfield 130, 3) := by decide +kernel
theorem dX11_init_305 : decode cX11_init 305 = .ok (.aload_n 0, 1) := by decide +kernel
theorem dX11_init_306 : decode cX11_init 306 = .ok (.iconst 4, 1) := by decide +kernel
theorem dX11_init_307 : decode cX11_init 307 = .ok (.newarray .int, 2) := by decide +kernel
theorem dX11_init_309 : decode cX11_init 309 = .ok (.putfield 133, 3) := by decide +kernel
theorem dX11_init_312 : decode cX11_init 312 = .ok (.aload_n 0, 1) := by decide +kernel
theorem dX11_init_313 : decode cX11_init 313 = .ok (.iconst 4, 1) := by decide +kernel
theorem dX11_init_314 : decode cX11_init 314 = .ok (.newarray .int, 2) := by decide +kernel
theorem dX11_init_316 : decode cX11_init 316 = .ok (.putfield 136, 3) := by decide +kernel
theorem dX11_init_319 : decode cX11_init 319 = .ok (.aload_n 0, 1) := by decide +kernel
theorem dX11_init_320 : decode cX11_init 320 = .ok (.iconst 4, 1) := by decide +kernel
theorem dX11_init_321 : decode cX11_init 321 = .ok (.newarray .int, 2) := by decide +kernel
theorem dX11_init_323 : decode cX11_init 323 = .ok (.putfield 139, 3) := by decide +kernel
theorem dX11_init_326 : decode cX11_init 326 = .ok (.aload_n 0, 1) := by decide +kernel
theorem dX11_init_327 : decode cX11_init 327 = .ok (.iconst 4, 1) := by decide +kernel
theorem dX11_init_328 : decode cX11_init 328 = .ok (.newarray .int, 2) := by decide +kernel
theorem dX11_init_330 : decode cX11_init 330 = .ok (.putfield 142, 3) := by decide +kernel
theorem dX11_init_333 : decode cX11_init 333 = .ok (.aload_n 0, 1) := by decide +kernel
theorem dX11_init_334 : decode cX11_init 334 = .ok (.iconst 4, 1) := by decide +kernel
theorem dX11_init_335 : decode cX11_init 335 = .ok (.newarray .int, 2) := by decide +kernel
theorem dX11_init_337 : decode cX11_init 337 = .ok (.putfield 145, 3) := by decide +kernel
theorem dX11_init_340 : decode cX11_init 340 = .ok (.aload_n 0, 1) := by decide +kernel
theorem dX11_init_341 : decode cX11_init 341 = .ok (.iconst 4, 1) := by decide +kernel
theorem dX11_init_342 : decode cX11_init 342 = .ok (.newarray .int, 2) := by decide +kernel
theorem dX11_init_344 : decode cX11_init 344 = .ok (.putfield 148, 3) := by decide +kernel
theorem dX11_init_347 : decode cX11_init 347 = .ok (.aload_n 0, 1) := by decide +kernel
theorem dX11_init_348 : decode cX11_init 348 = .ok (.iconst 4, 1) := by decide +kernel
theorem dX11_init_349 : decode cX11_init 349 = .ok (.newarray .int, 2) := by decide +kernel
theorem dX11_init_351 : decode cX11_init 351 = .ok (.putfield 151, 3) := by decide +kernel
theorem dX11_init_354 : decode cX11_init 354 = .ok (.aload_n 0, 1) := by decide +kernel
theorem dX11_init_355 : decode cX11_init 355 = .ok (.iconst 4, 1) := by decide +kernel
theorem dX11_init_356 : decode cX11_init 356 = .ok (.newarray .int, 2) := by decide +kernel
theorem dX11_init_358 : decode cX11_init 358 = .ok (.putfield 154, 3) := by decide +kernel
theorem dX11_init_361 : decode cX11_init 361 = .ok (.aload_n 0, 1) := by decide +kernel
theorem dX11_init_362 : decode cX11_init 362 = .ok (.iconst 4, 1) := by decide +kernel
theorem dX11_init_363 : decode cX11_init 363 = .ok (.newarray .int, 2) := by decide +kernel
theorem dX11_init_365 : decode cX11_init 365 = .ok (.putfield 157, 3) := by decide +kernel
theorem dX11_init_368 : decode cX11_init 368 = .ok (.aload_n 0, 1) := by decide +kernel
theorem dX11_init_369 : decode cX11_init 369 = .ok (.iconst 4, 1) := by decide +kernel
theorem dX11_init_370 : decode cX11_init 370 = .ok (.newarray .int, 2) := by decide +kernel
theorem dX11_init_372 : decode cX11_init 372 = .ok (.putfield 160, 3) := by decide +kernel
theorem dX11_init_375 : decode cX11_init 375 = .ok (.aload_n 0, 1) := by decide +kernel
theorem dX11_init_376 : decode cX11_init 376 = .ok (.iconst 4, 1) := by decide +kernel
theorem dX11_init_377 : decode cX11_init 377 = .ok (.newarray .int, 2) := by decide +kernel
theorem dX11_init_379 : decode cX11_init 379 = .ok (.putfield 163, 3) := by decide +kernel
theorem dX11_init_382 : decode cX11_init 382 = .ok (.aload_n 0, 1) := by decide +kernel
theorem dX11_init_383 : decode cX11_init 383 = .ok (.iconst 4, 1) := by decide +kernel
theorem dX11_init_384 : decode cX11_init 384 = .ok (.newarray .int, 2) := by decide +kernel
theorem dX11_init_386 : decode cX11_init 386 = .ok (.putfield 166, 3) := by decide +kernel
theorem dX11_init_389 : decode cX11_init 389 = .ok (.aload_n 0, 1) := by decide +kernel
theorem dX11_init_390 : decode cX11_init 390 = .ok (.iconst 4, 1) := by decide +kernel
theorem dX11_init_391 : decode cX11_init 391 = .ok (.newarray .int, 2) := by decide +kernel
theorem dX11_init_393 : decode cX11_init 393 = .ok (.putfield 169, 3) := by decide +kernel
theorem dX11_init_396 : decode cX11_init 396 = .ok (.aload_n 0, 1) := by decide +kernel
theorem dX11_init_397 : decode cX11_init 397 = .ok (.iconst 4, 1) := by decide +kernel
theorem dX11_init_398 : decode cX11_init 398 = .ok (.newarray .int, 2) := by decide +kernel
theorem dX11_init_400 : decode cX11_init 400 = .ok (.putfield 172, 3) := by decide +kernel
theorem dX11_init_403 : decode cX11_init 403 = .ok (.aload_n 0, 1) := by decide +kernel
theorem dX11_init_404 : decode cX11_init 404 = .ok (.iconst 4, 1) := by decide +kernel
theorem dX11_init_405 : decode cX11_init 405 = .ok (.newarray .int, 2) := by decide +kernel
theorem dX11_init_407 : decode cX11_init 407 = .ok (.putfield 175, 3) := by decide +kernel
theorem dX11_init_410 : decode cX11_init 410 = .ok (.aload_n 0, 1) := by decide +kernel
theorem dX11_init_411 : decode cX11_init 411 = .ok (.iconst 4, 1) := by decide +kernel
theorem dX11_init_412 : decode cX11_init 412 = .ok (.newarray .int, 2) := by decide +kernel
theorem dX11_init_414 : decode cX11_init 414 = .ok (.putfield 178, 3) := by decide +kernel
theorem dX11_init_417 : decode cX11_init 417 = .ok (.aload_n 0, 1) := by decide +kernel
theorem dX11_init_418 : decode cX11_init 418 = .ok (.sipush 800, 3) := by decide +kernel
theorem dX11_init_421 : decode cX11_init 421 = .ok (.newarray .boolean, 2) := by decide +kernel
theorem dX11_init_423 : decode cX11_init 423 = .ok (.putfield 181, 3) := by decide +kernel
theorem dX11_init_426 : decode cX11_init 426 = .ok (.aload_n 0, 1) := by decide +kernel
theorem dX11_init_427 : decode cX11_init 427 = .ok (.sipush 2048, 3) := by decide +kernel
theorem dX11_init_430 : decode cX11_init 430 = .ok (.newarray .boolean, 2) := by decide +kernel
theorem dX11_init_432 : decode cX11_init 432 = .ok (.putfield 184, 3) := by decide +kernel
theorem dX11_init_435 : decode cX11_init 435 = .ok (.return_, 1) := by decide +kernel
theorem dX11_in_0 : decode cX11_in 0 = .ok (.iload_n 0, 1) := by decide +kernel
theorem dX11_in_1 : decode cX11_in 1 = .ok (.iload_n 1, 1) := by decide +kernel
theorem dX11_in_2 : decode cX11_in 2 = .ok (.if_icmp .lt 12, 3) := by decide +kernel
theorem dX11_in_5 : decode cX11_in 5 = .ok (.iload_n 0, 1) := by decide +kernel
theorem dX11_in_6 : decode cX11_in 6 = .ok (.iload_n 2, 1) := by decide +kernel
theorem dX11_in_7 : decode cX11_in 7 = .ok (.if_icmp .gt 7, 3) := by decide +kernel
theorem dX11_in_10 : decode cX11_in 10 = .ok (.iconst 1, 1) := by decide +kernel
theorem dX11_in_11 : decode cX11_in 11 = .ok (.goto 4, 3) := by decide +kernel
theorem dX11_in_14 : decode cX11_in 14 = .ok (.iconst 0, 1) := by decide +kernel
theorem dX11_in_15 : decode cX11_in 15 = .ok (.ireturn, 1) := by decide +kernel
set_option maxRecDepth 20000 in
theorem ggX11_link_X11_in : GoodIn wsX11_link wsX11_in := goodIn_r _ [8] (by decide +kernel) (by decide +kernel)
set_option maxRecDepth 20000 in
theorem gX11_link_X11_in : GoodIn wsX11_link (va_wsS RX11 187 yX11_in wsX11_in) := goodIn_app (goodIn_of _ (by decide +kernel)) ggX11_link_X11_in
theorem dX11_link_0 : decode cX11_link 0 = .ok (.iload_n 1, 1) := by decide +kernel
theorem dX11_link_1 : decode cX11_link 1 = .ok (.iconst 1, 1) := by decide +kernel
theorem dX11_link_2 : decode cX11_link 2 = .ok (.bipush 100, 2) := by decide +kernel
theorem dX11_link_4 : decode cX11_link 4 = .ok (.invokestatic 187, 3) := by decide +kernel
theorem dX11_link_7 : decode cX11_link 7 = .ok (.ifCond .eq 36, 3) := by decide +kernel
theorem dX11_link_10 : decode cX11_link 10 = .ok (.iload_n 2, 1) := by decide +kernel
theorem dX11_link_11 : decode cX11_link 11 = .ok (.iconst 0, 1) := by decide +kernel
theorem dX11_link_12 : decode cX11_link 12 = .ok (.bipush 100, 2) := by decide +kernel
theorem dX11_link_14 : decode cX11_link 14 = .ok (.invokestatic 187, 3) := by decide +kernel
theorem dX11_link_17 : decode cX11_link 17 = .ok (.ifCond .eq 26, 3) := by decide +kernel
theorem dX11_link_20 : decode cX11_link 20 = .ok (.iload_n 3, 1) := by decide +kernel
theorem dX11_link_21 : decode cX11_link 21 = .ok (.iconst 1, 1) := by decide +kernel
theorem dX11_link_22 : decode cX11_link 22 = .ok (.sipush 1000, 3) := by decide +kernel
theorem dX11_link_25 : decode cX11_link 25 = .ok (.invokestatic 187, 3) := by decide +kernel
theorem dX11_link_28 : decode cX11_link 28 = .ok (.ifCond .eq 15, 3) := by decide +kernel
theorem dX11_link_31 : decode cX11_link 31 = .ok (.iload 4, 2) := by decide +kernel
theorem dX11_link_33 : decode cX11_link 33 = .ok (.iconst 1, 1) := by decide +kernel
theorem dX11_link_34 : decode cX11_link 34 = .ok (.sipush 1000, 3) := by decide +kernel
theorem dX11_link_37 : decode cX11_link 37 = .ok (.invokestatic 187, 3) := by decide +kernel
theorem dX11_link_40 : decode cX11_link 40 = .ok (.ifCond .ne 5, 3) := by decide +kernel
theorem dX11_link_43 : decode cX11_link 43 = .ok (.iconst 0, 1) := by decide +kernel
theorem dX11_link_44 : decode cX11_link 44 = .ok (.ireturn, 1) := by decide +kernel
theorem dX11_link_45 : decode cX11_link 45 = .ok (.aload_n 0, 1) := by decide +kernel
theorem dX11_link_46 : decode cX11_link 46 = .ok (.iload_n 1, 1) := by decide +kernel
theorem dX11_link_47 : decode cX11_link 47 = .ok (.putfield 7, 3) := by decide +kernel
theorem dX11_link_50 : decode cX11_link 50 = .ok (.aload_n 0, 1) := by decide +kernel
theorem dX11_link_51 : decode cX11_link 51 = .ok (.iload_n 2, 1) := by decide +kernel
theorem dX11_link_52 : decode cX11_link 52 = .ok (.putfield 13, 3) := by decide +kernel
theorem dX11_link_55 : decode cX11_link 55 = .ok (.aload_n 0, 1) := by decide +kernel
theorem dX11_link_56 : decode cX11_link 56 = .ok (.iload_n 3, 1) := by decide +kernel
theorem dX11_link_57 : decode cX11_link 57 = .ok (.putfield 16, 3) := by decide +kernel
theorem dX11_link_60 : decode cX11_link 60 = .ok (.aload_n 0, 1) := by decide +kernel
theorem dX11_link_61 : decode cX11_link 61 = .ok (.iload 4, 2) := by decide +kernel
theorem dX11_link_63 : decode cX11_link 63 = .ok (.putfield 19, 3) := by decide +kernel
theorem dX11_link_66 : decode cX11_link 66 = .ok (.iconst 1, 1) := by decide +kernel
theorem dX11_link_67 : decode cX11_link 67 = .ok (.ireturn, 1) := by decide +kernel
set_option maxRecDepth 20000 in
theorem ggX11_flow_X11_in : GoodIn wsX11_flow wsX11_in := goodIn_r _ [19] (by decide +kernel) (by decide +kernel)
set_option maxRecDepth 20000 in
theorem gX11_flow_X11_in : GoodIn wsX11_flow (va_wsS RX11 187 yX11_in wsX11_in) := goodIn_app (goodIn_of _ (by decide +kernel)) ggX11_flow_X11_in
theorem dX11_flow_0 : decode cX11_flow 0 = .ok (.aload_n 0, 1) := by decide +kernel
theorem dX11_flow_1 : decode cX11_flow 1 = .ok (.getfield 191, 3) := by decide +kernel
theorem dX11_flow_4 : decode cX11_flow 4 = .ok (.iconst 4, 1) := by decide +kernel
theorem dX11_flow_5 : decode cX11_flow 5 = .ok (.if_icmp .eq 12, 3) := by decide +kernel
theorem dX11_flow_8 : decode cX11_flow 8 = .ok (.iload_n 1, 1) := by decide +kernel
theorem dX11_flow_9 : decode cX11_flow 9 = .ok (.iconst 0, 1) := by decide +kernel
theorem dX11_flow_10 : decode cX11_flow 10 = .ok (.iconst 3, 1) := by decide +kernel
theorem dX11_flow_11 : decode cX11_flow 11 = .ok (.invokestatic 187, 3) := by decide +kernel
theorem dX11_flow_14 : decode cX11_flow 14 = .ok (.ifCond .ne 5, 3) := by decide +kernel
theorem dX11_flow_17 : decode cX11_flow 17 = .ok (.iconst (-1), 1) := by decide +kernel
theorem dX11_flow_18 : decode cX11_flow 18 = .ok (.ireturn, 1) := by decide +kernel
theorem dX11_flow_19 : decode cX11_flow 19 = .ok (.aload_n 0, 1) := by decide +kernel
theorem dX11_flow_20 : decode cX11_flow 20 = .ok (.getfield 191, 3) := by decide +kernel
theorem dX11_flow_23 : decode cX11_flow 23 = .ok (.istore_n 3, 1) := by decide +kernel
theorem dX11_flow_24 : decode cX11_flow 24 = .ok (.aload_n 0, 1) := by decide +kernel
theorem dX11_flow_25 : decode cX11_flow 25 = .ok (.dup, 1) := by decide +kernel
theorem dX11_flow_26 : decode cX11_flow 26 = .ok (.getfield 191, 3) := by decide +kernel
theorem dX11_flow_29 : decode cX11_flow 29 = .ok (.iconst 1, 1) := by decide +kernel
theorem dX11_flow_30 : decode cX11_flow 30 = .ok (.iadd, 1) := by decide +kernel
theorem dX11_flow_31 : decode cX11_flow 31 = .ok (.putfield 191, 3) := by decide +kernel
theorem dX11_flow_34 : decode cX11_flow 34 = .ok (.aload_n 0, 1) := by decide +kernel
theorem dX11_flow_35 : decode cX11_flow 35 = .ok (.getfield 67, 3) := by decide +kernel
theorem dX11_flow_38 : decode cX11_flow 38 = .ok (.iload_n 3, 1) := by decide +kernel
theorem dX11_flow_39 : decode cX11_flow 39 = .ok (.iload_n 2, 1) := by decide +kernel
theorem dX11_flow_40 : decode cX11_flow 40 = .ok (.bastore, 1) := by decide +kernel
theorem dX11_flow_41 : decode cX11_flow 41 = .ok (.aload_n 0, 1) := by decide +kernel
theorem dX11_flow_42 : decode cX11_flow 42 = .ok (.getfield 73, 3) := by decide +kernel
theorem dX11_flow_45 : decode cX11_flow 45 = .ok (.iload_n 3, 1) := by decide +kernel
theorem dX11_flow_46 : decode cX11_flow 46 = .ok (.bipush 40, 2) := by decide +kernel
theorem dX11_flow_48 : decode cX11_flow 48 = .ok (.iastore, 1) := by decide +kernel
theorem dX11_flow_49 : decode cX11_flow 49 = .ok (.aload_n 0, 1) := by decide +kernel
theorem dX11_flow_50 : decode cX11_flow 50 = .ok (.getfield 88, 3) := by decide +kernel
theorem dX11_flow_53 : decode cX11_flow 53 = .ok (.iload_n 3, 1) := by decide +kernel
theorem dX11_flow_54 : decode cX11_flow 54 = .ok (.iconst (-1), 1) := by decide +kernel
theorem dX11_flow_55 : decode cX11_flow 55 = .ok (.iastore, 1) := by decide +kernel
theorem dX11_flow_56 : decode cX11_flow 56 = .ok (.aload_n 0, 1) := by decide +kernel
theorem dX11_flow_57 : decode cX11_flow 57 = .ok (.getfield 94, 3) := by decide +kernel
theorem dX11_flow_60 : decode cX11_flow 60 = .ok (.iload_n 3, 1) := by decide +kernel
theorem dX11_flow_61 : decode cX11_flow 61 = .ok (.iload_n 1, 1) := by decide +kernel
theorem dX11_flow_62 : decode cX11_flow 62 = .ok (.iastore, 1) := by decide +kernel
theorem dX11_flow_63 : decode cX11_flow 63 = .ok (.aload_n 0, 1) := by decide +kernel
theorem dX11_flow_64 : decode cX11_flow 64 = .ok (.getfield 109, 3) := by decide +kernel
theorem dX11_flow_67 : decode cX11_flow 67 = .ok (.iload_n 3, 1) := by decide +kernel
theorem dX11_flow_68 : decode cX11_flow 68 = .ok (.sipush 2048, 3) := by decide +kernel
theorem dX11_flow_71 : decode cX11_flow 71 = .ok (.iastore, 1) := by decide +kernel
theorem dX11_flow_72 : decode cX11_flow 72 = .ok (.aload_n 0, 1) := by decide +kernel
theorem dX11_flow_73 : decode cX11_flow 73 = .ok (.getfield 172, 3) := by decide +kernel
theorem dX11_flow_76 : decode cX11_flow 76 = .ok (.iload_n 3, 1) := by decide +kernel
theorem dX11_flow_77 : decode cX11_flow 77 = .ok (.sipush 2048, 3) := by decide +kernel
theorem dX11_flow_80 : decode cX11_flow 80 = .ok (.iastore, 1) := by decide +kernel
theorem dX11_flow_81 : decode cX11_flow 81 = .ok (.aload_n 0, 1) := by decide +kernel
theorem dX11_flow_82 : decode cX11_flow 82 = .ok (.getfield 112, 3) := by decide +kernel
theorem dX11_flow_85 : decode cX11_flow 85 = .ok (.iload_n 3, 1) := by decide +kernel
theorem dX11_flow_86 : decode cX11_flow 86 = .ok (.ldc 194, 2) := by decide +kernel
theorem dX11_flow_88 : decode cX11_flow 88 = .ok (.iastore, 1) := by decide +kernel
theorem dX11_flow_89 : decode cX11_flow 89 = .ok (.aload_n 0, 1) := by decide +kernel
theorem dX11_flow_90 : decode cX11_flow 90 = .ok (.getfield 115, 3) := by decide +kernel
theorem dX11_flow_93 : decode cX11_flow 93 = .ok (.iload_n 3, 1) := by decide +kernel
theorem dX11_flow_94 : decode cX11_flow 94 = .ok (.sipush 1000, 3) := by decide +kernel
theorem dX11_flow_97 : decode cX11_flow 97 = .ok (.iastore, 1) := by decide +kernel
theorem dX11_flow_98 : decode cX11_flow 98 = .ok (.aload_n 0, 1) := by decide +kernel
theorem dX11_flow_99 : decode cX11_flow 99 = .ok (.getfield 148, 3) := by decide +kernel
theorem dX11_flow_102 : decode cX11_flow 102 = .ok (.iload_n 3, 1) := by decide +kernel
theorem dX11_flow_103 : decode cX11_flow 103 = .ok (.bipush 40, 2) := by decide +kernel
theorem dX11_flow_105 : decode cX11_flow 105 = .ok (.iastore, 1) := by decide +kernel
theorem dX11_flow_106 : decode cX11_flow 106 = .ok (.aload_n 0, 1) := by decide +kernel
theorem dX11_flow_107 : decode cX11_flow 107 = .ok (.getfield 151, 3) := by decide +kernel
theorem dX11_flow_110 : decode cX11_flow 110 = .ok (.iload_n 3, 1) := by decide +kernel
theorem dX11_flow_111 : decode cX11_flow 111 = .ok (.iconst (-1), 1) := by decide +kernel
theorem dX11_flow_112 : decode cX11_flow 112 = .ok (.iastore, 1) := by decide +kernel
theorem dX11_flow_113 : decode cX11_flow 113 = .ok (.aload_n 0, 1) := by decide +kernel
theorem dX11_flow_114 : decode cX11_flow 114 = .ok (.getfield 169, 3) := by decide +kernel
theorem dX11_flow_117 : decode cX11_flow 117 = .ok (.iload_n 3, 1) := by decide +kernel
theorem dX11_flow_118 : decode cX11_flow 118 = .ok (.iconst (-1), 1) := by decide +kernel
theorem dX11_flow_119 : decode cX11_flow 119 = .ok (.iastore, 1) := by decide +kernel
theorem dX11_flow_120 : decode cX11_flow 120 = .ok (.aload_n 0, 1) := by decide +kernel
theorem dX11_flow_121 : decode cX11_flow 121 = .ok (.getfield 175, 3) := by decide +kernel
theorem dX11_flow_124 : decode cX11_flow 124 = .ok (.iload_n 3, 1) := by decide +kernel
theorem dX11_flow_125 : decode cX11_flow 125 = .ok (.iconst (-1), 1) := by decide +kernel
theorem dX11_flow_126 : decode cX11_flow 126 = .ok (.iastore, 1) := by decide +kernel
theorem dX11_flow_127 : decode cX11_flow 127 = .ok (.aload_n 0, 1) := by decide +kernel
theorem dX11_flow_128 : decode cX11_flow 128 = .ok (.getfield 136, 3) := by decide +kernel
theorem dX11_flow_131 : decode cX11_flow 131 = .ok (.iload_n 3, 1) := by decide +kernel
theorem dX11_flow_132 : decode cX11_flow 132 = .ok (.iconst (-1), 1) := by decide +kernel
theorem dX11_flow_133 : decode cX11_flow 133 = .ok (.iastore, 1) := by decide +kernel
theorem dX11_flow_134 : decode cX11_flow 134 = .ok (.iload_n 3, 1) := by decide +kernel
theorem dX11_flow_135 : decode cX11_flow 135 = .ok (.ireturn, 1) := by decide +kernel
theorem dX11_isFlow_0 : decode cX11_isFlow 0 = .ok (.iload_n 1, 1) := by decide +kernel
theorem dX11_isFlow_1 : decode cX11_isFlow 1 = .ok (.ifCond .lt 15, 3) := by decide +kernel
theorem dX11_isFlow_4 : decode cX11_isFlow 4 = .ok (.iload_n 1, 1) := by decide +kernel
theorem dX11_isFlow_5 : decode cX11_isFlow 5 = .ok (.aload_n 0, 1) := by decide +kernel
theorem dX11_isFlow_6 : decode cX11_isFlow 6 = .ok (.getfield 191, 3) := by decide +kernel
theorem dX11_isFlow_9 : decode cX11_isFlow 9 = .ok (.if_icmp .ge 7, 3) := by decide +kernel
theorem dX11_isFlow_12 : decode cX11_isFlow 12 = .ok (.iconst 1, 1) := by decide +kernel
theorem dX11_isFlow_13 : decode cX11_isFlow 13 = .ok (.goto 4, 3) := by decide +kernel
theorem dX11_isFlow_16 : decode cX11_isFlow 16 = .ok (.iconst 0, 1) := by decide +kernel
theorem dX11_isFlow_17 : decode cX11_isFlow 17 = .ok (.ireturn, 1) := by decide +kernel
set_option maxRecDepth 20000 in
theorem ggX11_send_X11_isFlow : GoodIn wsX11_send wsX11_isFlow := goodIn_r _ [8, 9, 13, 14, 15, 16, 17, 18, 19, 20, 21, 22, 23, 24, 25, 26, 27, 28, 29, 30, 31, 32, 33, 34, 35, 36, 37, 38, 39, 40, 41, 42, 43, 44, 45, 46, 47, 48, 49, 50, 51, 52, 53, 54, 55, 56, 57, 58, 59, 60, 61, 62, 63, 64, 65, 66, 67, 68, 69, 70, 71, 72, 73, 74, 75, 76, 77, 78, 79, 80, 81, 82, 83, 84, 85, 86] (by decide +kernel) (by decide +kernel)
set_option maxRecDepth 20000 in
theorem gX11_send_X11_isFlow : GoodIn wsX11_send (wsV RX11 195 RX11 yX11_isFlow wsX11_isFlow) := goodIn_app (goodIn_of _ (by decide +kernel)) ggX11_send_X11_isFlow
set_option maxRecDepth 20000 in
theorem ggX11_send_X11_in : GoodIn wsX11_send wsX11_in := goodIn_r _ [12] (by decide +kernel) (by decide +kernel)
set_option maxRecDepth 20000 in
theorem gX11_send_X11_in : GoodIn wsX11_send (va_wsS RX11 187 yX11_in wsX11_in) := goodIn_app (goodIn_of _ (by decide +kernel)) ggX11_send_X11_in
theorem dX11_send_0 : decode cX11_send 0 = .ok (.aload_n 0, 1) := by decide +kernel
theorem dX11_send_1 : decode cX11_send 1 = .ok (.iload_n 1, 1) := by decide +kernel
theorem dX11_send_2 : decode cX11_send 2 = .ok (.invokevirtual 195, 3) := by decide +kernel
theorem dX11_send_5 : decode cX11_send 5 = .ok (.ifCond .eq 26, 3) := by decide +kernel
theorem dX11_send_8 : decode cX11_send 8 = .ok (.iload_n 2, 1) := by decide +kernel
theorem dX11_send_9 : decode cX11_send 9 = .ok (.iconst 1, 1) := by decide +kernel
theorem dX11_send_10 : decode cX11_send 10 = .ok (.ldc 199, 2) := by decide +kernel
theorem dX11_send_12 : decode cX11_send 12 = .ok (.invokestatic 187, 3) := by decide +kernel
theorem dX11_send_15 : decode cX11_send 15 = .ok (.ifCond .eq 16, 3) := by decide +kernel
theorem dX11_send_18 : decode cX11_send 18 = .ok (.aload_n 0, 1) := by decide +kernel
theorem dX11_send_19 : decode cX11_send 19 = .ok (.getfield 97, 3) := by decide +kernel
theorem dX11_send_22 : decode cX11_send 22 = .ok (.iload_n 1, 1) := by decide +kernel
theorem dX11_send_23 : decode cX11_send 23 = .ok (.iaload, 1) := by decide +kernel
theorem dX11_send_24 : decode cX11_send 24 = .ok (.iload_n 2, 1) := by decide +kernel
theorem dX11_send_25 : decode cX11_send 25 = .ok (.iadd, 1) := by decide +kernel
theorem dX11_send_26 : decode cX11_send 26 = .ok (.ldc 200, 2) := by decide +kernel
theorem dX11_send_28 : decode cX11_send 28 = .ok (.if_icmp .le 5, 3) := by decide +kernel
theorem dX11_send_31 : decode cX11_send 31 = .ok (.iconst (-1), 1) := by decide +kernel
theorem dX11_send_32 : decode cX11_send 32 = .ok (.ireturn, 1) := by decide +kernel
theorem dX11_send_33 : decode cX11_send 33 = .ok (.aload_n 0, 1) := by decide +kernel
theorem dX11_send_34 : decode cX11_send 34 = .ok (.getfield 97, 3) := by decide +kernel
theorem dX11_send_37 : decode cX11_send 37 = .ok (.iload_n 1, 1) := by decide +kernel
theorem dX11_send_38 : decode cX11_send 38 = .ok (.dup2, 1) := by decide +kernel
theorem dX11_send_39 : decode cX11_send 39 = .ok (.iaload, 1) := by decide +kernel
theorem dX11_send_40 : decode cX11_send 40 = .ok (.iload_n 2, 1) := by decide +kernel
theorem dX11_send_41 : decode cX11_send 41 = .ok (.iadd, 1) := by decide +kernel
theorem dX11_send_42 : decode cX11_send 42 = .ok (.iastore, 1) := by decide +kernel
theorem dX11_send_43 : decode cX11_send 43 = .ok (.aload_n 0, 1) := by decide +kernel
theorem dX11_send_44 : decode cX11_send 44 = .ok (.getfield 97, 3) := by decide +kernel
theorem dX11_send_47 : decode cX11_send 47 = .ok (.iload_n 1, 1) := by decide +kernel
theorem dX11_send_48 : decode cX11_send 48 = .ok (.iaload, 1) := by decide +kernel
theorem dX11_send_49 : decode cX11_send 49 = .ok (.ireturn, 1) := by decide +kernel
set_option maxRecDepth 20000 in
theorem ggX11_window_X11_isFlow : GoodIn wsX11_window wsX11_isFlow := goodIn_r _ [7, 8, 12, 13, 14, 15, 16, 17, 18, 19, 20, 21, 22, 23, 24, 25, 26, 27, 28, 29, 30, 31, 32, 33, 34, 35, 36, 37, 38, 39, 40, 41, 42, 43, 44, 45, 46, 47, 48, 49, 50, 51, 52, 53, 54, 55, 56, 57, 58, 59, 60, 61, 62, 63, 64, 65, 66, 67, 68, 69, 70, 71, 72, 73, 74, 75, 76, 77, 78, 79, 80, 81, 82, 83, 84, 85] (by decide +kernel) (by decide +kernel)
set_option maxRecDepth 20000 in
theorem gX11_window_X11_isFlow : GoodIn wsX11_window (wsV RX11 195 RX11 yX11_isFlow wsX11_isFlow) := goodIn_app (goodIn_of _ (by decide +kernel)) ggX11_window_X11_isFlow
set_option maxRecDepth 20000 in
theorem ggX11_window_X11_in : GoodIn wsX11_window wsX11_in := goodIn_r _ [11] (by decide +kernel) (by decide +kernel)
set_option maxRecDepth 20000 in
theorem gX11_window_X11_in : GoodIn wsX11_window (va_wsS RX11 187 yX11_in wsX11_in) := goodIn_app (goodIn_of _ (by decide +kernel)) ggX11_window_X11_in
theorem dX11_window_0 : decode cX11_window 0 = .ok (.aload_n 0, 1) := by decide +kernel
theorem dX11_window_1 : decode cX11_window 1 = .ok (.iload_n 1, 1) := by decide +kernel
theorem dX11_window_2 : decode cX11_window 2 = .ok (.invokevirtual 195, 3) := by decide +kernel
theorem dX11_window_5 : decode cX11_window 5 = .ok (.ifCond .eq 14, 3) := by decide +kernel
theorem dX11_window_8 : decode cX11_window 8 = .ok (.iload_n 2, 1) := by decide +kernel
theorem dX11_window_9 : decode cX11_window 9 = .ok (.iconst 0, 1) := by decide +kernel
theorem dX11_window_10 : decode cX11_window 10 = .ok (.sipush 200, 3) := by decide +kernel
theorem dX11_window_13 : decode cX11_window 13 = .ok (.invokestatic 187, 3) := by decide +kernel
theorem dX11_window_16 : decode cX11_window 16 = .ok (.ifCond .ne 5, 3) := by decide +kernel
theorem dX11_window_19 : decode cX11_window 19 = .ok (.iconst (-1), 1) := by decide +kernel
theorem dX11_window_20 : decode cX11_window 20 = .ok (.ireturn, 1) := by decide +kernel
theorem dX11_window_21 : decode cX11_window 21 = .ok (.aload_n 0, 1) := by decide +kernel
theorem dX11_window_22 : decode cX11_window 22 = .ok (.getfield 73, 3) := by decide +kernel
theorem dX11_window_25 : decode cX11_window 25 = .ok (.iload_n 1, 1) := by decide +kernel
theorem dX11_window_26 : decode cX11_window 26 = .ok (.iaload, 1) := by decide +kernel
theorem dX11_window_27 : decode cX11_window 27 = .ok (.istore_n 3, 1) := by decide +kernel
theorem dX11_window_28 : decode cX11_window 28 = .ok (.aload_n 0, 1) := by decide +kernel
theorem dX11_window_29 : decode cX11_window 29 = .ok (.getfield 73, 3) := by decide +kernel
theorem dX11_window_32 : decode cX11_window 32 = .ok (.iload_n 1, 1) := by decide +kernel
theorem dX11_window_33 : decode cX11_window 33 = .ok (.iload_n 2, 1) := by decide +kernel
theorem dX11_window_34 : decode cX11_window 34 = .ok (.iastore, 1) := by decide +kernel
theorem dX11_window_35 : decode cX11_window 35 = .ok (.aload_n 0, 1) := by decide +kernel
theorem dX11_window_36 : decode cX11_window 36 = .ok (.getfield 91, 3) := by decide +kernel
theorem dX11_window_39 : decode cX11_window 39 = .ok (.iload_n 1, 1) := by decide +kernel
theorem dX11_window_40 : decode cX11_window 40 = .ok (.aload_n 0, 1) := by decide +kernel
theorem dX11_window_41 : decode cX11_window 41 = .ok (.getfield 91, 3) := by decide +kernel
theorem dX11_window_44 : decode cX11_window 44 = .ok (.iload_n 1, 1) := by decide +kernel
theorem dX11_window_45 : decode cX11_window 45 = .ok (.baload, 1) := by decide +kernel
theorem dX11_window_46 : decode cX11_window 46 = .ok (.ifCond .ne 8, 3) := by decide +kernel
theorem dX11_window_49 : decode cX11_window 49 = .ok (.iload_n 3, 1) := by decide +kernel
theorem dX11_window_50 : decode cX11_window 50 = .ok (.iload_n 2, 1) := by decide +kernel
theorem dX11_window_51 : decode cX11_window 51 = .ok (.if_icmp .eq 7, 3) := by decide +kernel
theorem dX11_window_54 : decode cX11_window 54 = .ok (.iconst 1, 1) := by decide +kernel
theorem dX11_window_55 : decode cX11_window 55 = .ok (.goto 4, 3) := by decide +kernel
theorem dX11_window_58 : decode cX11_window 58 = .ok (.iconst 0, 1) := by decide +kernel
theorem dX11_window_59 : decode cX11_window 59 = .ok (.bastore, 1) := by decide +kernel
theorem dX11_window_60 : decode cX11_window 60 = .ok (.iload_n 3, 1) := by decide +kernel
theorem dX11_window_61 : decode cX11_window 61 = .ok (.ireturn, 1) := by decide +kernel
theorem dX11_lose_0 : decode cX11_lose 0 = .ok (.iload_n 1, 1) := by decide +kernel
theorem dX11_lose_1 : decode cX11_lose 1 = .ok (.aload_n 0, 1) := by decide +kernel
theorem dX11_lose_2 : decode cX11_lose 2 = .ok (.getfield 201, 3) := by decide +kernel
theorem dX11_lose_5 : decode cX11_lose 5 = .ok (.if_icmp .ge 5, 3) := by decide +kernel
theorem dX11_lose_8 : decode cX11_lose 8 = .ok (.iconst 0, 1) := by decide +kernel
theorem dX11_lose_9 : decode cX11_lose 9 = .ok (.ireturn, 1) := by decide +kernel
theorem dX11_lose_10 : decode cX11_lose 10 = .ok (.iconst 0, 1) := by decide +kernel
theorem dX11_lose_11 : decode cX11_lose 11 = .ok (.istore_n 2, 1) := by decide +kernel
theorem dX11_lose_12 : decode cX11_lose 12 = .ok (.iload_n 2, 1) := by decide +kernel
theorem dX11_lose_13 : decode cX11_lose 13 = .ok (.aload_n 0, 1) := by decide +kernel
theorem dX11_lose_14 : decode cX11_lose 14 = .ok (.getfield 204, 3) := by decide +kernel
theorem dX11_lose_17 : decode cX11_lose 17 = .ok (.if_icmp .ge 21, 3) := by decide +kernel
theorem dX11_lose_20 : decode cX11_lose 20 = .ok (.aload_n 0, 1) := by decide +kernel
theorem dX11_lose_21 : decode cX11_lose 21 = .ok (.getfield 64, 3) := by decide +kernel
theorem dX11_lose_24 : decode cX11_lose 24 = .ok (.iload_n 2, 1) := by decide +kernel
theorem dX11_lose_25 : decode cX11_lose 25 = .ok (.iaload, 1) := by decide +kernel
theorem dX11_lose_26 : decode cX11_lose 26 = .ok (.iload_n 1, 1) := by decide +kernel
theorem dX11_lose_27 : decode cX11_lose 27 = .ok (.if_icmp .ne 5, 3) := by decide +kernel
theorem dX11_lose_30 : decode cX11_lose 30 = .ok (.iconst 1, 1) := by decide +kernel
theorem dX11_lose_31 : decode cX11_lose 31 = .ok (.ireturn, 1) := by decide +kernel
theorem dX11_lose_32 : decode cX11_lose 32 = .ok (.iinc 2 1, 3) := by decide +kernel
theorem dX11_lose_35 : decode cX11_lose 35 = .ok (.goto (-23), 3) := by decide +kernel
theorem dX11_lose_38 : decode cX11_lose 38 = .ok (.aload_n 0, 1) := by decide +kernel
theorem dX11_lose_39 : decode cX11_lose 39 = .ok (.getfield 204, 3) := by decide +kernel
theorem dX11_lose_42 : decode cX11_lose 42 = .ok (.bipush 64, 2) := by decide +kernel
theorem dX11_lose_44 : decode cX11_lose 44 = .ok (.if_icmp .ne 5, 3) := by decide +kernel
theorem dX11_lose_47 : decode cX11_lose 47 = .ok (.iconst 0, 1) := by decide +kernel
theorem dX11_lose_48 : decode cX11_lose 48 = .ok (.ireturn, 1) := by decide +kernel
theorem dX11_lose_49 : decode cX11_lose 49 = .ok (.aload_n 0, 1) := by decide +kernel
theorem dX11_lose_50 : decode cX11_lose 50 = .ok (.getfield 64, 3) := by decide +kernel
theorem dX11_lose_53 : decode cX11_lose 53 = .ok (.aload_n 0, 1) := by decide +kernel
theorem dX11_lose_54 : decode cX11_lose 54 = .ok (.getfield 204, 3) := by decide +kernel
theorem dX11_lose_57 : decode cX11_lose 57 = .ok (.iload_n 1, 1) := by decide +kernel
theorem dX11_lose_58 : decode cX11_lose 58 = .ok (.iastore, 1) := by decide +kernel
theorem dX11_lose_59 : decode cX11_lose 59 = .ok (.aload_n 0, 1) := by decide +kernel
theorem dX11_lose_60 : decode cX11_lose 60 = .ok (.dup, 1) := by decide +kernel
theorem dX11_lose_61 : decode cX11_lose 61 = .ok (.getfield 204, 3) := by decide +kernel
theorem dX11_lose_64 : decode cX11_lose 64 = .ok (.iconst 1, 1) := by decide +kernel
theorem dX11_lose_65 : decode cX11_lose 65 = .ok (.iadd, 1) := by decide +kernel
theorem dX11_lose_66 : decode cX11_lose 66 = .ok (.putfield 204, 3) := by decide +kernel
theorem dX11_lose_69 : decode cX11_lose 69 = .ok (.iconst 1, 1) := by decide +kernel
theorem dX11_lose_70 : decode cX11_lose 70 = .ok (.ireturn, 1) := by decide +kernel
set_option maxRecDepth 20000 in
theorem ggX11_run_X11_in : GoodIn wsX11_run wsX11_in := goodIn_r _ [9] (by decide +kernel) (by decide +kernel)
set_option maxRecDepth 20000 in
theorem gX11_run_X11_in : GoodIn wsX11_run (va_wsS RX11 187 yX11_in wsX11_in) := goodIn_app (goodIn_of _ (by decide +kernel)) ggX11_run_X11_in
set_option maxRecDepth 20000 in
theorem ggX11_run_X11_goes : GoodIn wsX11_run wsX11_goes := goodIn_r _ [13, 14, 15, 1, 16, 17, 18, 19, 20, 21, 22, 23, 24, 25, 26, 27, 28, 29, 30, 8, 31, 32, 33, 34, 35, 194, 195, 196, 197, 198, 199, 200, 201, 202, 203, 204, 205, 206, 207, 208, 209, 210, 211, 212, 213, 214, 215, 216, 217, 218, 219, 220, 221, 222, 223, 224, 225, 226, 227, 228, 229, 230, 231, 232, 233, 234, 235, 236, 237, 238, 239, 240, 241, 242, 243, 244, 245, 246, 247, 248, 249, 250, 251, 252, 253, 254, 255, 256, 257, 258, 259, 260, 261, 262, 263, 264, 265, 266, 267] (by decide +kernel) (by decide +kernel)
set_option maxRecDepth 20000 in
theorem gX11_run_X11_goes : GoodIn wsX11_run (wsV RX11 211 RX11 yX11_goes wsX11_goes) := goodIn_app (goodIn_of _ (by decide +kernel)) ggX11_run_X11_goes
set_option maxRecDepth 20000 in
theorem ggX11_run_X11_comes : GoodIn wsX11_run wsX11_comes := goodIn_r _ [39, 18, 17, 16, 19, 1, 21, 23, 25, 40, 41, 42, 8, 43, 44, 45, 46, 47, 48, 49, 50, 51, 52, 53, 54, 55, 56, 57, 58, 59, 60, 61, 62, 63, 64, 65, 66, 67, 68, 69, 70, 71, 72, 73, 74, 75, 76, 77, 78, 79, 80, 81, 82, 5, 83, 84, 85, 86, 87, 88, 89, 90, 91, 92, 93, 94, 95, 96, 97, 98, 99, 100, 101, 102, 103, 104, 105, 106, 107, 108, 109, 110, 111, 112, 113, 114, 115, 116, 117, 118, 119, 120, 121, 122, 123, 124, 125, 126, 127, 128, 129, 130, 131, 132, 133, 134, 135, 136, 137, 138, 139, 140, 141, 3, 142, 143, 144, 14, 145, 146, 22, 24, 26, 27, 15, 147, 148, 149, 150, 151, 152, 153, 154, 155, 156, 32, 33, 34, 35, 194, 195, 196, 197, 198, 199, 200, 201, 202, 203, 204, 205, 206, 207, 208, 209, 210, 211, 212, 213, 214, 215, 216, 217, 218, 219, 220, 221, 222, 223, 224, 225, 226, 227, 228, 229, 230, 231, 232, 233, 234, 235, 236, 237, 238, 239, 240, 241, 242, 243, 244, 245, 246, 247, 248, 249, 250, 251, 252, 253, 254, 255, 256, 257, 258, 259, 260, 261, 262, 263, 264, 265, 266, 267] (by decide +kernel) (by decide +kernel)
set_option maxRecDepth 20000 in
theorem gX11_run_X11_comes : GoodIn wsX11_run (wsV RX11 214 RX11 yX11_comes wsX11_comes) := goodIn_app (goodIn_of _ (by decide +kernel)) ggX11_run_X11_comes
set_option maxRecDepth 20000 in
theorem ggX11_run_X11_answers : GoodIn wsX11_run wsX11_answers := goodIn_r _ [160, 4, 161, 51, 1, 56, 57, 58, 8, 59, 60, 61, 62, 63, 64, 65, 66, 67, 46, 68, 47, 69, 70, 48, 71, 72, 73, 74, 75, 76, 77, 78, 79, 80, 81, 82, 5, 83, 84, 85, 86, 87, 88, 89, 90, 91, 92, 93, 94, 95, 96, 97, 98, 99, 100, 101, 102, 103, 104, 105, 106, 107, 108, 109, 110, 111, 112, 113, 114, 115, 116, 117, 118, 119, 120, 121, 122, 123, 124, 125, 126, 127, 128, 129, 130, 131, 132, 133, 134, 135, 136, 137, 138, 139, 140, 141, 3, 142, 143, 144, 14, 145, 146, 22, 24, 26, 27, 15, 147, 148, 149, 150, 151, 152, 153, 154, 155, 156, 194, 195, 196, 197, 198, 199, 200, 201, 202, 203, 204, 205, 206, 207, 208, 209, 210, 211, 212, 213, 214, 215, 216, 217, 218, 219, 220, 221, 222, 223, 224, 225, 226, 227, 228, 229, 230, 231, 232, 233, 234, 235, 236, 237, 238, 239, 240, 241, 242, 243, 244, 245, 246, 247, 248, 249, 250, 251, 252, 253, 254, 255, 256, 257, 258, 259, 260, 261, 262, 263, 264, 265, 266, 267] (by decide +kernel) (by decide +kernel)
set_option maxRecDepth 20000 in
theorem gX11_run_X11_answers : GoodIn wsX11_run (wsV RX11 217 RX11 yX11_answers wsX11_answers) := goodIn_app (goodIn_of _ (by decide +kernel)) ggX11_run_X11_answers
set_option maxRecDepth 20000 in
theorem ggX11_run_X11_hears : GoodIn wsX11_run wsX11_hears := goodIn_r _ [165, 63, 62, 61, 64, 1, 66, 71, 72, 73, 8, 74, 67, 68, 69, 70, 75, 76, 77, 78, 79, 80, 81, 82, 5, 83, 84, 85, 86, 87, 88, 89, 90, 91, 92, 93, 94, 95, 96, 97, 98, 99, 100, 101, 102, 103, 104, 105, 106, 107, 108, 109, 110, 111, 112, 113, 114, 115, 116, 117, 118, 119, 120, 121, 122, 123, 124, 125, 126, 127, 128, 129, 130, 131, 132, 133, 134, 135, 136, 137, 138, 139, 140, 141, 3, 142, 143, 144, 14, 145, 146, 22, 24, 26, 27, 15, 147, 148, 149, 150, 151, 152, 153, 154, 155, 156, 194, 195, 196, 197, 198, 199, 200, 201, 202, 203, 204, 205, 206, 207, 208, 209, 210, 211, 212, 213, 214, 215, 216, 217, 218, 219, 220, 221, 222, 223, 224, 225, 226, 227, 228, 229, 230, 231, 232, 233, 234, 235, 236, 237, 238, 239, 240, 241, 242, 243, 244, 245, 246, 247, 248, 249, 250, 251, 252, 253, 254, 255, 256, 257, 258, 259, 260, 261, 262, 263, 264, 265, 266, 267] (by decide +kernel) (by decide +kernel)
set_option maxRecDepth 20000 in
theorem gX11_run_X11_hears : GoodIn wsX11_run (wsV RX11 220 RX11 yX11_hears wsX11_hears) := goodIn_app (goodIn_of _ (by decide +kernel)) ggX11_run_X11_hears
set_option maxRecDepth 20000 in
theorem ggX11_run_X11_due : GoodIn wsX11_run wsX11_due := goodIn_r _ [169, 88, 81, 79, 170, 98, 99, 103, 136, 82, 5, 80, 171, 172, 1, 83, 153, 154, 155, 8, 156, 102, 101, 116, 100, 115, 104, 105, 106, 107, 108, 109, 173, 174, 175, 176, 93, 138, 139, 140, 141, 3, 142, 143, 144, 14, 145, 146, 22, 24, 26, 27, 15, 194, 195, 196, 197, 198, 199, 200, 201, 202, 203, 204, 205, 206, 207, 208, 209, 210, 211, 212, 213, 214, 215, 216, 217, 218, 219, 220, 221, 222, 223, 224, 225, 226, 227, 228, 229, 230, 231, 232, 233, 234, 235, 236, 237, 238, 239, 240, 241, 242, 243, 244, 245, 246, 247, 248, 249, 250, 251, 252, 253, 254, 255, 256, 257, 258, 259, 260, 261, 262, 263, 264, 265, 266, 267] (by decide +kernel) (by decide +kernel)
set_option maxRecDepth 20000 in
theorem gX11_run_X11_due : GoodIn wsX11_run (wsV RX11 223 RX11 yX11_due wsX11_due) := goodIn_app (goodIn_of _ (by decide +kernel)) ggX11_run_X11_due
set_option maxRecDepth 20000 in
theorem ggX11_run_X11_sends : GoodIn wsX11_run wsX11_sends := goodIn_r _ [180, 100, 102, 98, 181, 81, 80, 79, 171, 5, 1, 83, 182, 183, 184, 8, 185, 186, 187, 188, 189, 136, 82, 152, 131, 127, 128, 129, 130, 132, 133, 134, 135, 137, 88, 89, 138, 139, 140, 141, 3, 142, 143, 144, 14, 145, 146, 22, 24, 26, 27, 15, 190, 191, 192, 193, 194, 195, 196, 197, 198, 199, 200, 201, 202, 203, 204, 205, 206, 207, 208, 209, 210, 211, 212, 213, 214, 215, 216, 217, 218, 219, 220, 221, 222, 223, 224, 225, 226, 227, 228, 229, 230, 231, 232, 233, 234, 235, 236, 237, 238, 239, 240, 241, 242, 243, 244, 245, 246, 247, 248, 249, 250, 251, 252, 253, 254, 255, 256, 257, 258, 259, 260, 261, 262, 263, 264, 265, 266, 267] (by decide +kernel) (by decide +kernel)
set_option maxRecDepth 20000 in
theorem gX11_run_X11_sends : GoodIn wsX11_run (wsV RX11 227 RX11 yX11_sends wsX11_sends) := goodIn_app (goodIn_of _ (by decide +kernel)) ggX11_run_X11_sends
theorem dX11_run_0 : decode cX11_run 0 = .ok (.iload_n 1, 1) := by decide +kernel
theorem dX11_run_1 : decode cX11_run 1 = .ok (.iconst 1, 1) := by decide +kernel
theorem dX11_run_2 : decode cX11_run 2 = .ok (.sipush 20000, 3) := by decide +kernel
theorem dX11_run_5 : decode cX11_run 5 = .ok (.invokestatic 187, 3) := by decide +kernel
theorem dX11_run_8 : decode cX11_run 8 = .ok (.ifCond .eq 14, 3) := by decide +kernel
theorem dX11_run_11 : decode cX11_run 11 = .ok (.aload_n 0, 1) := by decide +kernel
theorem dX11_run_12 : decode cX11_run 12 = .ok (.getfield 207, 3) := by decide +kernel
theorem dX11_run_15 : decode cX11_run 15 = .ok (.iload_n 1, 1) := by decide +kernel
theorem dX11_run_16 : decode cX11_run 16 = .ok (.iadd, 1) := by decide +kernel
theorem dX11_run_17 : decode cX11_run 17 = .ok (.ldc 210, 2) := by decide +kernel
theorem dX11_run_19 : decode cX11_run 19 = .ok (.if_icmp .le 5, 3) := by decide +kernel
theorem dX11_run_22 : decode cX11_run 22 = .ok (.iconst (-1), 1) := by decide +kernel
theorem dX11_run_23 : decode cX11_run 23 = .ok (.ireturn, 1) := by decide +kernel
theorem dX11_run_24 : decode cX11_run 24 = .ok (.aload_n 0, 1) := by decide +kernel
theorem dX11_run_25 : decode cX11_run 25 = .ok (.getfield 201, 3) := by decide +kernel
theorem dX11_run_28 : decode cX11_run 28 = .ok (.istore_n 2, 1) := by decide +kernel
theorem dX11_run_29 : decode cX11_run 29 = .ok (.iconst 0, 1) := by decide +kernel
theorem dX11_run_30 : decode cX11_run 30 = .ok (.istore_n 3, 1) := by decide +kernel
theorem dX11_run_31 : decode cX11_run 31 = .ok (.iload_n 3, 1) := by decide +kernel
theorem dX11_run_32 : decode cX11_run 32 = .ok (.iload_n 1, 1) := by decide +kernel
theorem dX11_run_33 : decode cX11_run 33 = .ok (.if_icmp .ge 97, 3) := by decide +kernel
theorem dX11_run_36 : decode cX11_run 36 = .ok (.aload_n 0, 1) := by decide +kernel
theorem dX11_run_37 : decode cX11_run 37 = .ok (.invokevirtual 211, 3) := by decide +kernel
theorem dX11_run_40 : decode cX11_run 40 = .ok (.aload_n 0, 1) := by decide +kernel
theorem dX11_run_41 : decode cX11_run 41 = .ok (.invokevirtual 214, 3) := by decide +kernel
theorem dX11_run_44 : decode cX11_run 44 = .ok (.aload_n 0, 1) := by decide +kernel
theorem dX11_run_45 : decode cX11_run 45 = .ok (.invokevirtual 217, 3) := by decide +kernel
theorem dX11_run_48 : decode cX11_run 48 = .ok (.aload_n 0, 1) := by decide +kernel
theorem dX11_run_49 : decode cX11_run 49 = .ok (.invokevirtual 220, 3) := by decide +kernel
theorem dX11_run_52 : decode cX11_run 52 = .ok (.iconst 0, 1) := by decide +kernel
theorem dX11_run_53 : decode cX11_run 53 = .ok (.istore 4, 2) := by decide +kernel
theorem dX11_run_55 : decode cX11_run 55 = .ok (.iload 4, 2) := by decide +kernel
theorem dX11_run_57 : decode cX11_run 57 = .ok (.aload_n 0, 1) := by decide +kernel
theorem dX11_run_58 : decode cX11_run 58 = .ok (.getfield 191, 3) := by decide +kernel
theorem dX11_run_61 : decode cX11_run 61 = .ok (.if_icmp .ge 29, 3) := by decide +kernel
theorem dX11_run_64 : decode cX11_run 64 = .ok (.aload_n 0, 1) := by decide +kernel
theorem dX11_run_65 : decode cX11_run 65 = .ok (.getfield 151, 3) := by decide +kernel
theorem dX11_run_68 : decode cX11_run 68 = .ok (.iload 4, 2) := by decide +kernel
theorem dX11_run_70 : decode cX11_run 70 = .ok (.iaload, 1) := by decide +kernel
theorem dX11_run_71 : decode cX11_run 71 = .ok (.aload_n 0, 1) := by decide +kernel
theorem dX11_run_72 : decode cX11_run 72 = .ok (.getfield 207, 3) := by decide +kernel
theorem dX11_run_75 : decode cX11_run 75 = .ok (.if_icmp .ne 9, 3) := by decide +kernel
theorem dX11_run_78 : decode cX11_run 78 = .ok (.aload_n 0, 1) := by decide +kernel
theorem dX11_run_79 : decode cX11_run 79 = .ok (.iload 4, 2) := by decide +kernel
theorem dX11_run_81 : decode cX11_run 81 = .ok (.invokevirtual 223, 3) := by decide +kernel
theorem dX11_run_84 : decode cX11_run 84 = .ok (.iinc 4 1, 3) := by decide +kernel
theorem dX11_run_87 : decode cX11_run 87 = .ok (.goto (-32), 3) := by decide +kernel
theorem dX11_run_90 : decode cX11_run 90 = .ok (.iconst 0, 1) := by decide +kernel
theorem dX11_run_91 : decode cX11_run 91 = .ok (.istore 4, 2) := by decide +kernel
theorem dX11_run_93 : decode cX11_run 93 = .ok (.iload 4, 2) := by decide +kernel
theorem dX11_run_95 : decode cX11_run 95 = .ok (.aload_n 0, 1) := by decide +kernel
theorem dX11_run_96 : decode cX11_run 96 = .ok (.getfield 191, 3) := by decide +kernel
theorem dX11_run_99 : decode cX11_run 99 = .ok (.if_icmp .ge 15, 3) := by decide +kernel
theorem dX11_run_102 : decode cX11_run 102 = .ok (.aload_n 0, 1) := by decide +kernel
theorem dX11_run_103 : decode cX11_run 103 = .ok (.iload 4, 2) := by decide +kernel
theorem dX11_run_105 : decode cX11_run 105 = .ok (.invokevirtual 227, 3) := by decide +kernel
theorem dX11_run_108 : decode cX11_run 108 = .ok (.iinc 4 1, 3) := by decide +kernel
theorem dX11_run_111 : decode cX11_run 111 = .ok (.goto (-18), 3) := by decide +kernel
theorem dX11_run_114 : decode cX11_run 114 = .ok (.aload_n 0, 1) := by decide +kernel
theorem dX11_run_115 : decode cX11_run 115 = .ok (.dup, 1) := by decide +kernel
theorem dX11_run_116 : decode cX11_run 116 = .ok (.getfield 207, 3) := by decide +kernel
theorem dX11_run_119 : decode cX11_run 119 = .ok (.iconst 1, 1) := by decide +kernel
theorem dX11_run_120 : decode cX11_run 120 = .ok (.iadd, 1) := by decide +kernel
theorem dX11_run_121 : decode cX11_run 121 = .ok (.putfield 207, 3) := by decide +kernel
theorem dX11_run_124 : decode cX11_run 124 = .ok (.iinc 3 1, 3) := by decide +kernel
theorem dX11_run_127 : decode cX11_run 127 = .ok (.goto (-96), 3) := by decide +kernel
theorem dX11_run_130 : decode cX11_run 130 = .ok (.aload_n 0, 1) := by decide +kernel
theorem dX11_run_131 : decode cX11_run 131 = .ok (.getfield 201, 3) := by decide +kernel
theorem dX11_run_134 : decode cX11_run 134 = .ok (.iload_n 2, 1) := by decide +kernel
theorem dX11_run_135 : decode cX11_run 135 = .ok (.isub, 1) := by decide +kernel
theorem dX11_run_136 : decode cX11_run 136 = .ok (.ireturn, 1) := by decide +kernel
set_option maxRecDepth 20000 in
theorem ggX11_goes_X11_wayDown : GoodIn wsX11_goes wsX11_wayDown := goodIn_r _ [20, 5, 4, 21, 22, 23, 19, 24, 7, 9, 11, 13, 25, 26, 27, 28, 29, 30, 31, 32, 33, 34, 35, 36, 37, 38, 39, 40, 41, 42, 43, 44, 45, 46, 47, 48, 49, 50, 51, 52, 53, 54, 55, 56, 57, 58, 59, 60, 61, 62, 63, 64, 65, 66, 67, 68, 69, 70, 71, 72, 73, 74, 75, 76, 77, 78, 79, 80, 81, 82, 83, 84, 85, 86, 87, 88, 89, 90, 91, 92, 93, 94, 95, 96, 97, 98] (by decide +kernel) (by decide +kernel)
set_option maxRecDepth 20000 in
theorem gX11_goes_X11_wayDown : GoodIn wsX11_goes (wsV RX11 239 RX11 yX11_wayDown wsX11_wayDown) := goodIn_app (goodIn_of _ (by decide +kernel)) ggX11_goes_X11_wayDown
theorem dX11_goes_0 : decode cX11_goes 0 = .ok (.aload_n 0, 1) := by decide +kernel
theorem dX11_goes_1 : decode cX11_goes 1 = .ok (.getfield 230, 3) := by decide +kernel
theorem dX11_goes_4 : decode cX11_goes 4 = .ok (.ifCond .eq 14, 3) := by decide +kernel
theorem dX11_goes_7 : decode cX11_goes 7 = .ok (.aload_n 0, 1) := by decide +kernel
theorem dX11_goes_8 : decode cX11_goes 8 = .ok (.getfield 233, 3) := by decide +kernel
theorem dX11_goes_11 : decode cX11_goes 11 = .ok (.aload_n 0, 1) := by decide +kernel
theorem dX11_goes_12 : decode cX11_goes 12 = .ok (.getfield 207, 3) := by decide +kernel
theorem dX11_goes_15 : decode cX11_goes 15 = .ok (.if_icmp .eq 4, 3) := by decide +kernel
theorem dX11_goes_18 : decode cX11_goes 18 = .ok (.return_, 1) := by decide +kernel
theorem dX11_goes_19 : decode cX11_goes 19 = .ok (.aload_n 0, 1) := by decide +kernel
theorem dX11_goes_20 : decode cX11_goes 20 = .ok (.getfield 236, 3) := by decide +kernel
theorem dX11_goes_23 : decode cX11_goes 23 = .ok (.sipush 4096, 3) := by decide +kernel
theorem dX11_goes_26 : decode cX11_goes 26 = .ok (.if_icmp .ne 7, 3) := by decide +kernel
theorem dX11_goes_29 : decode cX11_goes 29 = .ok (.aload_n 0, 1) := by decide +kernel
theorem dX11_goes_30 : decode cX11_goes 30 = .ok (.invokevirtual 239, 3) := by decide +kernel
theorem dX11_goes_33 : decode cX11_goes 33 = .ok (.aload_n 0, 1) := by decide +kernel
theorem dX11_goes_34 : decode cX11_goes 34 = .ok (.aload_n 0, 1) := by decide +kernel
theorem dX11_goes_35 : decode cX11_goes 35 = .ok (.getfield 242, 3) := by decide +kernel
theorem dX11_goes_38 : decode cX11_goes 38 = .ok (.aload_n 0, 1) := by decide +kernel
theorem dX11_goes_39 : decode cX11_goes 39 = .ok (.getfield 236, 3) := by decide +kernel
theorem dX11_goes_42 : decode cX11_goes 42 = .ok (.if_icmp .ge 37, 3) := by decide +kernel
theorem dX11_goes_45 : decode cX11_goes 45 = .ok (.aload_n 0, 1) := by decide +kernel
theorem dX11_goes_46 : decode cX11_goes 46 = .ok (.getfield 245, 3) := by decide +kernel
theorem dX11_goes_49 : decode cX11_goes 49 = .ok (.ifCond .ne 26, 3) := by decide +kernel
theorem dX11_goes_52 : decode cX11_goes 52 = .ok (.aload_n 0, 1) := by decide +kernel
theorem dX11_goes_53 : decode cX11_goes 53 = .ok (.getfield 33, 3) := by decide +kernel
theorem dX11_goes_56 : decode cX11_goes 56 = .ok (.aload_n 0, 1) := by decide +kernel
theorem dX11_goes_57 : decode cX11_goes 57 = .ok (.getfield 236, 3) := by decide +kernel
theorem dX11_goes_60 : decode cX11_goes 60 = .ok (.iconst 1, 1) := by decide +kernel
theorem dX11_goes_61 : decode cX11_goes 61 = .ok (.isub, 1) := by decide +kernel
theorem dX11_goes_62 : decode cX11_goes 62 = .ok (.iaload, 1) := by decide +kernel
theorem dX11_goes_63 : decode cX11_goes 63 = .ok (.aload_n 0, 1) := by decide +kernel
theorem dX11_goes_64 : decode cX11_goes 64 = .ok (.getfield 207, 3) := by decide +kernel
theorem dX11_goes_67 : decode cX11_goes 67 = .ok (.aload_n 0, 1) := by decide +kernel
theorem dX11_goes_68 : decode cX11_goes 68 = .ok (.getfield 16, 3) := by decide +kernel
theorem dX11_goes_71 : decode cX11_goes 71 = .ok (.iadd, 1) := by decide +kernel
theorem dX11_goes_72 : decode cX11_goes 72 = .ok (.if_icmp .le 7, 3) := by decide +kernel
theorem dX11_goes_75 : decode cX11_goes 75 = .ok (.iconst 1, 1) := by decide +kernel
theorem dX11_goes_76 : decode cX11_goes 76 = .ok (.goto 4, 3) := by decide +kernel
theorem dX11_goes_79 : decode cX11_goes 79 = .ok (.iconst 0, 1) := by decide +kernel
theorem dX11_goes_80 : decode cX11_goes 80 = .ok (.putfield 245, 3) := by decide +kernel
theorem dX11_goes_83 : decode cX11_goes 83 = .ok (.aload_n 0, 1) := by decide +kernel
theorem dX11_goes_84 : decode cX11_goes 84 = .ok (.getfield 33, 3) := by decide +kernel
theorem dX11_goes_87 : decode cX11_goes 87 = .ok (.aload_n 0, 1) := by decide +kernel
theorem dX11_goes_88 : decode cX11_goes 88 = .ok (.getfield 236, 3) := by decide +kernel
theorem dX11_goes_91 : decode cX11_goes 91 = .ok (.aload_n 0, 1) := by decide +kernel
theorem dX11_goes_92 : decode cX11_goes 92 = .ok (.getfield 207, 3) := by decide +kernel
theorem dX11_goes_95 : decode cX11_goes 95 = .ok (.aload_n 0, 1) := by decide +kernel
theorem dX11_goes_96 : decode cX11_goes 96 = .ok (.getfield 16, 3) := by decide +kernel
theorem dX11_goes_99 : decode cX11_goes 99 = .ok (.iadd, 1) := by decide +kernel
theorem dX11_goes_100 : decode cX11_goes 100 = .ok (.iastore, 1) := by decide +kernel
theorem dX11_goes_101 : decode cX11_goes 101 = .ok (.aload_n 0, 1) := by decide +kernel
theorem dX11_goes_102 : decode cX11_goes 102 = .ok (.getfield 36, 3) := by decide +kernel
theorem dX11_goes_105 : decode cX11_goes 105 = .ok (.aload_n 0, 1) := by decide +kernel
theorem dX11_goes_106 : decode cX11_goes 106 = .ok (.getfield 236, 3) := by decide +kernel
theorem dX11_goes_109 : decode cX11_goes 109 = .ok (.aload_n 0, 1) := by decide +kernel
theorem dX11_goes_110 : decode cX11_goes 110 = .ok (.getfield 22, 3) := by decide +kernel
theorem dX11_goes_113 : decode cX11_goes 113 = .ok (.iconst 0, 1) := by decide +kernel
theorem dX11_goes_114 : decode cX11_goes 114 = .ok (.iaload, 1) := by decide +kernel
theorem dX11_goes_115 : decode cX11_goes 115 = .ok (.iastore, 1) := by decide +kernel
theorem dX11_goes_116 : decode cX11_goes 116 = .ok (.aload_n 0, 1) := by decide +kernel
theorem dX11_goes_117 : decode cX11_goes 117 = .ok (.getfield 39, 3) := by decide +kernel
theorem dX11_goes_120 : decode cX11_goes 120 = .ok (.aload_n 0, 1) := by decide +kernel
theorem dX11_goes_121 : decode cX11_goes 121 = .ok (.getfield 236, 3) := by decide +kernel
theorem dX11_goes_124 : decode cX11_goes 124 = .ok (.aload_n 0, 1) := by decide +kernel
theorem dX11_goes_125 : decode cX11_goes 125 = .ok (.getfield 26, 3) := by decide +kernel
theorem dX11_goes_128 : decode cX11_goes 128 = .ok (.iconst 0, 1) := by decide +kernel
theorem dX11_goes_129 : decode cX11_goes 129 = .ok (.iaload, 1) := by decide +kernel
theorem dX11_goes_130 : decode cX11_goes 130 = .ok (.iastore, 1) := by decide +kernel
theorem dX11_goes_131 : decode cX11_goes 131 = .ok (.aload_n 0, 1) := by decide +kernel
theorem dX11_goes_132 : decode cX11_goes 132 = .ok (.getfield 42, 3) := by decide +kernel
theorem dX11_goes_135 : decode cX11_goes 135 = .ok (.aload_n 0, 1) := by decide +kernel
theorem dX11_goes_136 : decode cX11_goes 136 = .ok (.getfield 236, 3) := by decide +kernel
theorem dX11_goes_139 : decode cX11_goes 139 = .ok (.aload_n 0, 1) := by decide +kernel
theorem dX11_goes_140 : decode cX11_goes 140 = .ok (.getfield 29, 3) := by decide +kernel
theorem dX11_goes_143 : decode cX11_goes 143 = .ok (.iconst 0, 1) := by decide +kernel
theorem dX11_goes_144 : decode cX11_goes 144 = .ok (.baload, 1) := by decide +kernel
theorem dX11_goes_145 : decode cX11_goes 145 = .ok (.bastore, 1) := by decide +kernel
theorem dX11_goes_146 : decode cX11_goes 146 = .ok (.aload_n 0, 1) := by decide +kernel
theorem dX11_goes_147 : decode cX11_goes 147 = .ok (.dup, 1) := by decide +kernel
theorem dX11_goes_148 : decode cX11_goes 148 = .ok (.getfield 236, 3) := by decide +kernel
theorem dX11_goes_151 : decode cX11_goes 151 = .ok (.iconst 1, 1) := by decide +kernel
theorem dX11_goes_152 : decode cX11_goes 152 = .ok (.iadd, 1) := by decide +kernel
theorem dX11_goes_153 : decode cX11_goes 153 = .ok (.putfield 236, 3) := by decide +kernel
theorem dX11_goes_156 : decode cX11_goes 156 = .ok (.aload_n 0, 1) := by decide +kernel
theorem dX11_goes_157 : decode cX11_goes 157 = .ok (.dup, 1) := by decide +kernel
theorem dX11_goes_158 : decode cX11_goes 158 = .ok (.getfield 230, 3) := by decide +kernel
theorem dX11_goes_161 : decode cX11_goes 161 = .ok (.iconst 1, 1) := by decide +kernel
theorem dX11_goes_162 : decode cX11_goes 162 = .ok (.isub, 1) := by decide +kernel
theorem dX11_goes_163 : decode cX11_goes 163 = .ok (.putfield 230, 3) := by decide +kernel
theorem dX11_goes_166 : decode cX11_goes 166 = .ok (.iconst 0, 1) := by decide +kernel
theorem dX11_goes_167 : decode cX11_goes 167 = .ok (.istore_n 1, 1) := by decide +kernel
theorem dX11_goes_168 : decode cX11_goes 168 = .ok (.iload_n 1, 1) := by decide +kernel
theorem dX11_goes_169 : decode cX11_goes 169 = .ok (.aload_n 0, 1) := by decide +kernel
theorem dX11_goes_170 : decode cX11_goes 170 = .ok (.getfield 230, 3) := by decide +kernel
theorem dX11_goes_173 : decode cX11_goes 173 = .ok (.if_icmp .ge 51, 3) := by decide +kernel
theorem dX11_goes_176 : decode cX11_goes 176 = .ok (.aload_n 0, 1) := by decide +kernel
theorem dX11_goes_177 : decode cX11_goes 177 = .ok (.getfield 22, 3) := by decide +kernel
theorem dX11_goes_180 : decode cX11_goes 180 = .ok (.iload_n 1, 1) := by decide +kernel
theorem dX11_goes_181 : decode cX11_goes 181 = .ok (.aload_n 0, 1) := by decide +kernel
theorem dX11_goes_182 : decode cX11_goes 182 = .ok (.getfield 22, 3) := by decide +kernel
theorem dX11_goes_185 : decode cX11_goes 185 = .ok (.iload_n 1, 1) := by decide +kernel
theorem dX11_goes_186 : decode cX11_goes 186 = .ok (.iconst 1, 1) := by decide +kernel
theorem dX11_goes_187 : decode cX11_goes 187 = .ok (.iadd, 1) := by decide +kernel
theorem dX11_goes_188 : decode cX11_goes 188 = .ok (.iaload, 1) := by decide +kernel
theorem dX11_goes_189 : decode cX11_goes 189 = .ok (.iastore, 1) := by decide +kernel
theorem dX11_goes_190 : decode cX11_goes 190 = .ok (.aload_n 0, 1) := by decide +kernel
theorem dX11_goes_191 : decode cX11_goes 191 = .ok (.getfield 26, 3) := by decide +kernel
theorem dX11_goes_194 : decode cX11_goes 194 = .ok (.iload_n 1, 1) := by decide +kernel
theorem dX11_goes_195 : decode cX11_goes 195 = .ok (.aload_n 0, 1) := by decide +kernel
theorem dX11_goes_196 : decode cX11_goes 196 = .ok (.getfield 26, 3) := by decide +kernel
theorem dX11_goes_199 : decode cX11_goes 199 = .ok (.iload_n 1, 1) := by decide +kernel
theorem dX11_goes_200 : decode cX11_goes 200 = .ok (.iconst 1, 1) := by decide +kernel
theorem dX11_goes_201 : decode cX11_goes 201 = .ok (.iadd, 1) := by decide +kernel
theorem dX11_goes_202 : decode cX11_goes 202 = .ok (.iaload, 1) := by decide +kernel
theorem dX11_goes_203 : decode cX11_goes 203 = .ok (.iastore, 1) := by decide +kernel
theorem dX11_goes_204 : decode cX11_goes 204 = .ok (.aload_n 0, 1) := by decide +kernel
theorem dX11_goes_205 : decode cX11_goes 205 = .ok (.getfield 29, 3) := by decide +kernel
theorem dX11_goes_208 : decode cX11_goes 208 = .ok (.iload_n 1, 1) := by decide +kernel
theorem dX11_goes_209 : decode cX11_goes 209 = .ok (.aload_n 0, 1) := by decide +kernel
theorem dX11_goes_210 : decode cX11_goes 210 = .ok (.getfield 29, 3) := by decide +kernel
theorem dX11_goes_213 : decode cX11_goes 213 = .ok (.iload_n 1, 1) := by decide +kernel
theorem dX11_goes_214 : decode cX11_goes 214 = .ok (.iconst 1, 1) := by decide +kernel
theorem dX11_goes_215 : decode cX11_goes 215 = .ok (.iadd, 1) := by decide +kernel
theorem dX11_goes_216 : decode cX11_goes 216 = .ok (.baload, 1) := by decide +kernel
theorem dX11_goes_217 : decode cX11_goes 217 = .ok (.bastore, 1) := by decide +kernel
theorem dX11_goes_218 : decode cX11_goes 218 = .ok (.iinc 1 1, 3) := by decide +kernel
theorem dX11_goes_221 : decode cX11_goes 221 = .ok (.goto (-53), 3) := by decide +kernel
theorem dX11_goes_224 : decode cX11_goes 224 = .ok (.aload_n 0, 1) := by decide +kernel
theorem dX11_goes_225 : decode cX11_goes 225 = .ok (.aload_n 0, 1) := by decide +kernel
theorem dX11_goes_226 : decode cX11_goes 226 = .ok (.getfield 207, 3) := by decide +kernel
theorem dX11_goes_229 : decode cX11_goes 229 = .ok (.aload_n 0, 1) := by decide +kernel
theorem dX11_goes_230 : decode cX11_goes 230 = .ok (.getfield 7, 3) := by decide +kernel
theorem dX11_goes_233 : decode cX11_goes 233 = .ok (.iadd, 1) := by decide +kernel
theorem dX11_goes_234 : decode cX11_goes 234 = .ok (.putfield 233, 3) := by decide +kernel
theorem dX11_goes_237 : decode cX11_goes 237 = .ok (.return_, 1) := by decide +kernel
theorem dX11_way_0 : decode cX11_way 0 = .ok (.aload_n 0, 1) := by decide +kernel
theorem dX11_way_1 : decode cX11_way 1 = .ok (.getfield 33, 3) := by decide +kernel
theorem dX11_way_4 : decode cX11_way 4 = .ok (.iload_n 1, 1) := by decide +kernel
theorem dX11_way_5 : decode cX11_way 5 = .ok (.aload_n 0, 1) := by decide +kernel
theorem dX11_way_6 : decode cX11_way 6 = .ok (.getfield 33, 3) := by decide +kernel
theorem dX11_way_9 : decode cX11_way 9 = .ok (.iload_n 2, 1) := by decide +kernel
theorem dX11_way_10 : decode cX11_way 10 = .ok (.iaload, 1) := by decide +kernel
theorem dX11_way_11 : decode cX11_way 11 = .ok (.iastore, 1) := by decide +kernel
theorem dX11_way_12 : decode cX11_way 12 = .ok (.aload_n 0, 1) := by decide +kernel
theorem dX11_way_13 : decode cX11_way 13 = .ok (.getfield 36, 3) := by decide +kernel
theorem dX11_way_16 : decode cX11_way 16 = .ok (.iload_n 1, 1) := by decide +kernel
theorem dX11_way_17 : decode cX11_way 17 = .ok (.aload_n 0, 1) := by decide +kernel
theorem dX11_way_18 : decode cX11_way 18 = .ok (.getfield 36, 3) := by decide +kernel
theorem dX11_way_21 : decode cX11_way 21 = .ok (.iload_n 2, 1) := by decide +kernel
theorem dX11_way_22 : decode cX11_way 22 = .ok (.iaload, 1) := by decide +kernel
theorem dX11_way_23 : decode cX11_way 23 = .ok (.iastore, 1) := by decide +kernel
theorem dX11_way_24 : decode cX11_way 24 = .ok (.aload_n 0, 1) := by decide +kernel
theorem dX11_way_25 : decode cX11_way 25 = .ok (.getfield 39, 3) := by decide +kernel
theorem dX11_way_28 : decode cX11_way 28 = .ok (.iload_n 1, 1) := by decide +kernel
theorem dX11_way_29 : decode cX11_way 29 = .ok (.aload_n 0, 1) := by decide +kernel
theorem dX11_way_30 : decode cX11_way 30 = .ok (.getfield 39, 3) := by decide +kernel
theorem dX11_way_33 : decode cX11_way 33 = .ok (.iload_n 2, 1) := by decide +kernel
theorem dX11_way_34 : decode cX11_way 34 = .ok (.iaload, 1) := by decide +kernel
theorem dX11_way_35 : decode cX11_way 35 = .ok (.iastore, 1) := by decide +kernel
theorem dX11_way_36 : decode cX11_way 36 = .ok (.aload_n 0, 1) := by decide +kernel
theorem dX11_way_37 : decode cX11_way 37 = .ok (.getfield 42, 3) := by decide +kernel
theorem dX11_way_40 : decode cX11_way 40 = .ok (.iload_n 1, 1) := by decide +kernel
theorem dX11_way_41 : decode cX11_way 41 = .ok (.aload_n 0, 1) := by decide +kernel
theorem dX11_way_42 : decode cX11_way 42 = .ok (.getfield 42, 3) := by decide +kernel
theorem dX11_way_45 : decode cX11_way 45 = .ok (.iload_n 2, 1) := by decide +kernel
theorem dX11_way_46 : decode cX11_way 46 = .ok (.baload, 1) := by decide +kernel
theorem dX11_way_47 : decode cX11_way 47 = .ok (.bastore, 1) := by decide +kernel
theorem dX11_way_48 : decode cX11_way 48 = .ok (.return_, 1) := by decide +kernel
set_option maxRecDepth 20000 in
theorem ggX11_wayDown_X11_way : GoodIn wsX11_wayDown wsX11_way := goodIn_r _ [7, 8, 9, 10, 11, 12, 13, 14, 15, 16, 17, 18, 19, 20, 21, 22, 23, 24, 25, 26, 27, 28, 29, 30, 31, 32, 33, 34, 35, 36, 37, 38, 39, 40, 41, 42, 43, 44, 45, 46, 47, 48, 49, 50, 51, 52, 53, 54, 55, 56, 57, 58, 59, 60, 61, 62, 63, 64, 65, 66, 67, 68, 69, 70, 71, 72, 73, 74, 75, 76, 77, 78, 79, 80, 81, 82, 83, 84, 85] (by decide +kernel) (by decide +kernel)
set_option maxRecDepth 20000 in
theorem gX11_wayDown_X11_way : GoodIn wsX11_wayDown (wsV RX11 249 RX11 yX11_way wsX11_way) := goodIn_app (goodIn_of _ (by decide +kernel)) ggX11_wayDown_X11_way
theorem dX11_wayDown_0 : decode cX11_wayDown 0 = .ok (.iconst 0, 1) := by decide +kernel
theorem dX11_wayDown_1 : decode cX11_wayDown 1 = .ok (.istore_n 1, 1) := by decide +kernel
theorem dX11_wayDown_2 : decode cX11_wayDown 2 = .ok (.aload_n 0, 1) := by decide +kernel
theorem dX11_wayDown_3 : decode cX11_wayDown 3 = .ok (.getfield 242, 3) := by decide +kernel
theorem dX11_wayDown_6 : decode cX11_wayDown 6 = .ok (.istore_n 2, 1) := by decide +kernel
theorem dX11_wayDown_7 : decode cX11_wayDown 7 = .ok (.iload_n 2, 1) := by decide +kernel
theorem dX11_wayDown_8 : decode cX11_wayDown 8 = .ok (.aload_n 0, 1) := by decide +kernel
theorem dX11_wayDown_9 : decode cX11_wayDown 9 = .ok (.getfield 236, 3) := by decide +kernel
theorem dX11_wayDown_12 : decode cX11_wayDown 12 = .ok (.if_icmp .ge 18, 3) := by decide +kernel
theorem dX11_wayDown_15 : decode cX11_wayDown 15 = .ok (.aload_n 0, 1) := by decide +kernel
theorem dX11_wayDown_16 : decode cX11_wayDown 16 = .ok (.iload_n 1, 1) := by decide +kernel
theorem dX11_wayDown_17 : decode cX11_wayDown 17 = .ok (.iload_n 2, 1) := by decide +kernel
theorem dX11_wayDown_18 : decode cX11_wayDown 18 = .ok (.invokevirtual 249, 3) := by decide +kernel
theorem dX11_wayDown_21 : decode cX11_wayDown 21 = .ok (.iinc 1 1, 3) := by decide +kernel
theorem dX11_wayDown_24 : decode cX11_wayDown 24 = .ok (.iinc 2 1, 3) := by decide +kernel
theorem dX11_wayDown_27 : decode cX11_wayDown 27 = .ok (.goto (-20), 3) := by decide +kernel
theorem dX11_wayDown_30 : decode cX11_wayDown 30 = .ok (.aload_n 0, 1) := by decide +kernel
theorem dX11_wayDown_31 : decode cX11_wayDown 31 = .ok (.iconst 0, 1) := by decide +kernel
theorem dX11_wayDown_32 : decode cX11_wayDown 32 = .ok (.putfield 242, 3) := by decide +kernel
theorem dX11_wayDown_35 : decode cX11_wayDown 35 = .ok (.aload_n 0, 1) := by decide +kernel
theorem dX11_wayDown_36 : decode cX11_wayDown 36 = .ok (.iload_n 1, 1) := by decide +kernel
theorem dX11_wayDown_37 : decode cX11_wayDown 37 = .ok (.putfield 236, 3) := by decide +kernel
theorem dX11_wayDown_40 : decode cX11_wayDown 40 = .ok (.return_, 1) := by decide +kernel
set_option maxRecDepth 20000 in
theorem ggX11_comes_X11_receives : GoodIn wsX11_comes wsX11_receives := goodIn_r _ [13, 14, 15, 16, 17, 18, 19, 20, 21, 5, 22, 23, 24, 12, 25, 26, 27, 28, 29, 30, 31, 32, 33, 34, 35, 36, 37, 38, 39, 40, 41, 42, 43, 44, 45, 46, 47, 48, 49, 50, 51, 52, 53, 54, 55, 56, 57, 58, 59, 60, 61, 62, 63, 64, 65, 66, 67, 68, 69, 70, 71, 72, 73, 74, 75, 76, 77, 78, 79, 80, 81, 82, 83, 84, 85, 86, 87, 88, 89, 90, 91, 92, 93, 94, 95, 96, 97, 98, 99, 100, 101, 102, 103, 104, 105, 106, 107, 108, 109, 110, 111, 112, 113, 114, 115, 116, 117, 118, 119, 120, 121, 122, 123, 124, 125, 126, 127, 128, 129, 130, 131, 132, 133, 134, 139, 140, 141, 142, 143, 144, 145, 146, 147, 148, 149, 150, 151, 152, 153, 154, 155, 156, 157, 158, 159, 160, 161, 162, 163, 164, 165, 166, 167, 168, 169, 170, 171, 172, 173, 174, 175, 176, 177, 178, 179, 180, 181, 182, 183, 184, 185, 186, 187, 188, 189, 190, 191, 192, 193, 194, 195, 196, 197, 198, 199, 200, 201, 202, 203, 204, 205, 206, 207, 208, 209, 210, 211, 212] (by decide +kernel) (by decide +kernel)
set_option maxRecDepth 20000 in
theorem gX11_comes_X11_receives : GoodIn wsX11_comes (wsV RX11 253 RX11 yX11_receives wsX11_receives) := goodIn_app (goodIn_of _ (by decide +kernel)) ggX11_comes_X11_receives
set_option maxRecDepth 20000 in
theorem ggX11_comes_X11_way : GoodIn wsX11_comes wsX11_way := goodIn_r _ [138, 4, 6, 7, 8, 139, 140, 141, 142, 143, 144, 145, 146, 147, 148, 149, 150, 151, 152, 153, 154, 155, 156, 157, 158, 159, 160, 161, 162, 163, 164, 165, 166, 167, 168, 169, 170, 171, 172, 173, 174, 175, 176, 177, 178, 179, 180, 181, 182, 183, 184, 185, 186, 187, 188, 189, 190, 191, 192, 193, 194, 195, 196, 197, 198, 199, 200, 201, 202, 203, 204, 205, 206, 207, 208, 209, 210, 211, 212] (by decide +kernel) (by decide +kernel)
set_option maxRecDepth 20000 in
theorem gX11_comes_X11_way : GoodIn wsX11_comes (wsV RX11 249 RX11 yX11_way wsX11_way) := goodIn_app (goodIn_of _ (by decide +kernel)) ggX11_comes_X11_way
theorem dX11_comes_0 : decode cX11_comes 0 = .ok (.aload_n 0, 1) := by decide +kernel
theorem dX11_comes_1 : decode cX11_comes 1 = .ok (.getfield 245, 3) := by decide +kernel
theorem dX11_comes_4 : decode cX11_comes 4 = .ok (.ifCond .ne 81, 3) := by decide +kernel
theorem dX11_comes_7 : decode cX11_comes 7 = .ok (.aload_n 0, 1) := by decide +kernel
theorem dX11_comes_8 : decode cX11_comes 8 = .ok (.getfield 242, 3) := by decide +kernel
theorem dX11_comes_11 : decode cX11_comes 11 = .ok (.aload_n 0, 1) := by decide +kernel
theorem dX11_comes_12 : decode cX11_comes 12 = .ok (.getfield 236, 3) := by decide +kernel
theorem dX11_comes_15 : decode cX11_comes 15 = .ok (.if_icmp .ge 69, 3) := by decide +kernel
theorem dX11_comes_18 : decode cX11_comes 18 = .ok (.aload_n 0, 1) := by decide +kernel
theorem dX11_comes_19 : decode cX11_comes 19 = .ok (.getfield 33, 3) := by decide +kernel
theorem dX11_comes_22 : decode cX11_comes 22 = .ok (.aload_n 0, 1) := by decide +kernel
theorem dX11_comes_23 : decode cX11_comes 23 = .ok (.getfield 242, 3) := by decide +kernel
theorem dX11_comes_26 : decode cX11_comes 26 = .ok (.iaload, 1) := by decide +kernel
theorem dX11_comes_27 : decode cX11_comes 27 = .ok (.aload_n 0, 1) := by decide +kernel
theorem dX11_comes_28 : decode cX11_comes 28 = .ok (.getfield 207, 3) := by decide +kernel
theorem dX11_comes_31 : decode cX11_comes 31 = .ok (.if_icmp .ne 53, 3) := by decide +kernel
theorem dX11_comes_34 : decode cX11_comes 34 = .ok (.aload_n 0, 1) := by decide +kernel
theorem dX11_comes_35 : decode cX11_comes 35 = .ok (.dup, 1) := by decide +kernel
theorem dX11_comes_36 : decode cX11_comes 36 = .ok (.getfield 242, 3) := by decide +kernel
theorem dX11_comes_39 : decode cX11_comes 39 = .ok (.iconst 1, 1) := by decide +kernel
theorem dX11_comes_40 : decode cX11_comes 40 = .ok (.iadd, 1) := by decide +kernel
theorem dX11_comes_41 : decode cX11_comes 41 = .ok (.putfield 242, 3) := by decide +kernel
theorem dX11_comes_44 : decode cX11_comes 44 = .ok (.aload_n 0, 1) := by decide +kernel
