theorem z118_0 : jcd 118 0 = some (.new 8, 3) := by decide +kernel
theorem z118_3 : jcd 118 3 = some (.dup, 4) := by decide +kernel
theorem z118_4 : jcd 118 4 = some (.invokespecial 79, 7) := by decide +kernel
theorem z118_7 : jcd 118 7 = some (.astore 1, 8) := by decide +kernel
theorem z118_8 : jcd 118 8 = some (.new 80, 11) := by decide +kernel
theorem z118_11 : jcd 118 11 = some (.dup, 12) := by decide +kernel
theorem z118_12 : jcd 118 12 = some (.invokespecial 82, 15) := by decide +kernel
theorem z118_15 : jcd 118 15 = some (.astore 2, 16) := by decide +kernel
theorem z118_16 : jcd 118 16 = some (.iconst 1, 17) := by decide +kernel
theorem z118_17 : jcd 118 17 = some (.newarray .long, 19) := by decide +kernel
theorem z118_19 : jcd 118 19 = some (.astore 3, 20) := by decide +kernel
theorem z118_20 : jcd 118 20 = some (.iconst 0, 21) := by decide +kernel
theorem z118_21 : jcd 118 21 = some (.istore 4, 23) := by decide +kernel
theorem z118_23 : jcd 118 23 = some (.iload 4, 25) := by decide +kernel
theorem z118_25 : jcd 118 25 = some (.aload 0, 26) := by decide +kernel
theorem z118_26 : jcd 118 26 = some (.arraylength, 27) := by decide +kernel
theorem z118_27 : jcd 118 27 = some (.iconst 5, 28) := by decide +kernel
theorem z118_28 : jcd 118 28 = some (.isub, 29) := by decide +kernel
theorem z118_29 : jcd 118 29 = some (.if_icmp .gt 1309, 32) := by decide +kernel
theorem z118_32 : jcd 118 32 = some (.aload 0, 33) := by decide +kernel
theorem z118_33 : jcd 118 33 = some (.iload 4, 35) := by decide +kernel
theorem z118_35 : jcd 118 35 = some (.iaload, 36) := by decide +kernel
theorem z118_36 : jcd 118 36 = some (.bipush 31, 38) := by decide +kernel
theorem z118_38 : jcd 118 38 = some (.iand, 39) := by decide +kernel
theorem z118_39 : jcd 118 39 = some (.tableswitch 1303 0 17 #[124, 204, 252, 288, 324, 372, 452, 520, 596, 664, 751, 819, 887, 955, 1011, 1123, 1179, 1247], 124) := by decide +kernel
theorem z118_124 : jcd 118 124 = some (.aload 1, 125) := by decide +kernel
theorem z118_125 : jcd 118 125 = some (.aload 0, 126) := by decide +kernel
theorem z118_126 : jcd 118 126 = some (.iload 4, 128) := by decide +kernel
theorem z118_128 : jcd 118 128 = some (.iconst 1, 129) := by decide +kernel
theorem z118_129 : jcd 118 129 = some (.iadd, 130) := by decide +kernel
theorem z118_130 : jcd 118 130 = some (.iaload, 131) := by decide +kernel
theorem z118_131 : jcd 118 131 = some (.aload 0, 132) := by decide +kernel
theorem z118_132 : jcd 118 132 = some (.iload 4, 134) := by decide +kernel
theorem z118_134 : jcd 118 134 = some (.iconst 2, 135) := by decide +kernel
theorem z118_135 : jcd 118 135 = some (.iadd, 136) := by decide +kernel
theorem z118_136 : jcd 118 136 = some (.iaload, 137) := by decide +kernel
theorem z118_137 : jcd 118 137 = some (.aload 0, 138) := by decide +kernel
theorem z118_138 : jcd 118 138 = some (.iload 4, 140) := by decide +kernel
theorem z118_140 : jcd 118 140 = some (.iconst 3, 141) := by decide +kernel
theorem z118_141 : jcd 118 141 = some (.iadd, 142) := by decide +kernel
theorem z118_142 : jcd 118 142 = some (.iaload, 143) := by decide +kernel
theorem z118_143 : jcd 118 143 = some (.aload 3, 144) := by decide +kernel
theorem z118_144 : jcd 118 144 = some (.invokestatic 83, 147) := by decide +kernel
theorem z118_147 : jcd 118 147 = some (.istore 5, 149) := by decide +kernel
theorem z118_149 : jcd 118 149 = some (.aload 2, 150) := by decide +kernel
theorem z118_150 : jcd 118 150 = some (.aload 0, 151) := by decide +kernel
theorem z118_151 : jcd 118 151 = some (.iload 4, 153) := by decide +kernel
theorem z118_153 : jcd 118 153 = some (.iconst 1, 154) := by decide +kernel
theorem z118_154 : jcd 118 154 = some (.iadd, 155) := by decide +kernel
theorem z118_155 : jcd 118 155 = some (.iaload, 156) := by decide +kernel
theorem z118_156 : jcd 118 156 = some (.aload 0, 157) := by decide +kernel
theorem z118_157 : jcd 118 157 = some (.iload 4, 159) := by decide +kernel
theorem z118_159 : jcd 118 159 = some (.iconst 2, 160) := by decide +kernel
theorem z118_160 : jcd 118 160 = some (.iadd, 161) := by decide +kernel
theorem z118_161 : jcd 118 161 = some (.iaload, 162) := by decide +kernel
theorem z118_162 : jcd 118 162 = some (.aload 0, 163) := by decide +kernel
theorem z118_163 : jcd 118 163 = some (.iload 4, 165) := by decide +kernel
theorem z118_165 : jcd 118 165 = some (.iconst 3, 166) := by decide +kernel
theorem z118_166 : jcd 118 166 = some (.iadd, 167) := by decide +kernel
theorem z118_167 : jcd 118 167 = some (.iaload, 168) := by decide +kernel
theorem z118_168 : jcd 118 168 = some (.invokevirtual 88, 171) := by decide +kernel
theorem z118_171 : jcd 118 171 = some (.istore 6, 173) := by decide +kernel
theorem z118_173 : jcd 118 173 = some (.aload 2, 174) := by decide +kernel
theorem z118_174 : jcd 118 174 = some (.invokevirtual 89, 177) := by decide +kernel
theorem z118_177 : jcd 118 177 = some (.iload 5, 179) := by decide +kernel
theorem z118_179 : jcd 118 179 = some (.if_icmp .eq 184, 182) := by decide +kernel
theorem z118_182 : jcd 118 182 = some (.iconst 0, 183) := by decide +kernel
theorem z118_183 : jcd 118 183 = some (.ireturn, 184) := by decide +kernel
theorem z118_184 : jcd 118 184 = some (.iload 5, 186) := by decide +kernel
theorem z118_186 : jcd 118 186 = some (.ifCond .ne 201, 189) := by decide +kernel
theorem z118_189 : jcd 118 189 = some (.aload 3, 190) := by decide +kernel
theorem z118_190 : jcd 118 190 = some (.iconst 0, 191) := by decide +kernel
theorem z118_191 : jcd 118 191 = some (.laload, 192) := by decide +kernel
theorem z118_192 : jcd 118 192 = some (.iload 6, 194) := by decide +kernel
theorem z118_194 : jcd 118 194 = some (.i2l, 195) := by decide +kernel
theorem z118_195 : jcd 118 195 = some (.lcmp, 196) := by decide +kernel
theorem z118_196 : jcd 118 196 = some (.ifCond .eq 201, 199) := by decide +kernel
theorem z118_199 : jcd 118 199 = some (.iconst 0, 200) := by decide +kernel
theorem z118_200 : jcd 118 200 = some (.ireturn, 201) := by decide +kernel
theorem z118_201 : jcd 118 201 = some (.goto 1303, 204) := by decide +kernel
theorem z118_204 : jcd 118 204 = some (.aload 1, 205) := by decide +kernel
theorem z118_205 : jcd 118 205 = some (.aload 0, 206) := by decide +kernel
theorem z118_206 : jcd 118 206 = some (.iload 4, 208) := by decide +kernel
theorem z118_208 : jcd 118 208 = some (.iconst 1, 209) := by decide +kernel
theorem z118_209 : jcd 118 209 = some (.iadd, 210) := by decide +kernel
theorem z118_210 : jcd 118 210 = some (.iaload, 211) := by decide +kernel
theorem z118_211 : jcd 118 211 = some (.aload 0, 212) := by decide +kernel
theorem z118_212 : jcd 118 212 = some (.iload 4, 214) := by decide +kernel
theorem z118_214 : jcd 118 214 = some (.iconst 2, 215) := by decide +kernel
theorem z118_215 : jcd 118 215 = some (.iadd, 216) := by decide +kernel
theorem z118_216 : jcd 118 216 = some (.iaload, 217) := by decide +kernel
theorem z118_217 : jcd 118 217 = some (.invokestatic 93, 220) := by decide +kernel
theorem z118_220 : jcd 118 220 = some (.istore 5, 222) := by decide +kernel
theorem z118_222 : jcd 118 222 = some (.aload 2, 223) := by decide +kernel
theorem z118_223 : jcd 118 223 = some (.aload 0, 224) := by decide +kernel
theorem z118_224 : jcd 118 224 = some (.iload 4, 226) := by decide +kernel
theorem z118_226 : jcd 118 226 = some (.iconst 1, 227) := by decide +kernel
theorem z118_227 : jcd 118 227 = some (.iadd, 228) := by decide +kernel
theorem z118_228 : jcd 118 228 = some (.iaload, 229) := by decide +kernel
theorem z118_229 : jcd 118 229 = some (.aload 0, 230) := by decide +kernel
theorem z118_230 : jcd 118 230 = some (.iload 4, 232) := by decide +kernel
theorem z118_232 : jcd 118 232 = some (.iconst 2, 233) := by decide +kernel
theorem z118_233 : jcd 118 233 = some (.iadd, 234) := by decide +kernel
theorem z118_234 : jcd 118 234 = some (.iaload, 235) := by decide +kernel
theorem z118_235 : jcd 118 235 = some (.invokevirtual 96, 238) := by decide +kernel
theorem z118_238 : jcd 118 238 = some (.aload 2, 239) := by decide +kernel
theorem z118_239 : jcd 118 239 = some (.invokevirtual 89, 242) := by decide +kernel
theorem z118_242 : jcd 118 242 = some (.iload 5, 244) := by decide +kernel
theorem z118_244 : jcd 118 244 = some (.if_icmp .eq 249, 247) := by decide +kernel
theorem z118_247 : jcd 118 247 = some (.iconst 0, 248) := by decide +kernel
theorem z118_248 : jcd 118 248 = some (.ireturn, 249) := by decide +kernel
theorem z118_249 : jcd 118 249 = some (.goto 1303, 252) := by decide +kernel
theorem z118_252 : jcd 118 252 = some (.aload 1, 253) := by decide +kernel
theorem z118_253 : jcd 118 253 = some (.aload 0, 254) := by decide +kernel
theorem z118_254 : jcd 118 254 = some (.iload 4, 256) := by decide +kernel
theorem z118_256 : jcd 118 256 = some (.iconst 1, 257) := by decide +kernel
theorem z118_257 : jcd 118 257 = some (.iadd, 258) := by decide +kernel
theorem z118_258 : jcd 118 258 = some (.iaload, 259) := by decide +kernel
theorem z118_259 : jcd 118 259 = some (.invokestatic 97, 262) := by decide +kernel
theorem z118_262 : jcd 118 262 = some (.istore 5, 264) := by decide +kernel
theorem z118_264 : jcd 118 264 = some (.aload 2, 265) := by decide +kernel
theorem z118_265 : jcd 118 265 = some (.aload 0, 266) := by decide +kernel
theorem z118_266 : jcd 118 266 = some (.iload 4, 268) := by decide +kernel
theorem z118_268 : jcd 118 268 = some (.iconst 1, 269) := by decide +kernel
theorem z118_269 : jcd 118 269 = some (.iadd, 270) := by decide +kernel
theorem z118_270 : jcd 118 270 = some (.iaload, 271) := by decide +kernel
theorem z118_271 : jcd 118 271 = some (.invokevirtual 100, 274) := by decide +kernel
theorem z118_274 : jcd 118 274 = some (.aload 2, 275) := by decide +kernel
theorem z118_275 : jcd 118 275 = some (.invokevirtual 89, 278) := by decide +kernel
theorem z118_278 : jcd 118 278 = some (.iload 5, 280) := by decide +kernel
theorem z118_280 : jcd 118 280 = some (.if_icmp .eq 285, 283) := by decide +kernel
theorem z118_283 : jcd 118 283 = some (.iconst 0, 284) := by decide +kernel
theorem z118_284 : jcd 118 284 = some (.ireturn, 285) := by decide +kernel
theorem z118_285 : jcd 118 285 = some (.goto 1303, 288) := by decide +kernel
theorem z118_288 : jcd 118 288 = some (.aload 1, 289) := by decide +kernel
theorem z118_289 : jcd 118 289 = some (.aload 0, 290) := by decide +kernel
theorem z118_290 : jcd 118 290 = some (.iload 4, 292) := by decide +kernel
theorem z118_292 : jcd 118 292 = some (.iconst 1, 293) := by decide +kernel
theorem z118_293 : jcd 118 293 = some (.iadd, 294) := by decide +kernel
theorem z118_294 : jcd 118 294 = some (.iaload, 295) := by decide +kernel
theorem z118_295 : jcd 118 295 = some (.invokestatic 101, 298) := by decide +kernel
theorem z118_298 : jcd 118 298 = some (.istore 5, 300) := by decide +kernel
theorem z118_300 : jcd 118 300 = some (.aload 2, 301) := by decide +kernel
theorem z118_301 : jcd 118 301 = some (.aload 0, 302) := by decide +kernel
theorem z118_302 : jcd 118 302 = some (.iload 4, 304) := by decide +kernel
theorem z118_304 : jcd 118 304 = some (.iconst 1, 305) := by decide +kernel
theorem z118_305 : jcd 118 305 = some (.iadd, 306) := by decide +kernel
theorem z118_306 : jcd 118 306 = some (.iaload, 307) := by decide +kernel
theorem z118_307 : jcd 118 307 = some (.invokevirtual 103, 310) := by decide +kernel
theorem z118_310 : jcd 118 310 = some (.aload 2, 311) := by decide +kernel
theorem z118_311 : jcd 118 311 = some (.invokevirtual 89, 314) := by decide +kernel
theorem z118_314 : jcd 118 314 = some (.iload 5, 316) := by decide +kernel
theorem z118_316 : jcd 118 316 = some (.if_icmp .eq 321, 319) := by decide +kernel
theorem z118_319 : jcd 118 319 = some (.iconst 0, 320) := by decide +kernel
theorem z118_320 : jcd 118 320 = some (.ireturn, 321) := by decide +kernel
theorem z118_321 : jcd 118 321 = some (.goto 1303, 324) := by decide +kernel
theorem z118_324 : jcd 118 324 = some (.aload 1, 325) := by decide +kernel
theorem z118_325 : jcd 118 325 = some (.aload 0, 326) := by decide +kernel
theorem z118_326 : jcd 118 326 = some (.iload 4, 328) := by decide +kernel
theorem z118_328 : jcd 118 328 = some (.iconst 1, 329) := by decide +kernel
theorem z118_329 : jcd 118 329 = some (.iadd, 330) := by decide +kernel
theorem z118_330 : jcd 118 330 = some (.iaload, 331) := by decide +kernel
theorem z118_331 : jcd 118 331 = some (.aload 0, 332) := by decide +kernel
theorem z118_332 : jcd 118 332 = some (.iload 4, 334) := by decide +kernel
theorem z118_334 : jcd 118 334 = some (.iconst 2, 335) := by decide +kernel
theorem z118_335 : jcd 118 335 = some (.iadd, 336) := by decide +kernel
theorem z118_336 : jcd 118 336 = some (.iaload, 337) := by decide +kernel
theorem z118_337 : jcd 118 337 = some (.invokestatic 104, 340) := by decide +kernel
theorem z118_340 : jcd 118 340 = some (.istore 5, 342) := by decide +kernel
theorem z118_342 : jcd 118 342 = some (.aload 2, 343) := by decide +kernel
theorem z118_343 : jcd 118 343 = some (.aload 0, 344) := by decide +kernel
theorem z118_344 : jcd 118 344 = some (.iload 4, 346) := by decide +kernel
theorem z118_346 : jcd 118 346 = some (.iconst 1, 347) := by decide +kernel
theorem z118_347 : jcd 118 347 = some (.iadd, 348) := by decide +kernel
theorem z118_348 : jcd 118 348 = some (.iaload, 349) := by decide +kernel
theorem z118_349 : jcd 118 349 = some (.aload 0, 350) := by decide +kernel
theorem z118_350 : jcd 118 350 = some (.iload 4, 352) := by decide +kernel
theorem z118_352 : jcd 118 352 = some (.iconst 2, 353) := by decide +kernel
theorem z118_353 : jcd 118 353 = some (.iadd, 354) := by decide +kernel
theorem z118_354 : jcd 118 354 = some (.iaload, 355) := by decide +kernel
theorem z118_355 : jcd 118 355 = some (.invokevirtual 106, 358) := by decide +kernel
theorem z118_358 : jcd 118 358 = some (.aload 2, 359) := by decide +kernel
theorem z118_359 : jcd 118 359 = some (.invokevirtual 89, 362) := by decide +kernel
theorem z118_362 : jcd 118 362 = some (.iload 5, 364) := by decide +kernel
theorem z118_364 : jcd 118 364 = some (.if_icmp .eq 369, 367) := by decide +kernel
theorem z118_367 : jcd 118 367 = some (.iconst 0, 368) := by decide +kernel
theorem z118_368 : jcd 118 368 = some (.ireturn, 369) := by decide +kernel
theorem z118_369 : jcd 118 369 = some (.goto 1303, 372) := by decide +kernel
theorem z118_372 : jcd 118 372 = some (.aload 1, 373) := by decide +kernel
theorem z118_373 : jcd 118 373 = some (.aload 0, 374) := by decide +kernel
theorem z118_374 : jcd 118 374 = some (.iload 4, 376) := by decide +kernel
theorem z118_376 : jcd 118 376 = some (.iconst 1, 377) := by decide +kernel
theorem z118_377 : jcd 118 377 = some (.iadd, 378) := by decide +kernel
theorem z118_378 : jcd 118 378 = some (.iaload, 379) := by decide +kernel
theorem z118_379 : jcd 118 379 = some (.aload 0, 380) := by decide +kernel
theorem z118_380 : jcd 118 380 = some (.iload 4, 382) := by decide +kernel
theorem z118_382 : jcd 118 382 = some (.iconst 2, 383) := by decide +kernel
theorem z118_383 : jcd 118 383 = some (.iadd, 384) := by decide +kernel
theorem z118_384 : jcd 118 384 = some (.iaload, 385) := by decide +kernel
theorem z118_385 : jcd 118 385 = some (.aload 0, 386) := by decide +kernel
theorem z118_386 : jcd 118 386 = some (.iload 4, 388) := by decide +kernel
theorem z118_388 : jcd 118 388 = some (.iconst 3, 389) := by decide +kernel
theorem z118_389 : jcd 118 389 = some (.iadd, 390) := by decide +kernel
theorem z118_390 : jcd 118 390 = some (.iaload, 391) := by decide +kernel
theorem z118_391 : jcd 118 391 = some (.aload 3, 392) := by decide +kernel
theorem z118_392 : jcd 118 392 = some (.invokestatic 107, 395) := by decide +kernel
theorem z118_395 : jcd 118 395 = some (.istore 5, 397) := by decide +kernel
theorem z118_397 : jcd 118 397 = some (.aload 2, 398) := by decide +kernel
theorem z118_398 : jcd 118 398 = some (.aload 0, 399) := by decide +kernel
theorem z118_399 : jcd 118 399 = some (.iload 4, 401) := by decide +kernel
theorem z118_401 : jcd 118 401 = some (.iconst 1, 402) := by decide +kernel
theorem z118_402 : jcd 118 402 = some (.iadd, 403) := by decide +kernel
theorem z118_403 : jcd 118 403 = some (.iaload, 404) := by decide +kernel
theorem z118_404 : jcd 118 404 = some (.aload 0, 405) := by decide +kernel
theorem z118_405 : jcd 118 405 = some (.iload 4, 407) := by decide +kernel
theorem z118_407 : jcd 118 407 = some (.iconst 2, 408) := by decide +kernel
theorem z118_408 : jcd 118 408 = some (.iadd, 409) := by decide +kernel
theorem z118_409 : jcd 118 409 = some (.iaload, 410) := by decide +kernel
theorem z118_410 : jcd 118 410 = some (.aload 0, 411) := by decide +kernel
theorem z118_411 : jcd 118 411 = some (.iload 4, 413) := by decide +kernel
theorem z118_413 : jcd 118 413 = some (.iconst 3, 414) := by decide +kernel
theorem z118_414 : jcd 118 414 = some (.iadd, 415) := by decide +kernel
theorem z118_415 : jcd 118 415 = some (.iaload, 416) := by decide +kernel
theorem z118_416 : jcd 118 416 = some (.invokevirtual 109, 419) := by decide +kernel
theorem z118_419 : jcd 118 419 = some (.istore 6, 421) := by decide +kernel
theorem z118_421 : jcd 118 421 = some (.aload 2, 422) := by decide +kernel
theorem z118_422 : jcd 118 422 = some (.invokevirtual 89, 425) := by decide +kernel
theorem z118_425 : jcd 118 425 = some (.iload 5, 427) := by decide +kernel
theorem z118_427 : jcd 118 427 = some (.if_icmp .eq 432, 430) := by decide +kernel
theorem z118_430 : jcd 118 430 = some (.iconst 0, 431) := by decide +kernel
theorem z118_431 : jcd 118 431 = some (.ireturn, 432) := by decide +kernel
theorem z118_432 : jcd 118 432 = some (.iload 5, 434) := by decide +kernel
theorem z118_434 : jcd 118 434 = some (.ifCond .ne 449, 437) := by decide +kernel
theorem z118_437 : jcd 118 437 = some (.aload 3, 438) := by decide +kernel
theorem z118_438 : jcd 118 438 = some (.iconst 0, 439) := by decide +kernel
theorem z118_439 : jcd 118 439 = some (.laload, 440) := by decide +kernel
theorem z118_440 : jcd 118 440 = some (.iload 6, 442) := by decide +kernel
theorem z118_442 : jcd 118 442 = some (.i2l, 443) := by decide +kernel
theorem z118_443 : jcd 118 443 = some (.lcmp, 444) := by decide +kernel
theorem z118_444 : jcd 118 444 = some (.ifCond .eq 449, 447) := by decide +kernel
theorem z118_447 : jcd 118 447 = some (.iconst 0, 448) := by decide +kernel
theorem z118_448 : jcd 118 448 = some (.ireturn, 449) := by decide +kernel
theorem z118_449 : jcd 118 449 = some (.goto 1303, 452) := by decide +kernel
theorem z118_452 : jcd 118 452 = some (.aload 1, 453) := by decide +kernel
theorem z118_453 : jcd 118 453 = some (.aload 0, 454) := by decide +kernel
theorem z118_454 : jcd 118 454 = some (.iload 4, 456) := by decide +kernel
theorem z118_456 : jcd 118 456 = some (.iconst 1, 457) := by decide +kernel
theorem z118_457 : jcd 118 457 = some (.iadd, 458) := by decide +kernel
theorem z118_458 : jcd 118 458 = some (.iaload, 459) := by decide +kernel
theorem z118_459 : jcd 118 459 = some (.aload 0, 460) := by decide +kernel
theorem z118_460 : jcd 118 460 = some (.iload 4, 462) := by decide +kernel
theorem z118_462 : jcd 118 462 = some (.iconst 2, 463) := by decide +kernel
theorem z118_463 : jcd 118 463 = some (.iadd, 464) := by decide +kernel
theorem z118_464 : jcd 118 464 = some (.iaload, 465) := by decide +kernel
theorem z118_465 : jcd 118 465 = some (.aload 3, 466) := by decide +kernel
theorem z118_466 : jcd 118 466 = some (.invokestatic 110, 469) := by decide +kernel
theorem z118_469 : jcd 118 469 = some (.istore 5, 471) := by decide +kernel
theorem z118_471 : jcd 118 471 = some (.aload 2, 472) := by decide +kernel
theorem z118_472 : jcd 118 472 = some (.aload 0, 473) := by decide +kernel
theorem z118_473 : jcd 118 473 = some (.iload 4, 475) := by decide +kernel
theorem z118_475 : jcd 118 475 = some (.iconst 1, 476) := by decide +kernel
theorem z118_476 : jcd 118 476 = some (.iadd, 477) := by decide +kernel
theorem z118_477 : jcd 118 477 = some (.iaload, 478) := by decide +kernel
theorem z118_478 : jcd 118 478 = some (.aload 0, 479) := by decide +kernel
theorem z118_479 : jcd 118 479 = some (.iload 4, 481) := by decide +kernel
theorem z118_481 : jcd 118 481 = some (.iconst 2, 482) := by decide +kernel
theorem z118_482 : jcd 118 482 = some (.iadd, 483) := by decide +kernel
theorem z118_483 : jcd 118 483 = some (.iaload, 484) := by decide +kernel
theorem z118_484 : jcd 118 484 = some (.invokevirtual 113, 487) := by decide +kernel
theorem z118_487 : jcd 118 487 = some (.istore 6, 489) := by decide +kernel
theorem z118_489 : jcd 118 489 = some (.aload 2, 490) := by decide +kernel
theorem z118_490 : jcd 118 490 = some (.invokevirtual 89, 493) := by decide +kernel
theorem z118_493 : jcd 118 493 = some (.iload 5, 495) := by decide +kernel
theorem z118_495 : jcd 118 495 = some (.if_icmp .eq 500, 498) := by decide +kernel
theorem z118_498 : jcd 118 498 = some (.iconst 0, 499) := by decide +kernel
theorem z118_499 : jcd 118 499 = some (.ireturn, 500) := by decide +kernel
theorem z118_500 : jcd 118 500 = some (.iload 5, 502) := by decide +kernel
theorem z118_502 : jcd 118 502 = some (.ifCond .ne 517, 505) := by decide +kernel
theorem z118_505 : jcd 118 505 = some (.aload 3, 506) := by decide +kernel
theorem z118_506 : jcd 118 506 = some (.iconst 0, 507) := by decide +kernel
theorem z118_507 : jcd 118 507 = some (.laload, 508) := by decide +kernel
theorem z118_508 : jcd 118 508 = some (.iload 6, 510) := by decide +kernel
theorem z118_510 : jcd 118 510 = some (.i2l, 511) := by decide +kernel
theorem z118_511 : jcd 118 511 = some (.lcmp, 512) := by decide +kernel
theorem z118_512 : jcd 118 512 = some (.ifCond .eq 517, 515) := by decide +kernel
theorem z118_515 : jcd 118 515 = some (.iconst 0, 516) := by decide +kernel
theorem z118_516 : jcd 118 516 = some (.ireturn, 517) := by decide +kernel
theorem z118_517 : jcd 118 517 = some (.goto 1303, 520) := by decide +kernel
theorem z118_520 : jcd 118 520 = some (.aload 1, 521) := by decide +kernel
theorem z118_521 : jcd 118 521 = some (.aload 0, 522) := by decide +kernel
theorem z118_522 : jcd 118 522 = some (.iload 4, 524) := by decide +kernel
theorem z118_524 : jcd 118 524 = some (.iconst 1, 525) := by decide +kernel
theorem z118_525 : jcd 118 525 = some (.iadd, 526) := by decide +kernel
theorem z118_526 : jcd 118 526 = some (.iaload, 527) := by decide +kernel
theorem z118_527 : jcd 118 527 = some (.aload 0, 528) := by decide +kernel
theorem z118_528 : jcd 118 528 = some (.iload 4, 530) := by decide +kernel
theorem z118_530 : jcd 118 530 = some (.iconst 2, 531) := by decide +kernel
theorem z118_531 : jcd 118 531 = some (.iadd, 532) := by decide +kernel
theorem z118_532 : jcd 118 532 = some (.iaload, 533) := by decide +kernel
theorem z118_533 : jcd 118 533 = some (.aload 0, 534) := by decide +kernel
theorem z118_534 : jcd 118 534 = some (.iload 4, 536) := by decide +kernel
theorem z118_536 : jcd 118 536 = some (.iconst 3, 537) := by decide +kernel
theorem z118_537 : jcd 118 537 = some (.iadd, 538) := by decide +kernel
theorem z118_538 : jcd 118 538 = some (.iaload, 539) := by decide +kernel
theorem z118_539 : jcd 118 539 = some (.ifCond .eq 546, 542) := by decide +kernel
theorem z118_542 : jcd 118 542 = some (.iconst 1, 543) := by decide +kernel
theorem z118_543 : jcd 118 543 = some (.goto 547, 546) := by decide +kernel
theorem z118_546 : jcd 118 546 = some (.iconst 0, 547) := by decide +kernel
theorem z118_547 : jcd 118 547 = some (.invokestatic 114, 550) := by decide +kernel
theorem z118_550 : jcd 118 550 = some (.istore 5, 552) := by decide +kernel
theorem z118_552 : jcd 118 552 = some (.aload 2, 553) := by decide +kernel
theorem z118_553 : jcd 118 553 = some (.aload 0, 554) := by decide +kernel
theorem z118_554 : jcd 118 554 = some (.iload 4, 556) := by decide +kernel
theorem z118_556 : jcd 118 556 = some (.iconst 1, 557) := by decide +kernel
theorem z118_557 : jcd 118 557 = some (.iadd, 558) := by decide +kernel
theorem z118_558 : jcd 118 558 = some (.iaload, 559) := by decide +kernel
theorem z118_559 : jcd 118 559 = some (.aload 0, 560) := by decide +kernel
theorem z118_560 : jcd 118 560 = some (.iload 4, 562) := by decide +kernel
theorem z118_562 : jcd 118 562 = some (.iconst 2, 563) := by decide +kernel
theorem z118_563 : jcd 118 563 = some (.iadd, 564) := by decide +kernel
theorem z118_564 : jcd 118 564 = some (.iaload, 565) := by decide +kernel
theorem z118_565 : jcd 118 565 = some (.aload 0, 566) := by decide +kernel
theorem z118_566 : jcd 118 566 = some (.iload 4, 568) := by decide +kernel
theorem z118_568 : jcd 118 568 = some (.iconst 3, 569) := by decide +kernel
theorem z118_569 : jcd 118 569 = some (.iadd, 570) := by decide +kernel
theorem z118_570 : jcd 118 570 = some (.iaload, 571) := by decide +kernel
theorem z118_571 : jcd 118 571 = some (.ifCond .eq 578, 574) := by decide +kernel
theorem z118_574 : jcd 118 574 = some (.iconst 1, 575) := by decide +kernel
theorem z118_575 : jcd 118 575 = some (.goto 579, 578) := by decide +kernel
theorem z118_578 : jcd 118 578 = some (.iconst 0, 579) := by decide +kernel
theorem z118_579 : jcd 118 579 = some (.invokevirtual 117, 582) := by decide +kernel
theorem z118_582 : jcd 118 582 = some (.aload 2, 583) := by decide +kernel
theorem z118_583 : jcd 118 583 = some (.invokevirtual 89, 586) := by decide +kernel
theorem z118_586 : jcd 118 586 = some (.iload 5, 588) := by decide +kernel
theorem z118_588 : jcd 118 588 = some (.if_icmp .eq 593, 591) := by decide +kernel
theorem z118_591 : jcd 118 591 = some (.iconst 0, 592) := by decide +kernel
theorem z118_592 : jcd 118 592 = some (.ireturn, 593) := by decide +kernel
theorem z118_593 : jcd 118 593 = some (.goto 1303, 596) := by decide +kernel
theorem z118_596 : jcd 118 596 = some (.aload 1, 597) := by decide +kernel
theorem z118_597 : jcd 118 597 = some (.aload 0, 598) := by decide +kernel
theorem z118_598 : jcd 118 598 = some (.iload 4, 600) := by decide +kernel
theorem z118_600 : jcd 118 600 = some (.iconst 1, 601) := by decide +kernel
theorem z118_601 : jcd 118 601 = some (.iadd, 602) := by decide +kernel
theorem z118_602 : jcd 118 602 = some (.iaload, 603) := by decide +kernel
theorem z118_603 : jcd 118 603 = some (.aload 0, 604) := by decide +kernel
theorem z118_604 : jcd 118 604 = some (.iload 4, 606) := by decide +kernel
theorem z118_606 : jcd 118 606 = some (.iconst 2, 607) := by decide +kernel
theorem z118_607 : jcd 118 607 = some (.iadd, 608) := by decide +kernel
theorem z118_608 : jcd 118 608 = some (.iaload, 609) := by decide +kernel
theorem z118_609 : jcd 118 609 = some (.aload 3, 610) := by decide +kernel
theorem z118_610 : jcd 118 610 = some (.invokestatic 118, 613) := by decide +kernel
theorem z118_613 : jcd 118 613 = some (.istore 5, 615) := by decide +kernel
theorem z118_615 : jcd 118 615 = some (.aload 2, 616) := by decide +kernel
theorem z118_616 : jcd 118 616 = some (.aload 0, 617) := by decide +kernel
theorem z118_617 : jcd 118 617 = some (.iload 4, 619) := by decide +kernel
theorem z118_619 : jcd 118 619 = some (.iconst 1, 620) := by decide +kernel
theorem z118_620 : jcd 118 620 = some (.iadd, 621) := by decide +kernel
theorem z118_621 : jcd 118 621 = some (.iaload, 622) := by decide +kernel
theorem z118_622 : jcd 118 622 = some (.aload 0, 623) := by decide +kernel
theorem z118_623 : jcd 118 623 = some (.iload 4, 625) := by decide +kernel
theorem z118_625 : jcd 118 625 = some (.iconst 2, 626) := by decide +kernel
theorem z118_626 : jcd 118 626 = some (.iadd, 627) := by decide +kernel
theorem z118_627 : jcd 118 627 = some (.iaload, 628) := by decide +kernel
theorem z118_628 : jcd 118 628 = some (.invokevirtual 120, 631) := by decide +kernel
theorem z118_631 : jcd 118 631 = some (.istore 6, 633) := by decide +kernel
theorem z118_633 : jcd 118 633 = some (.aload 2, 634) := by decide +kernel
theorem z118_634 : jcd 118 634 = some (.invokevirtual 89, 637) := by decide +kernel
theorem z118_637 : jcd 118 637 = some (.iload 5, 639) := by decide +kernel
theorem z118_639 : jcd 118 639 = some (.if_icmp .eq 644, 642) := by decide +kernel
theorem z118_642 : jcd 118 642 = some (.iconst 0, 643) := by decide +kernel
theorem z118_643 : jcd 118 643 = some (.ireturn, 644) := by decide +kernel
theorem z118_644 : jcd 118 644 = some (.iload 5, 646) := by decide +kernel
theorem z118_646 : jcd 118 646 = some (.ifCond .ne 661, 649) := by decide +kernel
theorem z118_649 : jcd 118 649 = some (.aload 3, 650) := by decide +kernel
theorem z118_650 : jcd 118 650 = some (.iconst 0, 651) := by decide +kernel
theorem z118_651 : jcd 118 651 = some (.laload, 652) := by decide +kernel
theorem z118_652 : jcd 118 652 = some (.iload 6, 654) := by decide +kernel
theorem z118_654 : jcd 118 654 = some (.i2l, 655) := by decide +kernel
theorem z118_655 : jcd 118 655 = some (.lcmp, 656) := by decide +kernel
theorem z118_656 : jcd 118 656 = some (.ifCond .eq 661, 659) := by decide +kernel
theorem z118_659 : jcd 118 659 = some (.iconst 0, 660) := by decide +kernel
theorem z118_660 : jcd 118 660 = some (.ireturn, 661) := by decide +kernel
theorem z118_661 : jcd 118 661 = some (.goto 1303, 664) := by decide +kernel
theorem z118_664 : jcd 118 664 = some (.aload 1, 665) := by decide +kernel
theorem z118_665 : jcd 118 665 = some (.aload 0, 666) := by decide +kernel
theorem z118_666 : jcd 118 666 = some (.iload 4, 668) := by decide +kernel
theorem z118_668 : jcd 118 668 = some (.iconst 1, 669) := by decide +kernel
theorem z118_669 : jcd 118 669 = some (.iadd, 670) := by decide +kernel
theorem z118_670 : jcd 118 670 = some (.iaload, 671) := by decide +kernel
theorem z118_671 : jcd 118 671 = some (.aload 0, 672) := by decide +kernel
theorem z118_672 : jcd 118 672 = some (.iload 4, 674) := by decide +kernel
theorem z118_674 : jcd 118 674 = some (.iconst 2, 675) := by decide +kernel
theorem z118_675 : jcd 118 675 = some (.iadd, 676) := by decide +kernel
theorem z118_676 : jcd 118 676 = some (.iaload, 677) := by decide +kernel
theorem z118_677 : jcd 118 677 = some (.aload 0, 678) := by decide +kernel
theorem z118_678 : jcd 118 678 = some (.iload 4, 680) := by decide +kernel
theorem z118_680 : jcd 118 680 = some (.iconst 3, 681) := by decide +kernel
theorem z118_681 : jcd 118 681 = some (.iadd, 682) := by decide +kernel
theorem z118_682 : jcd 118 682 = some (.iaload, 683) := by decide +kernel
theorem z118_683 : jcd 118 683 = some (.aload 3, 684) := by decide +kernel
theorem z118_684 : jcd 118 684 = some (.invokestatic 121, 687) := by decide +kernel
theorem z118_687 : jcd 118 687 = some (.istore 5, 689) := by decide +kernel
theorem z118_689 : jcd 118 689 = some (.aload 2, 690) := by decide +kernel
theorem z118_690 : jcd 118 690 = some (.aload 0, 691) := by decide +kernel
theorem z118_691 : jcd 118 691 = some (.iload 4, 693) := by decide +kernel
theorem z118_693 : jcd 118 693 = some (.iconst 1, 694) := by decide +kernel
theorem z118_694 : jcd 118 694 = some (.iadd, 695) := by decide +kernel
theorem z118_695 : jcd 118 695 = some (.iaload, 696) := by decide +kernel
theorem z118_696 : jcd 118 696 = some (.aload 0, 697) := by decide +kernel
theorem z118_697 : jcd 118 697 = some (.iload 4, 699) := by decide +kernel
theorem z118_699 : jcd 118 699 = some (.iconst 2, 700) := by decide +kernel
theorem z118_700 : jcd 118 700 = some (.iadd, 701) := by decide +kernel
theorem z118_701 : jcd 118 701 = some (.iaload, 702) := by decide +kernel
theorem z118_702 : jcd 118 702 = some (.aload 0, 703) := by decide +kernel
theorem z118_703 : jcd 118 703 = some (.iload 4, 705) := by decide +kernel
theorem z118_705 : jcd 118 705 = some (.iconst 3, 706) := by decide +kernel
theorem z118_706 : jcd 118 706 = some (.iadd, 707) := by decide +kernel
theorem z118_707 : jcd 118 707 = some (.iaload, 708) := by decide +kernel
theorem z118_708 : jcd 118 708 = some (.invokevirtual 123, 711) := by decide +kernel
theorem z118_711 : jcd 118 711 = some (.istore 6, 713) := by decide +kernel
theorem z118_713 : jcd 118 713 = some (.aload 2, 714) := by decide +kernel
theorem z118_714 : jcd 118 714 = some (.invokevirtual 89, 717) := by decide +kernel
theorem z118_717 : jcd 118 717 = some (.iload 5, 719) := by decide +kernel
theorem z118_719 : jcd 118 719 = some (.if_icmp .eq 724, 722) := by decide +kernel
theorem z118_722 : jcd 118 722 = some (.iconst 0, 723) := by decide +kernel
theorem z118_723 : jcd 118 723 = some (.ireturn, 724) := by decide +kernel
theorem z118_724 : jcd 118 724 = some (.iload 5, 726) := by decide +kernel
theorem z118_726 : jcd 118 726 = some (.ifCond .ne 748, 729) := by decide +kernel
theorem z118_729 : jcd 118 729 = some (.aload 3, 730) := by decide +kernel
theorem z118_730 : jcd 118 730 = some (.iconst 0, 731) := by decide +kernel
theorem z118_731 : jcd 118 731 = some (.laload, 732) := by decide +kernel
theorem z118_732 : jcd 118 732 = some (.iload 6, 734) := by decide +kernel
theorem z118_734 : jcd 118 734 = some (.ifCond .eq 741, 737) := by decide +kernel
theorem z118_737 : jcd 118 737 = some (.lconst 1, 738) := by decide +kernel
theorem z118_738 : jcd 118 738 = some (.goto 742, 741) := by decide +kernel
theorem z118_741 : jcd 118 741 = some (.lconst 0, 742) := by decide +kernel
theorem z118_742 : jcd 118 742 = some (.lcmp, 743) := by decide +kernel
theorem z118_743 : jcd 118 743 = some (.ifCond .eq 748, 746) := by decide +kernel
theorem z118_746 : jcd 118 746 = some (.iconst 0, 747) := by decide +kernel
theorem z118_747 : jcd 118 747 = some (.ireturn, 748) := by decide +kernel
theorem z118_748 : jcd 118 748 = some (.goto 1303, 751) := by decide +kernel
theorem z118_751 : jcd 118 751 = some (.aload 1, 752) := by decide +kernel
theorem z118_752 : jcd 118 752 = some (.aload 0, 753) := by decide +kernel
theorem z118_753 : jcd 118 753 = some (.iload 4, 755) := by decide +kernel
theorem z118_755 : jcd 118 755 = some (.iconst 1, 756) := by decide +kernel
theorem z118_756 : jcd 118 756 = some (.iadd, 757) := by decide +kernel
theorem z118_757 : jcd 118 757 = some (.iaload, 758) := by decide +kernel
theorem z118_758 : jcd 118 758 = some (.aload 0, 759) := by decide +kernel
theorem z118_759 : jcd 118 759 = some (.iload 4, 761) := by decide +kernel
theorem z118_761 : jcd 118 761 = some (.iconst 2, 762) := by decide +kernel
theorem z118_762 : jcd 118 762 = some (.iadd, 763) := by decide +kernel
theorem z118_763 : jcd 118 763 = some (.iaload, 764) := by decide +kernel
theorem z118_764 : jcd 118 764 = some (.aload 3, 765) := by decide +kernel
theorem z118_765 : jcd 118 765 = some (.invokestatic 124, 768) := by decide +kernel
theorem z118_768 : jcd 118 768 = some (.istore 5, 770) := by decide +kernel
theorem z118_770 : jcd 118 770 = some (.aload 2, 771) := by decide +kernel
theorem z118_771 : jcd 118 771 = some (.aload 0, 772) := by decide +kernel
theorem z118_772 : jcd 118 772 = some (.iload 4, 774) := by decide +kernel
theorem z118_774 : jcd 118 774 = some (.iconst 1, 775) := by decide +kernel
theorem z118_775 : jcd 118 775 = some (.iadd, 776) := by decide +kernel
theorem z118_776 : jcd 118 776 = some (.iaload, 777) := by decide +kernel
theorem z118_777 : jcd 118 777 = some (.aload 0, 778) := by decide +kernel
theorem z118_778 : jcd 118 778 = some (.iload 4, 780) := by decide +kernel
theorem z118_780 : jcd 118 780 = some (.iconst 2, 781) := by decide +kernel
theorem z118_781 : jcd 118 781 = some (.iadd, 782) := by decide +kernel
theorem z118_782 : jcd 118 782 = some (.iaload, 783) := by decide +kernel
theorem z118_783 : jcd 118 783 = some (.invokevirtual 126, 786) := by decide +kernel
theorem z118_786 : jcd 118 786 = some (.istore 6, 788) := by decide +kernel
theorem z118_788 : jcd 118 788 = some (.aload 2, 789) := by decide +kernel
theorem z118_789 : jcd 118 789 = some (.invokevirtual 89, 792) := by decide +kernel
theorem z118_792 : jcd 118 792 = some (.iload 5, 794) := by decide +kernel
theorem z118_794 : jcd 118 794 = some (.if_icmp .eq 799, 797) := by decide +kernel
theorem z118_797 : jcd 118 797 = some (.iconst 0, 798) := by decide +kernel
theorem z118_798 : jcd 118 798 = some (.ireturn, 799) := by decide +kernel
theorem z118_799 : jcd 118 799 = some (.iload 5, 801) := by decide +kernel
theorem z118_801 : jcd 118 801 = some (.ifCond .ne 816, 804) := by decide +kernel
theorem z118_804 : jcd 118 804 = some (.aload 3, 805) := by decide +kernel
theorem z118_805 : jcd 118 805 = some (.iconst 0, 806) := by decide +kernel
theorem z118_806 : jcd 118 806 = some (.laload, 807) := by decide +kernel
theorem z118_807 : jcd 118 807 = some (.iload 6, 809) := by decide +kernel
theorem z118_809 : jcd 118 809 = some (.i2l, 810) := by decide +kernel
theorem z118_810 : jcd 118 810 = some (.lcmp, 811) := by decide +kernel
theorem z118_811 : jcd 118 811 = some (.ifCond .eq 816, 814) := by decide +kernel
theorem z118_814 : jcd 118 814 = some (.iconst 0, 815) := by decide +kernel
theorem z118_815 : jcd 118 815 = some (.ireturn, 816) := by decide +kernel
theorem z118_816 : jcd 118 816 = some (.goto 1303, 819) := by decide +kernel
theorem z118_819 : jcd 118 819 = some (.aload 1, 820) := by decide +kernel
theorem z118_820 : jcd 118 820 = some (.aload 0, 821) := by decide +kernel
theorem z118_821 : jcd 118 821 = some (.iload 4, 823) := by decide +kernel
theorem z118_823 : jcd 118 823 = some (.iconst 1, 824) := by decide +kernel
theorem z118_824 : jcd 118 824 = some (.iadd, 825) := by decide +kernel
theorem z118_825 : jcd 118 825 = some (.iaload, 826) := by decide +kernel
theorem z118_826 : jcd 118 826 = some (.aload 0, 827) := by decide +kernel
theorem z118_827 : jcd 118 827 = some (.iload 4, 829) := by decide +kernel
theorem z118_829 : jcd 118 829 = some (.iconst 2, 830) := by decide +kernel
theorem z118_830 : jcd 118 830 = some (.iadd, 831) := by decide +kernel
theorem z118_831 : jcd 118 831 = some (.iaload, 832) := by decide +kernel
theorem z118_832 : jcd 118 832 = some (.aload 3, 833) := by decide +kernel
theorem z118_833 : jcd 118 833 = some (.invokestatic 127, 836) := by decide +kernel
theorem z118_836 : jcd 118 836 = some (.istore 5, 838) := by decide +kernel
theorem z118_838 : jcd 118 838 = some (.aload 2, 839) := by decide +kernel
theorem z118_839 : jcd 118 839 = some (.aload 0, 840) := by decide +kernel
theorem z118_840 : jcd 118 840 = some (.iload 4, 842) := by decide +kernel
theorem z118_842 : jcd 118 842 = some (.iconst 1, 843) := by decide +kernel
theorem z118_843 : jcd 118 843 = some (.iadd, 844) := by decide +kernel
theorem z118_844 : jcd 118 844 = some (.iaload, 845) := by decide +kernel
theorem z118_845 : jcd 118 845 = some (.aload 0, 846) := by decide +kernel
theorem z118_846 : jcd 118 846 = some (.iload 4, 848) := by decide +kernel
theorem z118_848 : jcd 118 848 = some (.iconst 2, 849) := by decide +kernel
theorem z118_849 : jcd 118 849 = some (.iadd, 850) := by decide +kernel
theorem z118_850 : jcd 118 850 = some (.iaload, 851) := by decide +kernel
theorem z118_851 : jcd 118 851 = some (.invokevirtual 129, 854) := by decide +kernel
theorem z118_854 : jcd 118 854 = some (.istore 6, 856) := by decide +kernel
theorem z118_856 : jcd 118 856 = some (.aload 2, 857) := by decide +kernel
theorem z118_857 : jcd 118 857 = some (.invokevirtual 89, 860) := by decide +kernel
theorem z118_860 : jcd 118 860 = some (.iload 5, 862) := by decide +kernel
theorem z118_862 : jcd 118 862 = some (.if_icmp .eq 867, 865) := by decide +kernel
theorem z118_865 : jcd 118 865 = some (.iconst 0, 866) := by decide +kernel
theorem z118_866 : jcd 118 866 = some (.ireturn, 867) := by decide +kernel
theorem z118_867 : jcd 118 867 = some (.iload 5, 869) := by decide +kernel
theorem z118_869 : jcd 118 869 = some (.ifCond .ne 884, 872) := by decide +kernel
theorem z118_872 : jcd 118 872 = some (.aload 3, 873) := by decide +kernel
theorem z118_873 : jcd 118 873 = some (.iconst 0, 874) := by decide +kernel
theorem z118_874 : jcd 118 874 = some (.laload, 875) := by decide +kernel
theorem z118_875 : jcd 118 875 = some (.iload 6, 877) := by decide +kernel
theorem z118_877 : jcd 118 877 = some (.i2l, 878) := by decide +kernel
theorem z118_878 : jcd 118 878 = some (.lcmp, 879) := by decide +kernel
theorem z118_879 : jcd 118 879 = some (.ifCond .eq 884, 882) := by decide +kernel
theorem z118_882 : jcd 118 882 = some (.iconst 0, 883) := by decide +kernel
theorem z118_883 : jcd 118 883 = some (.ireturn, 884) := by decide +kernel
theorem z118_884 : jcd 118 884 = some (.goto 1303, 887) := by decide +kernel
theorem z118_887 : jcd 118 887 = some (.aload 1, 888) := by decide +kernel
theorem z118_888 : jcd 118 888 = some (.aload 0, 889) := by decide +kernel
theorem z118_889 : jcd 118 889 = some (.iload 4, 891) := by decide +kernel
theorem z118_891 : jcd 118 891 = some (.iconst 1, 892) := by decide +kernel
theorem z118_892 : jcd 118 892 = some (.iadd, 893) := by decide +kernel
theorem z118_893 : jcd 118 893 = some (.iaload, 894) := by decide +kernel
theorem z118_894 : jcd 118 894 = some (.aload 0, 895) := by decide +kernel
theorem z118_895 : jcd 118 895 = some (.iload 4, 897) := by decide +kernel
theorem z118_897 : jcd 118 897 = some (.iconst 2, 898) := by decide +kernel
theorem z118_898 : jcd 118 898 = some (.iadd, 899) := by decide +kernel
theorem z118_899 : jcd 118 899 = some (.iaload, 900) := by decide +kernel
theorem z118_900 : jcd 118 900 = some (.aload 3, 901) := by decide +kernel
theorem z118_901 : jcd 118 901 = some (.invokestatic 130, 904) := by decide +kernel
theorem z118_904 : jcd 118 904 = some (.istore 5, 906) := by decide +kernel
theorem z118_906 : jcd 118 906 = some (.aload 2, 907) := by decide +kernel
theorem z118_907 : jcd 118 907 = some (.aload 0, 908) := by decide +kernel
theorem z118_908 : jcd 118 908 = some (.iload 4, 910) := by decide +kernel
theorem z118_910 : jcd 118 910 = some (.iconst 1, 911) := by decide +kernel
theorem z118_911 : jcd 118 911 = some (.iadd, 912) := by decide +kernel
theorem z118_912 : jcd 118 912 = some (.iaload, 913) := by decide +kernel
theorem z118_913 : jcd 118 913 = some (.aload 0, 914) := by decide +kernel
theorem z118_914 : jcd 118 914 = some (.iload 4, 916) := by decide +kernel
theorem z118_916 : jcd 118 916 = some (.iconst 2, 917) := by decide +kernel
theorem z118_917 : jcd 118 917 = some (.iadd, 918) := by decide +kernel
theorem z118_918 : jcd 118 918 = some (.iaload, 919) := by decide +kernel
theorem z118_919 : jcd 118 919 = some (.invokevirtual 132, 922) := by decide +kernel
theorem z118_922 : jcd 118 922 = some (.istore 6, 924) := by decide +kernel
theorem z118_924 : jcd 118 924 = some (.aload 2, 925) := by decide +kernel
theorem z118_925 : jcd 118 925 = some (.invokevirtual 89, 928) := by decide +kernel
theorem z118_928 : jcd 118 928 = some (.iload 5, 930) := by decide +kernel
theorem z118_930 : jcd 118 930 = some (.if_icmp .eq 935, 933) := by decide +kernel
theorem z118_933 : jcd 118 933 = some (.iconst 0, 934) := by decide +kernel
theorem z118_934 : jcd 118 934 = some (.ireturn, 935) := by decide +kernel
theorem z118_935 : jcd 118 935 = some (.iload 5, 937) := by decide +kernel
theorem z118_937 : jcd 118 937 = some (.ifCond .ne 952, 940) := by decide +kernel
theorem z118_940 : jcd 118 940 = some (.aload 3, 941) := by decide +kernel
theorem z118_941 : jcd 118 941 = some (.iconst 0, 942) := by decide +kernel
theorem z118_942 : jcd 118 942 = some (.laload, 943) := by decide +kernel
theorem z118_943 : jcd 118 943 = some (.iload 6, 945) := by decide +kernel
theorem z118_945 : jcd 118 945 = some (.i2l, 946) := by decide +kernel
theorem z118_946 : jcd 118 946 = some (.lcmp, 947) := by decide +kernel
theorem z118_947 : jcd 118 947 = some (.ifCond .eq 952, 950) := by decide +kernel
theorem z118_950 : jcd 118 950 = some (.iconst 0, 951) := by decide +kernel
theorem z118_951 : jcd 118 951 = some (.ireturn, 952) := by decide +kernel
theorem z118_952 : jcd 118 952 = some (.goto 1303, 955) := by decide +kernel
theorem z118_955 : jcd 118 955 = some (.aload 1, 956) := by decide +kernel
theorem z118_956 : jcd 118 956 = some (.aload 0, 957) := by decide +kernel
theorem z118_957 : jcd 118 957 = some (.iload 4, 959) := by decide +kernel
theorem z118_959 : jcd 118 959 = some (.iconst 1, 960) := by decide +kernel
theorem z118_960 : jcd 118 960 = some (.iadd, 961) := by decide +kernel
theorem z118_961 : jcd 118 961 = some (.iaload, 962) := by decide +kernel
theorem z118_962 : jcd 118 962 = some (.aload 3, 963) := by decide +kernel
theorem z118_963 : jcd 118 963 = some (.invokestatic 133, 966) := by decide +kernel
theorem z118_966 : jcd 118 966 = some (.istore 5, 968) := by decide +kernel
theorem z118_968 : jcd 118 968 = some (.aload 2, 969) := by decide +kernel
theorem z118_969 : jcd 118 969 = some (.aload 0, 970) := by decide +kernel
theorem z118_970 : jcd 118 970 = some (.iload 4, 972) := by decide +kernel
theorem z118_972 : jcd 118 972 = some (.iconst 1, 973) := by decide +kernel
theorem z118_973 : jcd 118 973 = some (.iadd, 974) := by decide +kernel
theorem z118_974 : jcd 118 974 = some (.iaload, 975) := by decide +kernel
theorem z118_975 : jcd 118 975 = some (.invokevirtual 136, 978) := by decide +kernel
theorem z118_978 : jcd 118 978 = some (.istore 6, 980) := by decide +kernel
theorem z118_980 : jcd 118 980 = some (.aload 2, 981) := by decide +kernel
theorem z118_981 : jcd 118 981 = some (.invokevirtual 89, 984) := by decide +kernel
theorem z118_984 : jcd 118 984 = some (.iload 5, 986) := by decide +kernel
theorem z118_986 : jcd 118 986 = some (.if_icmp .eq 991, 989) := by decide +kernel
theorem z118_989 : jcd 118 989 = some (.iconst 0, 990) := by decide +kernel
theorem z118_990 : jcd 118 990 = some (.ireturn, 991) := by decide +kernel
theorem z118_991 : jcd 118 991 = some (.iload 5, 993) := by decide +kernel
theorem z118_993 : jcd 118 993 = some (.ifCond .ne 1008, 996) := by decide +kernel
theorem z118_996 : jcd 118 996 = some (.aload 3, 997) := by decide +kernel
theorem z118_997 : jcd 118 997 = some (.iconst 0, 998) := by decide +kernel
theorem z118_998 : jcd 118 998 = some (.laload, 999) := by decide +kernel
theorem z118_999 : jcd 118 999 = some (.iload 6, 1001) := by decide +kernel
theorem z118_1001 : jcd 118 1001 = some (.i2l, 1002) := by decide +kernel
theorem z118_1002 : jcd 118 1002 = some (.lcmp, 1003) := by decide +kernel
theorem z118_1003 : jcd 118 1003 = some (.ifCond .eq 1008, 1006) := by decide +kernel
theorem z118_1006 : jcd 118 1006 = some (.iconst 0, 1007) := by decide +kernel
theorem z118_1007 : jcd 118 1007 = some (.ireturn, 1008) := by decide +kernel
theorem z118_1008 : jcd 118 1008 = some (.goto 1303, 1011) := by decide +kernel
theorem z118_1011 : jcd 118 1011 = some (.aload 1, 1012) := by decide +kernel
theorem z118_1012 : jcd 118 1012 = some (.aload 0, 1013) := by decide +kernel
theorem z118_1013 : jcd 118 1013 = some (.iload 4, 1015) := by decide +kernel
theorem z118_1015 : jcd 118 1015 = some (.iconst 1, 1016) := by decide +kernel
theorem z118_1016 : jcd 118 1016 = some (.iadd, 1017) := by decide +kernel
theorem z118_1017 : jcd 118 1017 = some (.iaload, 1018) := by decide +kernel
theorem z118_1018 : jcd 118 1018 = some (.i2l, 1019) := by decide +kernel
theorem z118_1019 : jcd 118 1019 = some (.bipush 32, 1021) := by decide +kernel
theorem z118_1021 : jcd 118 1021 = some (.lshl, 1022) := by decide +kernel
theorem z118_1022 : jcd 118 1022 = some (.aload 0, 1023) := by decide +kernel
theorem z118_1023 : jcd 118 1023 = some (.iload 4, 1025) := by decide +kernel
theorem z118_1025 : jcd 118 1025 = some (.iconst 2, 1026) := by decide +kernel
theorem z118_1026 : jcd 118 1026 = some (.iadd, 1027) := by decide +kernel
theorem z118_1027 : jcd 118 1027 = some (.iaload, 1028) := by decide +kernel
theorem z118_1028 : jcd 118 1028 = some (.i2l, 1029) := by decide +kernel
theorem z118_1029 : jcd 118 1029 = some (.ldc2_w 137, 1032) := by decide +kernel
theorem z118_1032 : jcd 118 1032 = some (.land, 1033) := by decide +kernel
theorem z118_1033 : jcd 118 1033 = some (.lor, 1034) := by decide +kernel
theorem z118_1034 : jcd 118 1034 = some (.aload 0, 1035) := by decide +kernel
theorem z118_1035 : jcd 118 1035 = some (.iload 4, 1037) := by decide +kernel
theorem z118_1037 : jcd 118 1037 = some (.iconst 3, 1038) := by decide +kernel
theorem z118_1038 : jcd 118 1038 = some (.iadd, 1039) := by decide +kernel
theorem z118_1039 : jcd 118 1039 = some (.iaload, 1040) := by decide +kernel
theorem z118_1040 : jcd 118 1040 = some (.aload 0, 1041) := by decide +kernel
theorem z118_1041 : jcd 118 1041 = some (.iload 4, 1043) := by decide +kernel
theorem z118_1043 : jcd 118 1043 = some (.iconst 4, 1044) := by decide +kernel
theorem z118_1044 : jcd 118 1044 = some (.iadd, 1045) := by decide +kernel
theorem z118_1045 : jcd 118 1045 = some (.iaload, 1046) := by decide +kernel
theorem z118_1046 : jcd 118 1046 = some (.aload 3, 1047) := by decide +kernel
theorem z118_1047 : jcd 118 1047 = some (.invokestatic 139, 1050) := by decide +kernel
theorem z118_1050 : jcd 118 1050 = some (.istore 5, 1052) := by decide +kernel
theorem z118_1052 : jcd 118 1052 = some (.aload 2, 1053) := by decide +kernel
theorem z118_1053 : jcd 118 1053 = some (.aload 0, 1054) := by decide +kernel
theorem z118_1054 : jcd 118 1054 = some (.iload 4, 1056) := by decide +kernel
theorem z118_1056 : jcd 118 1056 = some (.iconst 1, 1057) := by decide +kernel
theorem z118_1057 : jcd 118 1057 = some (.iadd, 1058) := by decide +kernel
theorem z118_1058 : jcd 118 1058 = some (.iaload, 1059) := by decide +kernel
theorem z118_1059 : jcd 118 1059 = some (.i2l, 1060) := by decide +kernel
theorem z118_1060 : jcd 118 1060 = some (.bipush 32, 1062) := by decide +kernel
theorem z118_1062 : jcd 118 1062 = some (.lshl, 1063) := by decide +kernel
theorem z118_1063 : jcd 118 1063 = some (.aload 0, 1064) := by decide +kernel
theorem z118_1064 : jcd 118 1064 = some (.iload 4, 1066) := by decide +kernel
theorem z118_1066 : jcd 118 1066 = some (.iconst 2, 1067) := by decide +kernel
theorem z118_1067 : jcd 118 1067 = some (.iadd, 1068) := by decide +kernel
theorem z118_1068 : jcd 118 1068 = some (.iaload, 1069) := by decide +kernel
theorem z118_1069 : jcd 118 1069 = some (.i2l, 1070) := by decide +kernel
theorem z118_1070 : jcd 118 1070 = some (.ldc2_w 137, 1073) := by decide +kernel
theorem z118_1073 : jcd 118 1073 = some (.land, 1074) := by decide +kernel
theorem z118_1074 : jcd 118 1074 = some (.lor, 1075) := by decide +kernel
theorem z118_1075 : jcd 118 1075 = some (.aload 0, 1076) := by decide +kernel
theorem z118_1076 : jcd 118 1076 = some (.iload 4, 1078) := by decide +kernel
theorem z118_1078 : jcd 118 1078 = some (.iconst 3, 1079) := by decide +kernel
theorem z118_1079 : jcd 118 1079 = some (.iadd, 1080) := by decide +kernel
theorem z118_1080 : jcd 118 1080 = some (.iaload, 1081) := by decide +kernel
theorem z118_1081 : jcd 118 1081 = some (.aload 0, 1082) := by decide +kernel
theorem z118_1082 : jcd 118 1082 = some (.iload 4, 1084) := by decide +kernel
theorem z118_1084 : jcd 118 1084 = some (.iconst 4, 1085) := by decide +kernel
theorem z118_1085 : jcd 118 1085 = some (.iadd, 1086) := by decide +kernel
theorem z118_1086 : jcd 118 1086 = some (.iaload, 1087) := by decide +kernel
theorem z118_1087 : jcd 118 1087 = some (.invokevirtual 142, 1090) := by decide +kernel
theorem z118_1090 : jcd 118 1090 = some (.istore 6, 1092) := by decide +kernel
theorem z118_1092 : jcd 118 1092 = some (.aload 2, 1093) := by decide +kernel
theorem z118_1093 : jcd 118 1093 = some (.invokevirtual 89, 1096) := by decide +kernel
theorem z118_1096 : jcd 118 1096 = some (.iload 5, 1098) := by decide +kernel
theorem z118_1098 : jcd 118 1098 = some (.if_icmp .eq 1103, 1101) := by decide +kernel
theorem z118_1101 : jcd 118 1101 = some (.iconst 0, 1102) := by decide +kernel
theorem z118_1102 : jcd 118 1102 = some (.ireturn, 1103) := by decide +kernel
theorem z118_1103 : jcd 118 1103 = some (.iload 5, 1105) := by decide +kernel
theorem z118_1105 : jcd 118 1105 = some (.ifCond .ne 1120, 1108) := by decide +kernel
theorem z118_1108 : jcd 118 1108 = some (.aload 3, 1109) := by decide +kernel
theorem z118_1109 : jcd 118 1109 = some (.iconst 0, 1110) := by decide +kernel
theorem z118_1110 : jcd 118 1110 = some (.laload, 1111) := by decide +kernel
theorem z118_1111 : jcd 118 1111 = some (.iload 6, 1113) := by decide +kernel
theorem z118_1113 : jcd 118 1113 = some (.i2l, 1114) := by decide +kernel
theorem z118_1114 : jcd 118 1114 = some (.lcmp, 1115) := by decide +kernel
theorem z118_1115 : jcd 118 1115 = some (.ifCond .eq 1120, 1118) := by decide +kernel
theorem z118_1118 : jcd 118 1118 = some (.iconst 0, 1119) := by decide +kernel
theorem z118_1119 : jcd 118 1119 = some (.ireturn, 1120) := by decide +kernel
theorem z118_1120 : jcd 118 1120 = some (.goto 1303, 1123) := by decide +kernel
theorem z118_1123 : jcd 118 1123 = some (.aload 1, 1124) := by decide +kernel
theorem z118_1124 : jcd 118 1124 = some (.aload 0, 1125) := by decide +kernel
theorem z118_1125 : jcd 118 1125 = some (.iload 4, 1127) := by decide +kernel
theorem z118_1127 : jcd 118 1127 = some (.iconst 1, 1128) := by decide +kernel
theorem z118_1128 : jcd 118 1128 = some (.iadd, 1129) := by decide +kernel
theorem z118_1129 : jcd 118 1129 = some (.iaload, 1130) := by decide +kernel
theorem z118_1130 : jcd 118 1130 = some (.aload 3, 1131) := by decide +kernel
theorem z118_1131 : jcd 118 1131 = some (.invokestatic 143, 1134) := by decide +kernel
theorem z118_1134 : jcd 118 1134 = some (.istore 5, 1136) := by decide +kernel
theorem z118_1136 : jcd 118 1136 = some (.aload 2, 1137) := by decide +kernel
theorem z118_1137 : jcd 118 1137 = some (.aload 0, 1138) := by decide +kernel
theorem z118_1138 : jcd 118 1138 = some (.iload 4, 1140) := by decide +kernel
theorem z118_1140 : jcd 118 1140 = some (.iconst 1, 1141) := by decide +kernel
theorem z118_1141 : jcd 118 1141 = some (.iadd, 1142) := by decide +kernel
theorem z118_1142 : jcd 118 1142 = some (.iaload, 1143) := by decide +kernel
theorem z118_1143 : jcd 118 1143 = some (.invokevirtual 145, 1146) := by decide +kernel
theorem z118_1146 : jcd 118 1146 = some (.istore 6, 1148) := by decide +kernel
theorem z118_1148 : jcd 118 1148 = some (.aload 2, 1149) := by decide +kernel
theorem z118_1149 : jcd 118 1149 = some (.invokevirtual 89, 1152) := by decide +kernel
theorem z118_1152 : jcd 118 1152 = some (.iload 5, 1154) := by decide +kernel
theorem z118_1154 : jcd 118 1154 = some (.if_icmp .eq 1159, 1157) := by decide +kernel
theorem z118_1157 : jcd 118 1157 = some (.iconst 0, 1158) := by decide +kernel
theorem z118_1158 : jcd 118 1158 = some (.ireturn, 1159) := by decide +kernel
theorem z118_1159 : jcd 118 1159 = some (.iload 5, 1161) := by decide +kernel
theorem z118_1161 : jcd 118 1161 = some (.ifCond .ne 1176, 1164) := by decide +kernel
theorem z118_1164 : jcd 118 1164 = some (.aload 3, 1165) := by decide +kernel
theorem z118_1165 : jcd 118 1165 = some (.iconst 0, 1166) := by decide +kernel
theorem z118_1166 : jcd 118 1166 = some (.laload, 1167) := by decide +kernel
theorem z118_1167 : jcd 118 1167 = some (.iload 6, 1169) := by decide +kernel
theorem z118_1169 : jcd 118 1169 = some (.i2l, 1170) := by decide +kernel
theorem z118_1170 : jcd 118 1170 = some (.lcmp, 1171) := by decide +kernel
theorem z118_1171 : jcd 118 1171 = some (.ifCond .eq 1176, 1174) := by decide +kernel
theorem z118_1174 : jcd 118 1174 = some (.iconst 0, 1175) := by decide +kernel
theorem z118_1175 : jcd 118 1175 = some (.ireturn, 1176) := by decide +kernel
theorem z118_1176 : jcd 118 1176 = some (.goto 1303, 1179) := by decide +kernel
theorem z118_1179 : jcd 118 1179 = some (.aload 1, 1180) := by decide +kernel
theorem z118_1180 : jcd 118 1180 = some (.aload 0, 1181) := by decide +kernel
theorem z118_1181 : jcd 118 1181 = some (.iload 4, 1183) := by decide +kernel
theorem z118_1183 : jcd 118 1183 = some (.iconst 1, 1184) := by decide +kernel
theorem z118_1184 : jcd 118 1184 = some (.iadd, 1185) := by decide +kernel
theorem z118_1185 : jcd 118 1185 = some (.iaload, 1186) := by decide +kernel
theorem z118_1186 : jcd 118 1186 = some (.aload 0, 1187) := by decide +kernel
theorem z118_1187 : jcd 118 1187 = some (.iload 4, 1189) := by decide +kernel
theorem z118_1189 : jcd 118 1189 = some (.iconst 2, 1190) := by decide +kernel
theorem z118_1190 : jcd 118 1190 = some (.iadd, 1191) := by decide +kernel
theorem z118_1191 : jcd 118 1191 = some (.iaload, 1192) := by decide +kernel
theorem z118_1192 : jcd 118 1192 = some (.aload 3, 1193) := by decide +kernel
theorem z118_1193 : jcd 118 1193 = some (.invokestatic 146, 1196) := by decide +kernel
theorem z118_1196 : jcd 118 1196 = some (.istore 5, 1198) := by decide +kernel
theorem z118_1198 : jcd 118 1198 = some (.aload 2, 1199) := by decide +kernel
theorem z118_1199 : jcd 118 1199 = some (.aload 0, 1200) := by decide +kernel
theorem z118_1200 : jcd 118 1200 = some (.iload 4, 1202) := by decide +kernel
theorem z118_1202 : jcd 118 1202 = some (.iconst 1, 1203) := by decide +kernel
theorem z118_1203 : jcd 118 1203 = some (.iadd, 1204) := by decide +kernel
theorem z118_1204 : jcd 118 1204 = some (.iaload, 1205) := by decide +kernel
theorem z118_1205 : jcd 118 1205 = some (.aload 0, 1206) := by decide +kernel
theorem z118_1206 : jcd 118 1206 = some (.iload 4, 1208) := by decide +kernel
theorem z118_1208 : jcd 118 1208 = some (.iconst 2, 1209) := by decide +kernel
theorem z118_1209 : jcd 118 1209 = some (.iadd, 1210) := by decide +kernel
theorem z118_1210 : jcd 118 1210 = some (.iaload, 1211) := by decide +kernel
theorem z118_1211 : jcd 118 1211 = some (.invokevirtual 148, 1214) := by decide +kernel
theorem z118_1214 : jcd 118 1214 = some (.istore 6, 1216) := by decide +kernel
theorem z118_1216 : jcd 118 1216 = some (.aload 2, 1217) := by decide +kernel
theorem z118_1217 : jcd 118 1217 = some (.invokevirtual 89, 1220) := by decide +kernel
theorem z118_1220 : jcd 118 1220 = some (.iload 5, 1222) := by decide +kernel
theorem z118_1222 : jcd 118 1222 = some (.if_icmp .eq 1227, 1225) := by decide +kernel
theorem z118_1225 : jcd 118 1225 = some (.iconst 0, 1226) := by decide +kernel
theorem z118_1226 : jcd 118 1226 = some (.ireturn, 1227) := by decide +kernel
theorem z118_1227 : jcd 118 1227 = some (.iload 5, 1229) := by decide +kernel
theorem z118_1229 : jcd 118 1229 = some (.ifCond .ne 1244, 1232) := by decide +kernel
theorem z118_1232 : jcd 118 1232 = some (.aload 3, 1233) := by decide +kernel
theorem z118_1233 : jcd 118 1233 = some (.iconst 0, 1234) := by decide +kernel
theorem z118_1234 : jcd 118 1234 = some (.laload, 1235) := by decide +kernel
theorem z118_1235 : jcd 118 1235 = some (.iload 6, 1237) := by decide +kernel
theorem z118_1237 : jcd 118 1237 = some (.i2l, 1238) := by decide +kernel
theorem z118_1238 : jcd 118 1238 = some (.lcmp, 1239) := by decide +kernel
theorem z118_1239 : jcd 118 1239 = some (.ifCond .eq 1244, 1242) := by decide +kernel
theorem z118_1242 : jcd 118 1242 = some (.iconst 0, 1243) := by decide +kernel
theorem z118_1243 : jcd 118 1243 = some (.ireturn, 1244) := by decide +kernel
theorem z118_1244 : jcd 118 1244 = some (.goto 1303, 1247) := by decide +kernel
theorem z118_1247 : jcd 118 1247 = some (.aload 1, 1248) := by decide +kernel
theorem z118_1248 : jcd 118 1248 = some (.aload 0, 1249) := by decide +kernel
theorem z118_1249 : jcd 118 1249 = some (.iload 4, 1251) := by decide +kernel
theorem z118_1251 : jcd 118 1251 = some (.iconst 1, 1252) := by decide +kernel
theorem z118_1252 : jcd 118 1252 = some (.iadd, 1253) := by decide +kernel
theorem z118_1253 : jcd 118 1253 = some (.iaload, 1254) := by decide +kernel
theorem z118_1254 : jcd 118 1254 = some (.aload 3, 1255) := by decide +kernel
theorem z118_1255 : jcd 118 1255 = some (.invokestatic 149, 1258) := by decide +kernel
theorem z118_1258 : jcd 118 1258 = some (.istore 5, 1260) := by decide +kernel
theorem z118_1260 : jcd 118 1260 = some (.aload 2, 1261) := by decide +kernel
theorem z118_1261 : jcd 118 1261 = some (.aload 0, 1262) := by decide +kernel
theorem z118_1262 : jcd 118 1262 = some (.iload 4, 1264) := by decide +kernel
theorem z118_1264 : jcd 118 1264 = some (.iconst 1, 1265) := by decide +kernel
theorem z118_1265 : jcd 118 1265 = some (.iadd, 1266) := by decide +kernel
theorem z118_1266 : jcd 118 1266 = some (.iaload, 1267) := by decide +kernel
theorem z118_1267 : jcd 118 1267 = some (.invokevirtual 151, 1270) := by decide +kernel
theorem z118_1270 : jcd 118 1270 = some (.istore 6, 1272) := by decide +kernel
theorem z118_1272 : jcd 118 1272 = some (.aload 2, 1273) := by decide +kernel
theorem z118_1273 : jcd 118 1273 = some (.invokevirtual 89, 1276) := by decide +kernel
theorem z118_1276 : jcd 118 1276 = some (.iload 5, 1278) := by decide +kernel
theorem z118_1278 : jcd 118 1278 = some (.if_icmp .eq 1283, 1281) := by decide +kernel
theorem z118_1281 : jcd 118 1281 = some (.iconst 0, 1282) := by decide +kernel
theorem z118_1282 : jcd 118 1282 = some (.ireturn, 1283) := by decide +kernel
theorem z118_1283 : jcd 118 1283 = some (.iload 5, 1285) := by decide +kernel
theorem z118_1285 : jcd 118 1285 = some (.ifCond .ne 1300, 1288) := by decide +kernel
theorem z118_1288 : jcd 118 1288 = some (.aload 3, 1289) := by decide +kernel
theorem z118_1289 : jcd 118 1289 = some (.iconst 0, 1290) := by decide +kernel
theorem z118_1290 : jcd 118 1290 = some (.laload, 1291) := by decide +kernel
theorem z118_1291 : jcd 118 1291 = some (.iload 6, 1293) := by decide +kernel
theorem z118_1293 : jcd 118 1293 = some (.i2l, 1294) := by decide +kernel
theorem z118_1294 : jcd 118 1294 = some (.lcmp, 1295) := by decide +kernel
theorem z118_1295 : jcd 118 1295 = some (.ifCond .eq 1300, 1298) := by decide +kernel
theorem z118_1298 : jcd 118 1298 = some (.iconst 0, 1299) := by decide +kernel
theorem z118_1299 : jcd 118 1299 = some (.ireturn, 1300) := by decide +kernel
theorem z118_1300 : jcd 118 1300 = some (.goto 1303, 1303) := by decide +kernel
theorem z118_1303 : jcd 118 1303 = some (.iinc 4 5, 1306) := by decide +kernel
theorem z118_1306 : jcd 118 1306 = some (.goto 23, 1309) := by decide +kernel
theorem z118_1309 : jcd 118 1309 = some (.iconst 1, 1310) := by decide +kernel
theorem z118_1310 : jcd 118 1310 = some (.ireturn, 1311) := by decide +kernel
