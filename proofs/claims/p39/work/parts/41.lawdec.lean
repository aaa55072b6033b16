/-! printed by wip/gen/gen_law.py: decode rows of the law -/
abbrev mL_law : Mt := (yL_law, cL_law, 7, some .boolean)
theorem dL_law_0 : Dc mL_law 0 (.new 8) 3 3 := ⟨zo_187 (w := 0) (x := 8) (by decide +kernel), rfl⟩
theorem dL_law_3 : Dc mL_law 3 (.dup) 1 4 := ⟨zo_89 (by decide +kernel), rfl⟩
theorem dL_law_4 : Dc mL_law 4 (.invokespecial 17) 3 7 := ⟨zo_183 (w := 0) (x := 17) (by decide +kernel), rfl⟩
theorem dL_law_7 : Dc mL_law 7 (.astore_n 1) 1 8 := ⟨zo_76 (by decide +kernel), rfl⟩
theorem dL_law_8 : Dc mL_law 8 (.new 18) 3 11 := ⟨zo_187 (w := 0) (x := 18) (by decide +kernel), rfl⟩
theorem dL_law_11 : Dc mL_law 11 (.dup) 1 12 := ⟨zo_89 (by decide +kernel), rfl⟩
theorem dL_law_12 : Dc mL_law 12 (.invokespecial 20) 3 15 := ⟨zo_183 (w := 0) (x := 20) (by decide +kernel), rfl⟩
theorem dL_law_15 : Dc mL_law 15 (.astore_n 2) 1 16 := ⟨zo_77 (by decide +kernel), rfl⟩
theorem dL_law_16 : Dc mL_law 16 (.iconst 1) 1 17 := ⟨zo_4 (by decide +kernel), rfl⟩
theorem dL_law_17 : Dc mL_law 17 (.newarray .long) 2 19 := ⟨by decide +kernel, rfl⟩
theorem dL_law_19 : Dc mL_law 19 (.astore_n 3) 1 20 := ⟨zo_78 (by decide +kernel), rfl⟩
theorem dL_law_20 : Dc mL_law 20 (.iconst 0) 1 21 := ⟨zo_3 (by decide +kernel), rfl⟩
theorem dL_law_21 : Dc mL_law 21 (.istore 4) 2 23 := ⟨zo_54 (by decide +kernel), rfl⟩
theorem dL_law_23 : Dc mL_law 23 (.iload 4) 2 25 := ⟨zo_21 (by decide +kernel), rfl⟩
theorem dL_law_25 : Dc mL_law 25 (.aload_n 0) 1 26 := ⟨zo_42 (by decide +kernel), rfl⟩
theorem dL_law_26 : Dc mL_law 26 (.arraylength) 1 27 := ⟨zo_190 (by decide +kernel), rfl⟩
theorem dL_law_27 : Dc mL_law 27 (.bipush 6) 2 29 := ⟨zo_16 (w := 6) (by decide +kernel), rfl⟩
theorem dL_law_29 : Dc mL_law 29 (.isub) 1 30 := ⟨zo_100 (by decide +kernel), rfl⟩
theorem dL_law_30 : Dc mL_law 30 (.if_icmp .gt 1357) 3 33 := ⟨zo_163 (w := 5) (x := 77) (by decide +kernel), rfl⟩
theorem dL_law_33 : Dc mL_law 33 (.aload_n 0) 1 34 := ⟨zo_42 (by decide +kernel), rfl⟩
theorem dL_law_34 : Dc mL_law 34 (.iload 4) 2 36 := ⟨zo_21 (by decide +kernel), rfl⟩
theorem dL_law_36 : Dc mL_law 36 (.iaload) 1 37 := ⟨zo_46 (by decide +kernel), rfl⟩
theorem dL_law_37 : Dc mL_law 37 (.bipush 63) 2 39 := ⟨zo_16 (w := 63) (by decide +kernel), rfl⟩
theorem dL_law_39 : Dc mL_law 39 (.iand) 1 40 := ⟨zo_126 (by decide +kernel), rfl⟩
theorem dL_law_40 : Dc mL_law 40 (.tableswitch 1341 0 37 #[168, 241, 266, 291, 328, 368, 405, 442, 479, 504, 553, 590, 627, 664, 689, 714, 751, 764, 777, 802, 827, 840, 865, 902, 951, 988, 1013, 1026, 1039, 1104, 1129, 1154, 1179, 1228, 1277, 1290, 1303, 1316]) 168 208 := ⟨by decide +kernel, rfl⟩
theorem dL_law_208 : Dc mL_law 208 (.aload_n 1) 1 209 := ⟨zo_43 (by decide +kernel), rfl⟩
theorem dL_law_209 : Dc mL_law 209 (.aload_n 0) 1 210 := ⟨zo_42 (by decide +kernel), rfl⟩
theorem dL_law_210 : Dc mL_law 210 (.iload 4) 2 212 := ⟨zo_21 (by decide +kernel), rfl⟩
theorem dL_law_212 : Dc mL_law 212 (.iconst 1) 1 213 := ⟨zo_4 (by decide +kernel), rfl⟩
theorem dL_law_213 : Dc mL_law 213 (.iadd) 1 214 := ⟨zo_96 (by decide +kernel), rfl⟩
theorem dL_law_214 : Dc mL_law 214 (.iaload) 1 215 := ⟨zo_46 (by decide +kernel), rfl⟩
theorem dL_law_215 : Dc mL_law 215 (.aload_n 0) 1 216 := ⟨zo_42 (by decide +kernel), rfl⟩
theorem dL_law_216 : Dc mL_law 216 (.iload 4) 2 218 := ⟨zo_21 (by decide +kernel), rfl⟩
theorem dL_law_218 : Dc mL_law 218 (.iconst 2) 1 219 := ⟨zo_5 (by decide +kernel), rfl⟩
theorem dL_law_219 : Dc mL_law 219 (.iadd) 1 220 := ⟨zo_96 (by decide +kernel), rfl⟩
theorem dL_law_220 : Dc mL_law 220 (.iaload) 1 221 := ⟨zo_46 (by decide +kernel), rfl⟩
theorem dL_law_221 : Dc mL_law 221 (.aload_n 0) 1 222 := ⟨zo_42 (by decide +kernel), rfl⟩
theorem dL_law_222 : Dc mL_law 222 (.iload 4) 2 224 := ⟨zo_21 (by decide +kernel), rfl⟩
theorem dL_law_224 : Dc mL_law 224 (.iconst 3) 1 225 := ⟨zo_6 (by decide +kernel), rfl⟩
theorem dL_law_225 : Dc mL_law 225 (.iadd) 1 226 := ⟨zo_96 (by decide +kernel), rfl⟩
theorem dL_law_226 : Dc mL_law 226 (.iaload) 1 227 := ⟨zo_46 (by decide +kernel), rfl⟩
theorem dL_law_227 : Dc mL_law 227 (.aload_n 0) 1 228 := ⟨zo_42 (by decide +kernel), rfl⟩
theorem dL_law_228 : Dc mL_law 228 (.iload 4) 2 230 := ⟨zo_21 (by decide +kernel), rfl⟩
theorem dL_law_230 : Dc mL_law 230 (.iconst 4) 1 231 := ⟨zo_7 (by decide +kernel), rfl⟩
theorem dL_law_231 : Dc mL_law 231 (.iadd) 1 232 := ⟨zo_96 (by decide +kernel), rfl⟩
theorem dL_law_232 : Dc mL_law 232 (.iaload) 1 233 := ⟨zo_46 (by decide +kernel), rfl⟩
theorem dL_law_233 : Dc mL_law 233 (.aload_n 0) 1 234 := ⟨zo_42 (by decide +kernel), rfl⟩
theorem dL_law_234 : Dc mL_law 234 (.iload 4) 2 236 := ⟨zo_21 (by decide +kernel), rfl⟩
theorem dL_law_236 : Dc mL_law 236 (.iconst 5) 1 237 := ⟨zo_8 (by decide +kernel), rfl⟩
theorem dL_law_237 : Dc mL_law 237 (.iadd) 1 238 := ⟨zo_96 (by decide +kernel), rfl⟩
theorem dL_law_238 : Dc mL_law 238 (.iaload) 1 239 := ⟨zo_46 (by decide +kernel), rfl⟩
theorem dL_law_239 : Dc mL_law 239 (.invokevirtual 21) 3 242 := ⟨zo_182 (w := 0) (x := 21) (by decide +kernel), rfl⟩
theorem dL_law_242 : Dc mL_law 242 (.pop) 1 243 := ⟨zo_87 (by decide +kernel), rfl⟩
theorem dL_law_243 : Dc mL_law 243 (.aload_n 2) 1 244 := ⟨zo_44 (by decide +kernel), rfl⟩
theorem dL_law_244 : Dc mL_law 244 (.aload_n 0) 1 245 := ⟨zo_42 (by decide +kernel), rfl⟩
theorem dL_law_245 : Dc mL_law 245 (.iload 4) 2 247 := ⟨zo_21 (by decide +kernel), rfl⟩
theorem dL_law_247 : Dc mL_law 247 (.iconst 1) 1 248 := ⟨zo_4 (by decide +kernel), rfl⟩
theorem dL_law_248 : Dc mL_law 248 (.iadd) 1 249 := ⟨zo_96 (by decide +kernel), rfl⟩
theorem dL_law_249 : Dc mL_law 249 (.iaload) 1 250 := ⟨zo_46 (by decide +kernel), rfl⟩
theorem dL_law_250 : Dc mL_law 250 (.aload_n 0) 1 251 := ⟨zo_42 (by decide +kernel), rfl⟩
theorem dL_law_251 : Dc mL_law 251 (.iload 4) 2 253 := ⟨zo_21 (by decide +kernel), rfl⟩
theorem dL_law_253 : Dc mL_law 253 (.iconst 2) 1 254 := ⟨zo_5 (by decide +kernel), rfl⟩
theorem dL_law_254 : Dc mL_law 254 (.iadd) 1 255 := ⟨zo_96 (by decide +kernel), rfl⟩
theorem dL_law_255 : Dc mL_law 255 (.iaload) 1 256 := ⟨zo_46 (by decide +kernel), rfl⟩
theorem dL_law_256 : Dc mL_law 256 (.aload_n 0) 1 257 := ⟨zo_42 (by decide +kernel), rfl⟩
theorem dL_law_257 : Dc mL_law 257 (.iload 4) 2 259 := ⟨zo_21 (by decide +kernel), rfl⟩
theorem dL_law_259 : Dc mL_law 259 (.iconst 3) 1 260 := ⟨zo_6 (by decide +kernel), rfl⟩
theorem dL_law_260 : Dc mL_law 260 (.iadd) 1 261 := ⟨zo_96 (by decide +kernel), rfl⟩
theorem dL_law_261 : Dc mL_law 261 (.iaload) 1 262 := ⟨zo_46 (by decide +kernel), rfl⟩
theorem dL_law_262 : Dc mL_law 262 (.aload_n 0) 1 263 := ⟨zo_42 (by decide +kernel), rfl⟩
theorem dL_law_263 : Dc mL_law 263 (.iload 4) 2 265 := ⟨zo_21 (by decide +kernel), rfl⟩
theorem dL_law_265 : Dc mL_law 265 (.iconst 4) 1 266 := ⟨zo_7 (by decide +kernel), rfl⟩
theorem dL_law_266 : Dc mL_law 266 (.iadd) 1 267 := ⟨zo_96 (by decide +kernel), rfl⟩
theorem dL_law_267 : Dc mL_law 267 (.iaload) 1 268 := ⟨zo_46 (by decide +kernel), rfl⟩
theorem dL_law_268 : Dc mL_law 268 (.aload_n 0) 1 269 := ⟨zo_42 (by decide +kernel), rfl⟩
theorem dL_law_269 : Dc mL_law 269 (.iload 4) 2 271 := ⟨zo_21 (by decide +kernel), rfl⟩
theorem dL_law_271 : Dc mL_law 271 (.iconst 5) 1 272 := ⟨zo_8 (by decide +kernel), rfl⟩
theorem dL_law_272 : Dc mL_law 272 (.iadd) 1 273 := ⟨zo_96 (by decide +kernel), rfl⟩
theorem dL_law_273 : Dc mL_law 273 (.iaload) 1 274 := ⟨zo_46 (by decide +kernel), rfl⟩
theorem dL_law_274 : Dc mL_law 274 (.invokevirtual 25) 3 277 := ⟨zo_182 (w := 0) (x := 25) (by decide +kernel), rfl⟩
theorem dL_law_277 : Dc mL_law 277 (.pop) 1 278 := ⟨zo_87 (by decide +kernel), rfl⟩
theorem dL_law_278 : Dc mL_law 278 (.goto 1103) 3 281 := ⟨zo_167 (w := 4) (x := 79) (by decide +kernel), rfl⟩
theorem dL_law_281 : Dc mL_law 281 (.aload_n 1) 1 282 := ⟨zo_43 (by decide +kernel), rfl⟩
theorem dL_law_282 : Dc mL_law 282 (.aload_n 0) 1 283 := ⟨zo_42 (by decide +kernel), rfl⟩
theorem dL_law_283 : Dc mL_law 283 (.iload 4) 2 285 := ⟨zo_21 (by decide +kernel), rfl⟩
theorem dL_law_285 : Dc mL_law 285 (.iconst 1) 1 286 := ⟨zo_4 (by decide +kernel), rfl⟩
theorem dL_law_286 : Dc mL_law 286 (.iadd) 1 287 := ⟨zo_96 (by decide +kernel), rfl⟩
theorem dL_law_287 : Dc mL_law 287 (.iaload) 1 288 := ⟨zo_46 (by decide +kernel), rfl⟩
theorem dL_law_288 : Dc mL_law 288 (.invokevirtual 26) 3 291 := ⟨zo_182 (w := 0) (x := 26) (by decide +kernel), rfl⟩
theorem dL_law_291 : Dc mL_law 291 (.pop) 1 292 := ⟨zo_87 (by decide +kernel), rfl⟩
theorem dL_law_292 : Dc mL_law 292 (.aload_n 2) 1 293 := ⟨zo_44 (by decide +kernel), rfl⟩
theorem dL_law_293 : Dc mL_law 293 (.aload_n 0) 1 294 := ⟨zo_42 (by decide +kernel), rfl⟩
theorem dL_law_294 : Dc mL_law 294 (.iload 4) 2 296 := ⟨zo_21 (by decide +kernel), rfl⟩
theorem dL_law_296 : Dc mL_law 296 (.iconst 1) 1 297 := ⟨zo_4 (by decide +kernel), rfl⟩
theorem dL_law_297 : Dc mL_law 297 (.iadd) 1 298 := ⟨zo_96 (by decide +kernel), rfl⟩
theorem dL_law_298 : Dc mL_law 298 (.iaload) 1 299 := ⟨zo_46 (by decide +kernel), rfl⟩
theorem dL_law_299 : Dc mL_law 299 (.invokevirtual 30) 3 302 := ⟨zo_182 (w := 0) (x := 30) (by decide +kernel), rfl⟩
theorem dL_law_302 : Dc mL_law 302 (.pop) 1 303 := ⟨zo_87 (by decide +kernel), rfl⟩
theorem dL_law_303 : Dc mL_law 303 (.goto 1078) 3 306 := ⟨zo_167 (w := 4) (x := 54) (by decide +kernel), rfl⟩
theorem dL_law_306 : Dc mL_law 306 (.aload_n 1) 1 307 := ⟨zo_43 (by decide +kernel), rfl⟩
theorem dL_law_307 : Dc mL_law 307 (.aload_n 0) 1 308 := ⟨zo_42 (by decide +kernel), rfl⟩
theorem dL_law_308 : Dc mL_law 308 (.iload 4) 2 310 := ⟨zo_21 (by decide +kernel), rfl⟩
theorem dL_law_310 : Dc mL_law 310 (.iconst 1) 1 311 := ⟨zo_4 (by decide +kernel), rfl⟩
theorem dL_law_311 : Dc mL_law 311 (.iadd) 1 312 := ⟨zo_96 (by decide +kernel), rfl⟩
theorem dL_law_312 : Dc mL_law 312 (.iaload) 1 313 := ⟨zo_46 (by decide +kernel), rfl⟩
theorem dL_law_313 : Dc mL_law 313 (.invokevirtual 31) 3 316 := ⟨zo_182 (w := 0) (x := 31) (by decide +kernel), rfl⟩
theorem dL_law_316 : Dc mL_law 316 (.pop) 1 317 := ⟨zo_87 (by decide +kernel), rfl⟩
theorem dL_law_317 : Dc mL_law 317 (.aload_n 2) 1 318 := ⟨zo_44 (by decide +kernel), rfl⟩
theorem dL_law_318 : Dc mL_law 318 (.aload_n 0) 1 319 := ⟨zo_42 (by decide +kernel), rfl⟩
theorem dL_law_319 : Dc mL_law 319 (.iload 4) 2 321 := ⟨zo_21 (by decide +kernel), rfl⟩
theorem dL_law_321 : Dc mL_law 321 (.iconst 1) 1 322 := ⟨zo_4 (by decide +kernel), rfl⟩
theorem dL_law_322 : Dc mL_law 322 (.iadd) 1 323 := ⟨zo_96 (by decide +kernel), rfl⟩
theorem dL_law_323 : Dc mL_law 323 (.iaload) 1 324 := ⟨zo_46 (by decide +kernel), rfl⟩
theorem dL_law_324 : Dc mL_law 324 (.invokevirtual 34) 3 327 := ⟨zo_182 (w := 0) (x := 34) (by decide +kernel), rfl⟩
theorem dL_law_327 : Dc mL_law 327 (.pop) 1 328 := ⟨zo_87 (by decide +kernel), rfl⟩
theorem dL_law_328 : Dc mL_law 328 (.goto 1053) 3 331 := ⟨zo_167 (w := 4) (x := 29) (by decide +kernel), rfl⟩
theorem dL_law_331 : Dc mL_law 331 (.aload_n 1) 1 332 := ⟨zo_43 (by decide +kernel), rfl⟩
theorem dL_law_332 : Dc mL_law 332 (.aload_n 0) 1 333 := ⟨zo_42 (by decide +kernel), rfl⟩
theorem dL_law_333 : Dc mL_law 333 (.iload 4) 2 335 := ⟨zo_21 (by decide +kernel), rfl⟩
theorem dL_law_335 : Dc mL_law 335 (.iconst 1) 1 336 := ⟨zo_4 (by decide +kernel), rfl⟩
theorem dL_law_336 : Dc mL_law 336 (.iadd) 1 337 := ⟨zo_96 (by decide +kernel), rfl⟩
theorem dL_law_337 : Dc mL_law 337 (.iaload) 1 338 := ⟨zo_46 (by decide +kernel), rfl⟩
theorem dL_law_338 : Dc mL_law 338 (.aload_n 0) 1 339 := ⟨zo_42 (by decide +kernel), rfl⟩
theorem dL_law_339 : Dc mL_law 339 (.iload 4) 2 341 := ⟨zo_21 (by decide +kernel), rfl⟩
theorem dL_law_341 : Dc mL_law 341 (.iconst 2) 1 342 := ⟨zo_5 (by decide +kernel), rfl⟩
theorem dL_law_342 : Dc mL_law 342 (.iadd) 1 343 := ⟨zo_96 (by decide +kernel), rfl⟩
theorem dL_law_343 : Dc mL_law 343 (.iaload) 1 344 := ⟨zo_46 (by decide +kernel), rfl⟩
theorem dL_law_344 : Dc mL_law 344 (.invokevirtual 35) 3 347 := ⟨zo_182 (w := 0) (x := 35) (by decide +kernel), rfl⟩
theorem dL_law_347 : Dc mL_law 347 (.pop) 1 348 := ⟨zo_87 (by decide +kernel), rfl⟩
theorem dL_law_348 : Dc mL_law 348 (.aload_n 2) 1 349 := ⟨zo_44 (by decide +kernel), rfl⟩
theorem dL_law_349 : Dc mL_law 349 (.aload_n 0) 1 350 := ⟨zo_42 (by decide +kernel), rfl⟩
theorem dL_law_350 : Dc mL_law 350 (.iload 4) 2 352 := ⟨zo_21 (by decide +kernel), rfl⟩
theorem dL_law_352 : Dc mL_law 352 (.iconst 1) 1 353 := ⟨zo_4 (by decide +kernel), rfl⟩
theorem dL_law_353 : Dc mL_law 353 (.iadd) 1 354 := ⟨zo_96 (by decide +kernel), rfl⟩
theorem dL_law_354 : Dc mL_law 354 (.iaload) 1 355 := ⟨zo_46 (by decide +kernel), rfl⟩
theorem dL_law_355 : Dc mL_law 355 (.aload_n 0) 1 356 := ⟨zo_42 (by decide +kernel), rfl⟩
theorem dL_law_356 : Dc mL_law 356 (.iload 4) 2 358 := ⟨zo_21 (by decide +kernel), rfl⟩
theorem dL_law_358 : Dc mL_law 358 (.iconst 2) 1 359 := ⟨zo_5 (by decide +kernel), rfl⟩
theorem dL_law_359 : Dc mL_law 359 (.iadd) 1 360 := ⟨zo_96 (by decide +kernel), rfl⟩
theorem dL_law_360 : Dc mL_law 360 (.iaload) 1 361 := ⟨zo_46 (by decide +kernel), rfl⟩
theorem dL_law_361 : Dc mL_law 361 (.invokevirtual 38) 3 364 := ⟨zo_182 (w := 0) (x := 38) (by decide +kernel), rfl⟩
theorem dL_law_364 : Dc mL_law 364 (.pop) 1 365 := ⟨zo_87 (by decide +kernel), rfl⟩
theorem dL_law_365 : Dc mL_law 365 (.goto 1016) 3 368 := ⟨zo_167 (w := 3) (x := 248) (by decide +kernel), rfl⟩
theorem dL_law_368 : Dc mL_law 368 (.aload_n 1) 1 369 := ⟨zo_43 (by decide +kernel), rfl⟩
theorem dL_law_369 : Dc mL_law 369 (.aload_n 0) 1 370 := ⟨zo_42 (by decide +kernel), rfl⟩
theorem dL_law_370 : Dc mL_law 370 (.iload 4) 2 372 := ⟨zo_21 (by decide +kernel), rfl⟩
theorem dL_law_372 : Dc mL_law 372 (.iconst 1) 1 373 := ⟨zo_4 (by decide +kernel), rfl⟩
theorem dL_law_373 : Dc mL_law 373 (.iadd) 1 374 := ⟨zo_96 (by decide +kernel), rfl⟩
theorem dL_law_374 : Dc mL_law 374 (.iaload) 1 375 := ⟨zo_46 (by decide +kernel), rfl⟩
theorem dL_law_375 : Dc mL_law 375 (.aload_n 0) 1 376 := ⟨zo_42 (by decide +kernel), rfl⟩
theorem dL_law_376 : Dc mL_law 376 (.iload 4) 2 378 := ⟨zo_21 (by decide +kernel), rfl⟩
theorem dL_law_378 : Dc mL_law 378 (.iconst 2) 1 379 := ⟨zo_5 (by decide +kernel), rfl⟩
theorem dL_law_379 : Dc mL_law 379 (.iadd) 1 380 := ⟨zo_96 (by decide +kernel), rfl⟩
theorem dL_law_380 : Dc mL_law 380 (.iaload) 1 381 := ⟨zo_46 (by decide +kernel), rfl⟩
theorem dL_law_381 : Dc mL_law 381 (.aload_n 3) 1 382 := ⟨zo_45 (by decide +kernel), rfl⟩
theorem dL_law_382 : Dc mL_law 382 (.invokestatic 39) 3 385 := ⟨zo_184 (w := 0) (x := 39) (by decide +kernel), rfl⟩
theorem dL_law_385 : Dc mL_law 385 (.istore 5) 2 387 := ⟨zo_54 (by decide +kernel), rfl⟩
theorem dL_law_387 : Dc mL_law 387 (.aload_n 2) 1 388 := ⟨zo_44 (by decide +kernel), rfl⟩
theorem dL_law_388 : Dc mL_law 388 (.aload_n 0) 1 389 := ⟨zo_42 (by decide +kernel), rfl⟩
theorem dL_law_389 : Dc mL_law 389 (.iload 4) 2 391 := ⟨zo_21 (by decide +kernel), rfl⟩
theorem dL_law_391 : Dc mL_law 391 (.iconst 1) 1 392 := ⟨zo_4 (by decide +kernel), rfl⟩
theorem dL_law_392 : Dc mL_law 392 (.iadd) 1 393 := ⟨zo_96 (by decide +kernel), rfl⟩
theorem dL_law_393 : Dc mL_law 393 (.iaload) 1 394 := ⟨zo_46 (by decide +kernel), rfl⟩
theorem dL_law_394 : Dc mL_law 394 (.aload_n 0) 1 395 := ⟨zo_42 (by decide +kernel), rfl⟩
theorem dL_law_395 : Dc mL_law 395 (.iload 4) 2 397 := ⟨zo_21 (by decide +kernel), rfl⟩
theorem dL_law_397 : Dc mL_law 397 (.iconst 2) 1 398 := ⟨zo_5 (by decide +kernel), rfl⟩
theorem dL_law_398 : Dc mL_law 398 (.iadd) 1 399 := ⟨zo_96 (by decide +kernel), rfl⟩
theorem dL_law_399 : Dc mL_law 399 (.iaload) 1 400 := ⟨zo_46 (by decide +kernel), rfl⟩
theorem dL_law_400 : Dc mL_law 400 (.invokevirtual 44) 3 403 := ⟨zo_182 (w := 0) (x := 44) (by decide +kernel), rfl⟩
theorem dL_law_403 : Dc mL_law 403 (.istore 6) 2 405 := ⟨zo_54 (by decide +kernel), rfl⟩
theorem dL_law_405 : Dc mL_law 405 (.goto 976) 3 408 := ⟨zo_167 (w := 3) (x := 208) (by decide +kernel), rfl⟩
theorem dL_law_408 : Dc mL_law 408 (.aload_n 1) 1 409 := ⟨zo_43 (by decide +kernel), rfl⟩
theorem dL_law_409 : Dc mL_law 409 (.aload_n 0) 1 410 := ⟨zo_42 (by decide +kernel), rfl⟩
theorem dL_law_410 : Dc mL_law 410 (.iload 4) 2 412 := ⟨zo_21 (by decide +kernel), rfl⟩
theorem dL_law_412 : Dc mL_law 412 (.iconst 1) 1 413 := ⟨zo_4 (by decide +kernel), rfl⟩
theorem dL_law_413 : Dc mL_law 413 (.iadd) 1 414 := ⟨zo_96 (by decide +kernel), rfl⟩
theorem dL_law_414 : Dc mL_law 414 (.iaload) 1 415 := ⟨zo_46 (by decide +kernel), rfl⟩
theorem dL_law_415 : Dc mL_law 415 (.aload_n 0) 1 416 := ⟨zo_42 (by decide +kernel), rfl⟩
theorem dL_law_416 : Dc mL_law 416 (.iload 4) 2 418 := ⟨zo_21 (by decide +kernel), rfl⟩
theorem dL_law_418 : Dc mL_law 418 (.iconst 2) 1 419 := ⟨zo_5 (by decide +kernel), rfl⟩
theorem dL_law_419 : Dc mL_law 419 (.iadd) 1 420 := ⟨zo_96 (by decide +kernel), rfl⟩
theorem dL_law_420 : Dc mL_law 420 (.iaload) 1 421 := ⟨zo_46 (by decide +kernel), rfl⟩
theorem dL_law_421 : Dc mL_law 421 (.invokevirtual 45) 3 424 := ⟨zo_182 (w := 0) (x := 45) (by decide +kernel), rfl⟩
theorem dL_law_424 : Dc mL_law 424 (.pop) 1 425 := ⟨zo_87 (by decide +kernel), rfl⟩
theorem dL_law_425 : Dc mL_law 425 (.aload_n 2) 1 426 := ⟨zo_44 (by decide +kernel), rfl⟩
theorem dL_law_426 : Dc mL_law 426 (.aload_n 0) 1 427 := ⟨zo_42 (by decide +kernel), rfl⟩
theorem dL_law_427 : Dc mL_law 427 (.iload 4) 2 429 := ⟨zo_21 (by decide +kernel), rfl⟩
theorem dL_law_429 : Dc mL_law 429 (.iconst 1) 1 430 := ⟨zo_4 (by decide +kernel), rfl⟩
theorem dL_law_430 : Dc mL_law 430 (.iadd) 1 431 := ⟨zo_96 (by decide +kernel), rfl⟩
theorem dL_law_431 : Dc mL_law 431 (.iaload) 1 432 := ⟨zo_46 (by decide +kernel), rfl⟩
theorem dL_law_432 : Dc mL_law 432 (.aload_n 0) 1 433 := ⟨zo_42 (by decide +kernel), rfl⟩
theorem dL_law_433 : Dc mL_law 433 (.iload 4) 2 435 := ⟨zo_21 (by decide +kernel), rfl⟩
theorem dL_law_435 : Dc mL_law 435 (.iconst 2) 1 436 := ⟨zo_5 (by decide +kernel), rfl⟩
theorem dL_law_436 : Dc mL_law 436 (.iadd) 1 437 := ⟨zo_96 (by decide +kernel), rfl⟩
theorem dL_law_437 : Dc mL_law 437 (.iaload) 1 438 := ⟨zo_46 (by decide +kernel), rfl⟩
theorem dL_law_438 : Dc mL_law 438 (.invokevirtual 48) 3 441 := ⟨zo_182 (w := 0) (x := 48) (by decide +kernel), rfl⟩
theorem dL_law_441 : Dc mL_law 441 (.pop) 1 442 := ⟨zo_87 (by decide +kernel), rfl⟩
theorem dL_law_442 : Dc mL_law 442 (.goto 939) 3 445 := ⟨zo_167 (w := 3) (x := 171) (by decide +kernel), rfl⟩
theorem dL_law_445 : Dc mL_law 445 (.aload_n 1) 1 446 := ⟨zo_43 (by decide +kernel), rfl⟩
theorem dL_law_446 : Dc mL_law 446 (.aload_n 0) 1 447 := ⟨zo_42 (by decide +kernel), rfl⟩
theorem dL_law_447 : Dc mL_law 447 (.iload 4) 2 449 := ⟨zo_21 (by decide +kernel), rfl⟩
theorem dL_law_449 : Dc mL_law 449 (.iconst 1) 1 450 := ⟨zo_4 (by decide +kernel), rfl⟩
theorem dL_law_450 : Dc mL_law 450 (.iadd) 1 451 := ⟨zo_96 (by decide +kernel), rfl⟩
theorem dL_law_451 : Dc mL_law 451 (.iaload) 1 452 := ⟨zo_46 (by decide +kernel), rfl⟩
theorem dL_law_452 : Dc mL_law 452 (.aload_n 0) 1 453 := ⟨zo_42 (by decide +kernel), rfl⟩
theorem dL_law_453 : Dc mL_law 453 (.iload 4) 2 455 := ⟨zo_21 (by decide +kernel), rfl⟩
theorem dL_law_455 : Dc mL_law 455 (.iconst 2) 1 456 := ⟨zo_5 (by decide +kernel), rfl⟩
theorem dL_law_456 : Dc mL_law 456 (.iadd) 1 457 := ⟨zo_96 (by decide +kernel), rfl⟩
theorem dL_law_457 : Dc mL_law 457 (.iaload) 1 458 := ⟨zo_46 (by decide +kernel), rfl⟩
theorem dL_law_458 : Dc mL_law 458 (.invokevirtual 49) 3 461 := ⟨zo_182 (w := 0) (x := 49) (by decide +kernel), rfl⟩
theorem dL_law_461 : Dc mL_law 461 (.pop) 1 462 := ⟨zo_87 (by decide +kernel), rfl⟩
theorem dL_law_462 : Dc mL_law 462 (.aload_n 2) 1 463 := ⟨zo_44 (by decide +kernel), rfl⟩
theorem dL_law_463 : Dc mL_law 463 (.aload_n 0) 1 464 := ⟨zo_42 (by decide +kernel), rfl⟩
theorem dL_law_464 : Dc mL_law 464 (.iload 4) 2 466 := ⟨zo_21 (by decide +kernel), rfl⟩
theorem dL_law_466 : Dc mL_law 466 (.iconst 1) 1 467 := ⟨zo_4 (by decide +kernel), rfl⟩
theorem dL_law_467 : Dc mL_law 467 (.iadd) 1 468 := ⟨zo_96 (by decide +kernel), rfl⟩
theorem dL_law_468 : Dc mL_law 468 (.iaload) 1 469 := ⟨zo_46 (by decide +kernel), rfl⟩
theorem dL_law_469 : Dc mL_law 469 (.aload_n 0) 1 470 := ⟨zo_42 (by decide +kernel), rfl⟩
theorem dL_law_470 : Dc mL_law 470 (.iload 4) 2 472 := ⟨zo_21 (by decide +kernel), rfl⟩
theorem dL_law_472 : Dc mL_law 472 (.iconst 2) 1 473 := ⟨zo_5 (by decide +kernel), rfl⟩
theorem dL_law_473 : Dc mL_law 473 (.iadd) 1 474 := ⟨zo_96 (by decide +kernel), rfl⟩
theorem dL_law_474 : Dc mL_law 474 (.iaload) 1 475 := ⟨zo_46 (by decide +kernel), rfl⟩
theorem dL_law_475 : Dc mL_law 475 (.invokevirtual 52) 3 478 := ⟨zo_182 (w := 0) (x := 52) (by decide +kernel), rfl⟩
theorem dL_law_478 : Dc mL_law 478 (.pop) 1 479 := ⟨zo_87 (by decide +kernel), rfl⟩
theorem dL_law_479 : Dc mL_law 479 (.goto 902) 3 482 := ⟨zo_167 (w := 3) (x := 134) (by decide +kernel), rfl⟩
theorem dL_law_482 : Dc mL_law 482 (.aload_n 1) 1 483 := ⟨zo_43 (by decide +kernel), rfl⟩
theorem dL_law_483 : Dc mL_law 483 (.aload_n 0) 1 484 := ⟨zo_42 (by decide +kernel), rfl⟩
theorem dL_law_484 : Dc mL_law 484 (.iload 4) 2 486 := ⟨zo_21 (by decide +kernel), rfl⟩
theorem dL_law_486 : Dc mL_law 486 (.iconst 1) 1 487 := ⟨zo_4 (by decide +kernel), rfl⟩
theorem dL_law_487 : Dc mL_law 487 (.iadd) 1 488 := ⟨zo_96 (by decide +kernel), rfl⟩
theorem dL_law_488 : Dc mL_law 488 (.iaload) 1 489 := ⟨zo_46 (by decide +kernel), rfl⟩
theorem dL_law_489 : Dc mL_law 489 (.aload_n 0) 1 490 := ⟨zo_42 (by decide +kernel), rfl⟩
theorem dL_law_490 : Dc mL_law 490 (.iload 4) 2 492 := ⟨zo_21 (by decide +kernel), rfl⟩
theorem dL_law_492 : Dc mL_law 492 (.iconst 2) 1 493 := ⟨zo_5 (by decide +kernel), rfl⟩
theorem dL_law_493 : Dc mL_law 493 (.iadd) 1 494 := ⟨zo_96 (by decide +kernel), rfl⟩
theorem dL_law_494 : Dc mL_law 494 (.iaload) 1 495 := ⟨zo_46 (by decide +kernel), rfl⟩
theorem dL_law_495 : Dc mL_law 495 (.invokevirtual 53) 3 498 := ⟨zo_182 (w := 0) (x := 53) (by decide +kernel), rfl⟩
theorem dL_law_498 : Dc mL_law 498 (.pop) 1 499 := ⟨zo_87 (by decide +kernel), rfl⟩
theorem dL_law_499 : Dc mL_law 499 (.aload_n 2) 1 500 := ⟨zo_44 (by decide +kernel), rfl⟩
theorem dL_law_500 : Dc mL_law 500 (.aload_n 0) 1 501 := ⟨zo_42 (by decide +kernel), rfl⟩
theorem dL_law_501 : Dc mL_law 501 (.iload 4) 2 503 := ⟨zo_21 (by decide +kernel), rfl⟩
theorem dL_law_503 : Dc mL_law 503 (.iconst 1) 1 504 := ⟨zo_4 (by decide +kernel), rfl⟩
theorem dL_law_504 : Dc mL_law 504 (.iadd) 1 505 := ⟨zo_96 (by decide +kernel), rfl⟩
theorem dL_law_505 : Dc mL_law 505 (.iaload) 1 506 := ⟨zo_46 (by decide +kernel), rfl⟩
theorem dL_law_506 : Dc mL_law 506 (.aload_n 0) 1 507 := ⟨zo_42 (by decide +kernel), rfl⟩
theorem dL_law_507 : Dc mL_law 507 (.iload 4) 2 509 := ⟨zo_21 (by decide +kernel), rfl⟩
theorem dL_law_509 : Dc mL_law 509 (.iconst 2) 1 510 := ⟨zo_5 (by decide +kernel), rfl⟩
theorem dL_law_510 : Dc mL_law 510 (.iadd) 1 511 := ⟨zo_96 (by decide +kernel), rfl⟩
theorem dL_law_511 : Dc mL_law 511 (.iaload) 1 512 := ⟨zo_46 (by decide +kernel), rfl⟩
theorem dL_law_512 : Dc mL_law 512 (.invokevirtual 56) 3 515 := ⟨zo_182 (w := 0) (x := 56) (by decide +kernel), rfl⟩
theorem dL_law_515 : Dc mL_law 515 (.pop) 1 516 := ⟨zo_87 (by decide +kernel), rfl⟩
theorem dL_law_516 : Dc mL_law 516 (.goto 865) 3 519 := ⟨zo_167 (w := 3) (x := 97) (by decide +kernel), rfl⟩
theorem dL_law_519 : Dc mL_law 519 (.aload_n 1) 1 520 := ⟨zo_43 (by decide +kernel), rfl⟩
theorem dL_law_520 : Dc mL_law 520 (.aload_n 0) 1 521 := ⟨zo_42 (by decide +kernel), rfl⟩
theorem dL_law_521 : Dc mL_law 521 (.iload 4) 2 523 := ⟨zo_21 (by decide +kernel), rfl⟩
theorem dL_law_523 : Dc mL_law 523 (.iconst 1) 1 524 := ⟨zo_4 (by decide +kernel), rfl⟩
theorem dL_law_524 : Dc mL_law 524 (.iadd) 1 525 := ⟨zo_96 (by decide +kernel), rfl⟩
theorem dL_law_525 : Dc mL_law 525 (.iaload) 1 526 := ⟨zo_46 (by decide +kernel), rfl⟩
theorem dL_law_526 : Dc mL_law 526 (.invokevirtual 57) 3 529 := ⟨zo_182 (w := 0) (x := 57) (by decide +kernel), rfl⟩
theorem dL_law_529 : Dc mL_law 529 (.pop) 1 530 := ⟨zo_87 (by decide +kernel), rfl⟩
theorem dL_law_530 : Dc mL_law 530 (.aload_n 2) 1 531 := ⟨zo_44 (by decide +kernel), rfl⟩
theorem dL_law_531 : Dc mL_law 531 (.aload_n 0) 1 532 := ⟨zo_42 (by decide +kernel), rfl⟩
theorem dL_law_532 : Dc mL_law 532 (.iload 4) 2 534 := ⟨zo_21 (by decide +kernel), rfl⟩
theorem dL_law_534 : Dc mL_law 534 (.iconst 1) 1 535 := ⟨zo_4 (by decide +kernel), rfl⟩
theorem dL_law_535 : Dc mL_law 535 (.iadd) 1 536 := ⟨zo_96 (by decide +kernel), rfl⟩
theorem dL_law_536 : Dc mL_law 536 (.iaload) 1 537 := ⟨zo_46 (by decide +kernel), rfl⟩
theorem dL_law_537 : Dc mL_law 537 (.invokevirtual 60) 3 540 := ⟨zo_182 (w := 0) (x := 60) (by decide +kernel), rfl⟩
theorem dL_law_540 : Dc mL_law 540 (.pop) 1 541 := ⟨zo_87 (by decide +kernel), rfl⟩
theorem dL_law_541 : Dc mL_law 541 (.goto 840) 3 544 := ⟨zo_167 (w := 3) (x := 72) (by decide +kernel), rfl⟩
theorem dL_law_544 : Dc mL_law 544 (.aload_n 1) 1 545 := ⟨zo_43 (by decide +kernel), rfl⟩
theorem dL_law_545 : Dc mL_law 545 (.aload_n 0) 1 546 := ⟨zo_42 (by decide +kernel), rfl⟩
theorem dL_law_546 : Dc mL_law 546 (.iload 4) 2 548 := ⟨zo_21 (by decide +kernel), rfl⟩
theorem dL_law_548 : Dc mL_law 548 (.iconst 1) 1 549 := ⟨zo_4 (by decide +kernel), rfl⟩
theorem dL_law_549 : Dc mL_law 549 (.iadd) 1 550 := ⟨zo_96 (by decide +kernel), rfl⟩
theorem dL_law_550 : Dc mL_law 550 (.iaload) 1 551 := ⟨zo_46 (by decide +kernel), rfl⟩
theorem dL_law_551 : Dc mL_law 551 (.aload_n 0) 1 552 := ⟨zo_42 (by decide +kernel), rfl⟩
theorem dL_law_552 : Dc mL_law 552 (.iload 4) 2 554 := ⟨zo_21 (by decide +kernel), rfl⟩
theorem dL_law_554 : Dc mL_law 554 (.iconst 2) 1 555 := ⟨zo_5 (by decide +kernel), rfl⟩
theorem dL_law_555 : Dc mL_law 555 (.iadd) 1 556 := ⟨zo_96 (by decide +kernel), rfl⟩
theorem dL_law_556 : Dc mL_law 556 (.iaload) 1 557 := ⟨zo_46 (by decide +kernel), rfl⟩
theorem dL_law_557 : Dc mL_law 557 (.aload_n 0) 1 558 := ⟨zo_42 (by decide +kernel), rfl⟩
theorem dL_law_558 : Dc mL_law 558 (.iload 4) 2 560 := ⟨zo_21 (by decide +kernel), rfl⟩
theorem dL_law_560 : Dc mL_law 560 (.iconst 3) 1 561 := ⟨zo_6 (by decide +kernel), rfl⟩
theorem dL_law_561 : Dc mL_law 561 (.iadd) 1 562 := ⟨zo_96 (by decide +kernel), rfl⟩
theorem dL_law_562 : Dc mL_law 562 (.iaload) 1 563 := ⟨zo_46 (by decide +kernel), rfl⟩
theorem dL_law_563 : Dc mL_law 563 (.invokevirtual 61) 3 566 := ⟨zo_182 (w := 0) (x := 61) (by decide +kernel), rfl⟩
theorem dL_law_566 : Dc mL_law 566 (.pop2) 1 567 := ⟨by decide +kernel, rfl⟩
theorem dL_law_567 : Dc mL_law 567 (.aload_n 2) 1 568 := ⟨zo_44 (by decide +kernel), rfl⟩
theorem dL_law_568 : Dc mL_law 568 (.aload_n 0) 1 569 := ⟨zo_42 (by decide +kernel), rfl⟩
theorem dL_law_569 : Dc mL_law 569 (.iload 4) 2 571 := ⟨zo_21 (by decide +kernel), rfl⟩
theorem dL_law_571 : Dc mL_law 571 (.iconst 1) 1 572 := ⟨zo_4 (by decide +kernel), rfl⟩
theorem dL_law_572 : Dc mL_law 572 (.iadd) 1 573 := ⟨zo_96 (by decide +kernel), rfl⟩
theorem dL_law_573 : Dc mL_law 573 (.iaload) 1 574 := ⟨zo_46 (by decide +kernel), rfl⟩
theorem dL_law_574 : Dc mL_law 574 (.aload_n 0) 1 575 := ⟨zo_42 (by decide +kernel), rfl⟩
theorem dL_law_575 : Dc mL_law 575 (.iload 4) 2 577 := ⟨zo_21 (by decide +kernel), rfl⟩
theorem dL_law_577 : Dc mL_law 577 (.iconst 2) 1 578 := ⟨zo_5 (by decide +kernel), rfl⟩
theorem dL_law_578 : Dc mL_law 578 (.iadd) 1 579 := ⟨zo_96 (by decide +kernel), rfl⟩
theorem dL_law_579 : Dc mL_law 579 (.iaload) 1 580 := ⟨zo_46 (by decide +kernel), rfl⟩
theorem dL_law_580 : Dc mL_law 580 (.aload_n 0) 1 581 := ⟨zo_42 (by decide +kernel), rfl⟩
theorem dL_law_581 : Dc mL_law 581 (.iload 4) 2 583 := ⟨zo_21 (by decide +kernel), rfl⟩
theorem dL_law_583 : Dc mL_law 583 (.iconst 3) 1 584 := ⟨zo_6 (by decide +kernel), rfl⟩
theorem dL_law_584 : Dc mL_law 584 (.iadd) 1 585 := ⟨zo_96 (by decide +kernel), rfl⟩
theorem dL_law_585 : Dc mL_law 585 (.iaload) 1 586 := ⟨zo_46 (by decide +kernel), rfl⟩
theorem dL_law_586 : Dc mL_law 586 (.invokevirtual 65) 3 589 := ⟨zo_182 (w := 0) (x := 65) (by decide +kernel), rfl⟩
theorem dL_law_589 : Dc mL_law 589 (.pop2) 1 590 := ⟨by decide +kernel, rfl⟩
theorem dL_law_590 : Dc mL_law 590 (.goto 791) 3 593 := ⟨zo_167 (w := 3) (x := 23) (by decide +kernel), rfl⟩
theorem dL_law_593 : Dc mL_law 593 (.aload_n 1) 1 594 := ⟨zo_43 (by decide +kernel), rfl⟩
theorem dL_law_594 : Dc mL_law 594 (.aload_n 0) 1 595 := ⟨zo_42 (by decide +kernel), rfl⟩
theorem dL_law_595 : Dc mL_law 595 (.iload 4) 2 597 := ⟨zo_21 (by decide +kernel), rfl⟩
theorem dL_law_597 : Dc mL_law 597 (.iconst 1) 1 598 := ⟨zo_4 (by decide +kernel), rfl⟩
theorem dL_law_598 : Dc mL_law 598 (.iadd) 1 599 := ⟨zo_96 (by decide +kernel), rfl⟩
theorem dL_law_599 : Dc mL_law 599 (.iaload) 1 600 := ⟨zo_46 (by decide +kernel), rfl⟩
theorem dL_law_600 : Dc mL_law 600 (.aload_n 0) 1 601 := ⟨zo_42 (by decide +kernel), rfl⟩
theorem dL_law_601 : Dc mL_law 601 (.iload 4) 2 603 := ⟨zo_21 (by decide +kernel), rfl⟩
theorem dL_law_603 : Dc mL_law 603 (.iconst 2) 1 604 := ⟨zo_5 (by decide +kernel), rfl⟩
theorem dL_law_604 : Dc mL_law 604 (.iadd) 1 605 := ⟨zo_96 (by decide +kernel), rfl⟩
theorem dL_law_605 : Dc mL_law 605 (.iaload) 1 606 := ⟨zo_46 (by decide +kernel), rfl⟩
theorem dL_law_606 : Dc mL_law 606 (.invokevirtual 66) 3 609 := ⟨zo_182 (w := 0) (x := 66) (by decide +kernel), rfl⟩
theorem dL_law_609 : Dc mL_law 609 (.pop) 1 610 := ⟨zo_87 (by decide +kernel), rfl⟩
theorem dL_law_610 : Dc mL_law 610 (.aload_n 2) 1 611 := ⟨zo_44 (by decide +kernel), rfl⟩
theorem dL_law_611 : Dc mL_law 611 (.aload_n 0) 1 612 := ⟨zo_42 (by decide +kernel), rfl⟩
theorem dL_law_612 : Dc mL_law 612 (.iload 4) 2 614 := ⟨zo_21 (by decide +kernel), rfl⟩
theorem dL_law_614 : Dc mL_law 614 (.iconst 1) 1 615 := ⟨zo_4 (by decide +kernel), rfl⟩
theorem dL_law_615 : Dc mL_law 615 (.iadd) 1 616 := ⟨zo_96 (by decide +kernel), rfl⟩
theorem dL_law_616 : Dc mL_law 616 (.iaload) 1 617 := ⟨zo_46 (by decide +kernel), rfl⟩
theorem dL_law_617 : Dc mL_law 617 (.aload_n 0) 1 618 := ⟨zo_42 (by decide +kernel), rfl⟩
theorem dL_law_618 : Dc mL_law 618 (.iload 4) 2 620 := ⟨zo_21 (by decide +kernel), rfl⟩
theorem dL_law_620 : Dc mL_law 620 (.iconst 2) 1 621 := ⟨zo_5 (by decide +kernel), rfl⟩
theorem dL_law_621 : Dc mL_law 621 (.iadd) 1 622 := ⟨zo_96 (by decide +kernel), rfl⟩
theorem dL_law_622 : Dc mL_law 622 (.iaload) 1 623 := ⟨zo_46 (by decide +kernel), rfl⟩
theorem dL_law_623 : Dc mL_law 623 (.invokevirtual 69) 3 626 := ⟨zo_182 (w := 0) (x := 69) (by decide +kernel), rfl⟩
theorem dL_law_626 : Dc mL_law 626 (.pop) 1 627 := ⟨zo_87 (by decide +kernel), rfl⟩
theorem dL_law_627 : Dc mL_law 627 (.goto 754) 3 630 := ⟨zo_167 (w := 2) (x := 242) (by decide +kernel), rfl⟩
theorem dL_law_630 : Dc mL_law 630 (.aload_n 1) 1 631 := ⟨zo_43 (by decide +kernel), rfl⟩
theorem dL_law_631 : Dc mL_law 631 (.aload_n 0) 1 632 := ⟨zo_42 (by decide +kernel), rfl⟩
theorem dL_law_632 : Dc mL_law 632 (.iload 4) 2 634 := ⟨zo_21 (by decide +kernel), rfl⟩
theorem dL_law_634 : Dc mL_law 634 (.iconst 1) 1 635 := ⟨zo_4 (by decide +kernel), rfl⟩
theorem dL_law_635 : Dc mL_law 635 (.iadd) 1 636 := ⟨zo_96 (by decide +kernel), rfl⟩
theorem dL_law_636 : Dc mL_law 636 (.iaload) 1 637 := ⟨zo_46 (by decide +kernel), rfl⟩
theorem dL_law_637 : Dc mL_law 637 (.aload_n 0) 1 638 := ⟨zo_42 (by decide +kernel), rfl⟩
theorem dL_law_638 : Dc mL_law 638 (.iload 4) 2 640 := ⟨zo_21 (by decide +kernel), rfl⟩
theorem dL_law_640 : Dc mL_law 640 (.iconst 2) 1 641 := ⟨zo_5 (by decide +kernel), rfl⟩
theorem dL_law_641 : Dc mL_law 641 (.iadd) 1 642 := ⟨zo_96 (by decide +kernel), rfl⟩
theorem dL_law_642 : Dc mL_law 642 (.iaload) 1 643 := ⟨zo_46 (by decide +kernel), rfl⟩
theorem dL_law_643 : Dc mL_law 643 (.invokevirtual 70) 3 646 := ⟨zo_182 (w := 0) (x := 70) (by decide +kernel), rfl⟩
theorem dL_law_646 : Dc mL_law 646 (.pop) 1 647 := ⟨zo_87 (by decide +kernel), rfl⟩
theorem dL_law_647 : Dc mL_law 647 (.aload_n 2) 1 648 := ⟨zo_44 (by decide +kernel), rfl⟩
theorem dL_law_648 : Dc mL_law 648 (.aload_n 0) 1 649 := ⟨zo_42 (by decide +kernel), rfl⟩
theorem dL_law_649 : Dc mL_law 649 (.iload 4) 2 651 := ⟨zo_21 (by decide +kernel), rfl⟩
theorem dL_law_651 : Dc mL_law 651 (.iconst 1) 1 652 := ⟨zo_4 (by decide +kernel), rfl⟩
theorem dL_law_652 : Dc mL_law 652 (.iadd) 1 653 := ⟨zo_96 (by decide +kernel), rfl⟩
theorem dL_law_653 : Dc mL_law 653 (.iaload) 1 654 := ⟨zo_46 (by decide +kernel), rfl⟩
theorem dL_law_654 : Dc mL_law 654 (.aload_n 0) 1 655 := ⟨zo_42 (by decide +kernel), rfl⟩
theorem dL_law_655 : Dc mL_law 655 (.iload 4) 2 657 := ⟨zo_21 (by decide +kernel), rfl⟩
theorem dL_law_657 : Dc mL_law 657 (.iconst 2) 1 658 := ⟨zo_5 (by decide +kernel), rfl⟩
theorem dL_law_658 : Dc mL_law 658 (.iadd) 1 659 := ⟨zo_96 (by decide +kernel), rfl⟩
theorem dL_law_659 : Dc mL_law 659 (.iaload) 1 660 := ⟨zo_46 (by decide +kernel), rfl⟩
theorem dL_law_660 : Dc mL_law 660 (.invokevirtual 74) 3 663 := ⟨zo_182 (w := 0) (x := 74) (by decide +kernel), rfl⟩
theorem dL_law_663 : Dc mL_law 663 (.pop) 1 664 := ⟨zo_87 (by decide +kernel), rfl⟩
theorem dL_law_664 : Dc mL_law 664 (.goto 717) 3 667 := ⟨zo_167 (w := 2) (x := 205) (by decide +kernel), rfl⟩
theorem dL_law_667 : Dc mL_law 667 (.aload_n 1) 1 668 := ⟨zo_43 (by decide +kernel), rfl⟩
theorem dL_law_668 : Dc mL_law 668 (.aload_n 0) 1 669 := ⟨zo_42 (by decide +kernel), rfl⟩
theorem dL_law_669 : Dc mL_law 669 (.iload 4) 2 671 := ⟨zo_21 (by decide +kernel), rfl⟩
theorem dL_law_671 : Dc mL_law 671 (.iconst 1) 1 672 := ⟨zo_4 (by decide +kernel), rfl⟩
theorem dL_law_672 : Dc mL_law 672 (.iadd) 1 673 := ⟨zo_96 (by decide +kernel), rfl⟩
theorem dL_law_673 : Dc mL_law 673 (.iaload) 1 674 := ⟨zo_46 (by decide +kernel), rfl⟩
theorem dL_law_674 : Dc mL_law 674 (.aload_n 0) 1 675 := ⟨zo_42 (by decide +kernel), rfl⟩
theorem dL_law_675 : Dc mL_law 675 (.iload 4) 2 677 := ⟨zo_21 (by decide +kernel), rfl⟩
theorem dL_law_677 : Dc mL_law 677 (.iconst 2) 1 678 := ⟨zo_5 (by decide +kernel), rfl⟩
theorem dL_law_678 : Dc mL_law 678 (.iadd) 1 679 := ⟨zo_96 (by decide +kernel), rfl⟩
theorem dL_law_679 : Dc mL_law 679 (.iaload) 1 680 := ⟨zo_46 (by decide +kernel), rfl⟩
theorem dL_law_680 : Dc mL_law 680 (.invokevirtual 75) 3 683 := ⟨zo_182 (w := 0) (x := 75) (by decide +kernel), rfl⟩
theorem dL_law_683 : Dc mL_law 683 (.pop) 1 684 := ⟨zo_87 (by decide +kernel), rfl⟩
theorem dL_law_684 : Dc mL_law 684 (.aload_n 2) 1 685 := ⟨zo_44 (by decide +kernel), rfl⟩
theorem dL_law_685 : Dc mL_law 685 (.aload_n 0) 1 686 := ⟨zo_42 (by decide +kernel), rfl⟩
theorem dL_law_686 : Dc mL_law 686 (.iload 4) 2 688 := ⟨zo_21 (by decide +kernel), rfl⟩
theorem dL_law_688 : Dc mL_law 688 (.iconst 1) 1 689 := ⟨zo_4 (by decide +kernel), rfl⟩
theorem dL_law_689 : Dc mL_law 689 (.iadd) 1 690 := ⟨zo_96 (by decide +kernel), rfl⟩
theorem dL_law_690 : Dc mL_law 690 (.iaload) 1 691 := ⟨zo_46 (by decide +kernel), rfl⟩
theorem dL_law_691 : Dc mL_law 691 (.aload_n 0) 1 692 := ⟨zo_42 (by decide +kernel), rfl⟩
theorem dL_law_692 : Dc mL_law 692 (.iload 4) 2 694 := ⟨zo_21 (by decide +kernel), rfl⟩
theorem dL_law_694 : Dc mL_law 694 (.iconst 2) 1 695 := ⟨zo_5 (by decide +kernel), rfl⟩
theorem dL_law_695 : Dc mL_law 695 (.iadd) 1 696 := ⟨zo_96 (by decide +kernel), rfl⟩
theorem dL_law_696 : Dc mL_law 696 (.iaload) 1 697 := ⟨zo_46 (by decide +kernel), rfl⟩
theorem dL_law_697 : Dc mL_law 697 (.invokevirtual 78) 3 700 := ⟨zo_182 (w := 0) (x := 78) (by decide +kernel), rfl⟩
theorem dL_law_700 : Dc mL_law 700 (.pop) 1 701 := ⟨zo_87 (by decide +kernel), rfl⟩
theorem dL_law_701 : Dc mL_law 701 (.goto 680) 3 704 := ⟨zo_167 (w := 2) (x := 168) (by decide +kernel), rfl⟩
theorem dL_law_704 : Dc mL_law 704 (.aload_n 1) 1 705 := ⟨zo_43 (by decide +kernel), rfl⟩
theorem dL_law_705 : Dc mL_law 705 (.aload_n 0) 1 706 := ⟨zo_42 (by decide +kernel), rfl⟩
theorem dL_law_706 : Dc mL_law 706 (.iload 4) 2 708 := ⟨zo_21 (by decide +kernel), rfl⟩
theorem dL_law_708 : Dc mL_law 708 (.iconst 1) 1 709 := ⟨zo_4 (by decide +kernel), rfl⟩
theorem dL_law_709 : Dc mL_law 709 (.iadd) 1 710 := ⟨zo_96 (by decide +kernel), rfl⟩
theorem dL_law_710 : Dc mL_law 710 (.iaload) 1 711 := ⟨zo_46 (by decide +kernel), rfl⟩
theorem dL_law_711 : Dc mL_law 711 (.invokevirtual 79) 3 714 := ⟨zo_182 (w := 0) (x := 79) (by decide +kernel), rfl⟩
theorem dL_law_714 : Dc mL_law 714 (.pop) 1 715 := ⟨zo_87 (by decide +kernel), rfl⟩
theorem dL_law_715 : Dc mL_law 715 (.aload_n 2) 1 716 := ⟨zo_44 (by decide +kernel), rfl⟩
theorem dL_law_716 : Dc mL_law 716 (.aload_n 0) 1 717 := ⟨zo_42 (by decide +kernel), rfl⟩
theorem dL_law_717 : Dc mL_law 717 (.iload 4) 2 719 := ⟨zo_21 (by decide +kernel), rfl⟩
theorem dL_law_719 : Dc mL_law 719 (.iconst 1) 1 720 := ⟨zo_4 (by decide +kernel), rfl⟩
theorem dL_law_720 : Dc mL_law 720 (.iadd) 1 721 := ⟨zo_96 (by decide +kernel), rfl⟩
theorem dL_law_721 : Dc mL_law 721 (.iaload) 1 722 := ⟨zo_46 (by decide +kernel), rfl⟩
theorem dL_law_722 : Dc mL_law 722 (.invokevirtual 83) 3 725 := ⟨zo_182 (w := 0) (x := 83) (by decide +kernel), rfl⟩
theorem dL_law_725 : Dc mL_law 725 (.pop) 1 726 := ⟨zo_87 (by decide +kernel), rfl⟩
theorem dL_law_726 : Dc mL_law 726 (.goto 655) 3 729 := ⟨zo_167 (w := 2) (x := 143) (by decide +kernel), rfl⟩
theorem dL_law_729 : Dc mL_law 729 (.aload_n 1) 1 730 := ⟨zo_43 (by decide +kernel), rfl⟩
theorem dL_law_730 : Dc mL_law 730 (.aload_n 0) 1 731 := ⟨zo_42 (by decide +kernel), rfl⟩
theorem dL_law_731 : Dc mL_law 731 (.iload 4) 2 733 := ⟨zo_21 (by decide +kernel), rfl⟩
theorem dL_law_733 : Dc mL_law 733 (.iconst 1) 1 734 := ⟨zo_4 (by decide +kernel), rfl⟩
theorem dL_law_734 : Dc mL_law 734 (.iadd) 1 735 := ⟨zo_96 (by decide +kernel), rfl⟩
theorem dL_law_735 : Dc mL_law 735 (.iaload) 1 736 := ⟨zo_46 (by decide +kernel), rfl⟩
theorem dL_law_736 : Dc mL_law 736 (.invokevirtual 84) 3 739 := ⟨zo_182 (w := 0) (x := 84) (by decide +kernel), rfl⟩
theorem dL_law_739 : Dc mL_law 739 (.pop) 1 740 := ⟨zo_87 (by decide +kernel), rfl⟩
theorem dL_law_740 : Dc mL_law 740 (.aload_n 2) 1 741 := ⟨zo_44 (by decide +kernel), rfl⟩
theorem dL_law_741 : Dc mL_law 741 (.aload_n 0) 1 742 := ⟨zo_42 (by decide +kernel), rfl⟩
theorem dL_law_742 : Dc mL_law 742 (.iload 4) 2 744 := ⟨zo_21 (by decide +kernel), rfl⟩
theorem dL_law_744 : Dc mL_law 744 (.iconst 1) 1 745 := ⟨zo_4 (by decide +kernel), rfl⟩
theorem dL_law_745 : Dc mL_law 745 (.iadd) 1 746 := ⟨zo_96 (by decide +kernel), rfl⟩
theorem dL_law_746 : Dc mL_law 746 (.iaload) 1 747 := ⟨zo_46 (by decide +kernel), rfl⟩
theorem dL_law_747 : Dc mL_law 747 (.invokevirtual 87) 3 750 := ⟨zo_182 (w := 0) (x := 87) (by decide +kernel), rfl⟩
theorem dL_law_750 : Dc mL_law 750 (.pop) 1 751 := ⟨zo_87 (by decide +kernel), rfl⟩
theorem dL_law_751 : Dc mL_law 751 (.goto 630) 3 754 := ⟨zo_167 (w := 2) (x := 118) (by decide +kernel), rfl⟩
theorem dL_law_754 : Dc mL_law 754 (.aload_n 1) 1 755 := ⟨zo_43 (by decide +kernel), rfl⟩
theorem dL_law_755 : Dc mL_law 755 (.aload_n 0) 1 756 := ⟨zo_42 (by decide +kernel), rfl⟩
theorem dL_law_756 : Dc mL_law 756 (.iload 4) 2 758 := ⟨zo_21 (by decide +kernel), rfl⟩
theorem dL_law_758 : Dc mL_law 758 (.iconst 1) 1 759 := ⟨zo_4 (by decide +kernel), rfl⟩
theorem dL_law_759 : Dc mL_law 759 (.iadd) 1 760 := ⟨zo_96 (by decide +kernel), rfl⟩
theorem dL_law_760 : Dc mL_law 760 (.iaload) 1 761 := ⟨zo_46 (by decide +kernel), rfl⟩
theorem dL_law_761 : Dc mL_law 761 (.aload_n 0) 1 762 := ⟨zo_42 (by decide +kernel), rfl⟩
theorem dL_law_762 : Dc mL_law 762 (.iload 4) 2 764 := ⟨zo_21 (by decide +kernel), rfl⟩
theorem dL_law_764 : Dc mL_law 764 (.iconst 2) 1 765 := ⟨zo_5 (by decide +kernel), rfl⟩
theorem dL_law_765 : Dc mL_law 765 (.iadd) 1 766 := ⟨zo_96 (by decide +kernel), rfl⟩
theorem dL_law_766 : Dc mL_law 766 (.iaload) 1 767 := ⟨zo_46 (by decide +kernel), rfl⟩
theorem dL_law_767 : Dc mL_law 767 (.invokevirtual 88) 3 770 := ⟨zo_182 (w := 0) (x := 88) (by decide +kernel), rfl⟩
theorem dL_law_770 : Dc mL_law 770 (.pop) 1 771 := ⟨zo_87 (by decide +kernel), rfl⟩
theorem dL_law_771 : Dc mL_law 771 (.aload_n 2) 1 772 := ⟨zo_44 (by decide +kernel), rfl⟩
theorem dL_law_772 : Dc mL_law 772 (.aload_n 0) 1 773 := ⟨zo_42 (by decide +kernel), rfl⟩
theorem dL_law_773 : Dc mL_law 773 (.iload 4) 2 775 := ⟨zo_21 (by decide +kernel), rfl⟩
theorem dL_law_775 : Dc mL_law 775 (.iconst 1) 1 776 := ⟨zo_4 (by decide +kernel), rfl⟩
theorem dL_law_776 : Dc mL_law 776 (.iadd) 1 777 := ⟨zo_96 (by decide +kernel), rfl⟩
theorem dL_law_777 : Dc mL_law 777 (.iaload) 1 778 := ⟨zo_46 (by decide +kernel), rfl⟩
theorem dL_law_778 : Dc mL_law 778 (.aload_n 0) 1 779 := ⟨zo_42 (by decide +kernel), rfl⟩
theorem dL_law_779 : Dc mL_law 779 (.iload 4) 2 781 := ⟨zo_21 (by decide +kernel), rfl⟩
theorem dL_law_781 : Dc mL_law 781 (.iconst 2) 1 782 := ⟨zo_5 (by decide +kernel), rfl⟩
theorem dL_law_782 : Dc mL_law 782 (.iadd) 1 783 := ⟨zo_96 (by decide +kernel), rfl⟩
theorem dL_law_783 : Dc mL_law 783 (.iaload) 1 784 := ⟨zo_46 (by decide +kernel), rfl⟩
theorem dL_law_784 : Dc mL_law 784 (.invokevirtual 91) 3 787 := ⟨zo_182 (w := 0) (x := 91) (by decide +kernel), rfl⟩
theorem dL_law_787 : Dc mL_law 787 (.pop) 1 788 := ⟨zo_87 (by decide +kernel), rfl⟩
theorem dL_law_788 : Dc mL_law 788 (.goto 593) 3 791 := ⟨zo_167 (w := 2) (x := 81) (by decide +kernel), rfl⟩
theorem dL_law_791 : Dc mL_law 791 (.aload_n 1) 1 792 := ⟨zo_43 (by decide +kernel), rfl⟩
theorem dL_law_792 : Dc mL_law 792 (.invokevirtual 92) 3 795 := ⟨zo_182 (w := 0) (x := 92) (by decide +kernel), rfl⟩
theorem dL_law_795 : Dc mL_law 795 (.pop) 1 796 := ⟨zo_87 (by decide +kernel), rfl⟩
theorem dL_law_796 : Dc mL_law 796 (.aload_n 2) 1 797 := ⟨zo_44 (by decide +kernel), rfl⟩
theorem dL_law_797 : Dc mL_law 797 (.invokevirtual 96) 3 800 := ⟨zo_182 (w := 0) (x := 96) (by decide +kernel), rfl⟩
theorem dL_law_800 : Dc mL_law 800 (.pop) 1 801 := ⟨zo_87 (by decide +kernel), rfl⟩
theorem dL_law_801 : Dc mL_law 801 (.goto 580) 3 804 := ⟨zo_167 (w := 2) (x := 68) (by decide +kernel), rfl⟩
theorem dL_law_804 : Dc mL_law 804 (.aload_n 1) 1 805 := ⟨zo_43 (by decide +kernel), rfl⟩
theorem dL_law_805 : Dc mL_law 805 (.invokevirtual 97) 3 808 := ⟨zo_182 (w := 0) (x := 97) (by decide +kernel), rfl⟩
theorem dL_law_808 : Dc mL_law 808 (.pop) 1 809 := ⟨zo_87 (by decide +kernel), rfl⟩
theorem dL_law_809 : Dc mL_law 809 (.aload_n 2) 1 810 := ⟨zo_44 (by decide +kernel), rfl⟩
theorem dL_law_810 : Dc mL_law 810 (.invokevirtual 100) 3 813 := ⟨zo_182 (w := 0) (x := 100) (by decide +kernel), rfl⟩
theorem dL_law_813 : Dc mL_law 813 (.pop) 1 814 := ⟨zo_87 (by decide +kernel), rfl⟩
theorem dL_law_814 : Dc mL_law 814 (.goto 567) 3 817 := ⟨zo_167 (w := 2) (x := 55) (by decide +kernel), rfl⟩
theorem dL_law_817 : Dc mL_law 817 (.aload_n 1) 1 818 := ⟨zo_43 (by decide +kernel), rfl⟩
theorem dL_law_818 : Dc mL_law 818 (.aload_n 0) 1 819 := ⟨zo_42 (by decide +kernel), rfl⟩
theorem dL_law_819 : Dc mL_law 819 (.iload 4) 2 821 := ⟨zo_21 (by decide +kernel), rfl⟩
theorem dL_law_821 : Dc mL_law 821 (.iconst 1) 1 822 := ⟨zo_4 (by decide +kernel), rfl⟩
theorem dL_law_822 : Dc mL_law 822 (.iadd) 1 823 := ⟨zo_96 (by decide +kernel), rfl⟩
theorem dL_law_823 : Dc mL_law 823 (.iaload) 1 824 := ⟨zo_46 (by decide +kernel), rfl⟩
theorem dL_law_824 : Dc mL_law 824 (.invokevirtual 101) 3 827 := ⟨zo_182 (w := 0) (x := 101) (by decide +kernel), rfl⟩
theorem dL_law_827 : Dc mL_law 827 (.pop) 1 828 := ⟨zo_87 (by decide +kernel), rfl⟩
theorem dL_law_828 : Dc mL_law 828 (.aload_n 2) 1 829 := ⟨zo_44 (by decide +kernel), rfl⟩
theorem dL_law_829 : Dc mL_law 829 (.aload_n 0) 1 830 := ⟨zo_42 (by decide +kernel), rfl⟩
theorem dL_law_830 : Dc mL_law 830 (.iload 4) 2 832 := ⟨zo_21 (by decide +kernel), rfl⟩
theorem dL_law_832 : Dc mL_law 832 (.iconst 1) 1 833 := ⟨zo_4 (by decide +kernel), rfl⟩
theorem dL_law_833 : Dc mL_law 833 (.iadd) 1 834 := ⟨zo_96 (by decide +kernel), rfl⟩
theorem dL_law_834 : Dc mL_law 834 (.iaload) 1 835 := ⟨zo_46 (by decide +kernel), rfl⟩
theorem dL_law_835 : Dc mL_law 835 (.invokevirtual 104) 3 838 := ⟨zo_182 (w := 0) (x := 104) (by decide +kernel), rfl⟩
theorem dL_law_838 : Dc mL_law 838 (.pop) 1 839 := ⟨zo_87 (by decide +kernel), rfl⟩
theorem dL_law_839 : Dc mL_law 839 (.goto 542) 3 842 := ⟨zo_167 (w := 2) (x := 30) (by decide +kernel), rfl⟩
theorem dL_law_842 : Dc mL_law 842 (.aload_n 1) 1 843 := ⟨zo_43 (by decide +kernel), rfl⟩
theorem dL_law_843 : Dc mL_law 843 (.aload_n 0) 1 844 := ⟨zo_42 (by decide +kernel), rfl⟩
theorem dL_law_844 : Dc mL_law 844 (.iload 4) 2 846 := ⟨zo_21 (by decide +kernel), rfl⟩
theorem dL_law_846 : Dc mL_law 846 (.iconst 1) 1 847 := ⟨zo_4 (by decide +kernel), rfl⟩
theorem dL_law_847 : Dc mL_law 847 (.iadd) 1 848 := ⟨zo_96 (by decide +kernel), rfl⟩
theorem dL_law_848 : Dc mL_law 848 (.iaload) 1 849 := ⟨zo_46 (by decide +kernel), rfl⟩
theorem dL_law_849 : Dc mL_law 849 (.invokevirtual 105) 3 852 := ⟨zo_182 (w := 0) (x := 105) (by decide +kernel), rfl⟩
theorem dL_law_852 : Dc mL_law 852 (.pop) 1 853 := ⟨zo_87 (by decide +kernel), rfl⟩
theorem dL_law_853 : Dc mL_law 853 (.aload_n 2) 1 854 := ⟨zo_44 (by decide +kernel), rfl⟩
theorem dL_law_854 : Dc mL_law 854 (.aload_n 0) 1 855 := ⟨zo_42 (by decide +kernel), rfl⟩
theorem dL_law_855 : Dc mL_law 855 (.iload 4) 2 857 := ⟨zo_21 (by decide +kernel), rfl⟩
theorem dL_law_857 : Dc mL_law 857 (.iconst 1) 1 858 := ⟨zo_4 (by decide +kernel), rfl⟩
theorem dL_law_858 : Dc mL_law 858 (.iadd) 1 859 := ⟨zo_96 (by decide +kernel), rfl⟩
theorem dL_law_859 : Dc mL_law 859 (.iaload) 1 860 := ⟨zo_46 (by decide +kernel), rfl⟩
theorem dL_law_860 : Dc mL_law 860 (.invokevirtual 108) 3 863 := ⟨zo_182 (w := 0) (x := 108) (by decide +kernel), rfl⟩
theorem dL_law_863 : Dc mL_law 863 (.pop) 1 864 := ⟨zo_87 (by decide +kernel), rfl⟩
theorem dL_law_864 : Dc mL_law 864 (.goto 517) 3 867 := ⟨zo_167 (w := 2) (x := 5) (by decide +kernel), rfl⟩
theorem dL_law_867 : Dc mL_law 867 (.aload_n 1) 1 868 := ⟨zo_43 (by decide +kernel), rfl⟩
theorem dL_law_868 : Dc mL_law 868 (.invokevirtual 109) 3 871 := ⟨zo_182 (w := 0) (x := 109) (by decide +kernel), rfl⟩
theorem dL_law_871 : Dc mL_law 871 (.pop) 1 872 := ⟨zo_87 (by decide +kernel), rfl⟩
theorem dL_law_872 : Dc mL_law 872 (.aload_n 2) 1 873 := ⟨zo_44 (by decide +kernel), rfl⟩
theorem dL_law_873 : Dc mL_law 873 (.invokevirtual 112) 3 876 := ⟨zo_182 (w := 0) (x := 112) (by decide +kernel), rfl⟩
theorem dL_law_876 : Dc mL_law 876 (.pop) 1 877 := ⟨zo_87 (by decide +kernel), rfl⟩
theorem dL_law_877 : Dc mL_law 877 (.goto 504) 3 880 := ⟨zo_167 (w := 1) (x := 248) (by decide +kernel), rfl⟩
theorem dL_law_880 : Dc mL_law 880 (.aload_n 1) 1 881 := ⟨zo_43 (by decide +kernel), rfl⟩
theorem dL_law_881 : Dc mL_law 881 (.aload_n 0) 1 882 := ⟨zo_42 (by decide +kernel), rfl⟩
theorem dL_law_882 : Dc mL_law 882 (.iload 4) 2 884 := ⟨zo_21 (by decide +kernel), rfl⟩
theorem dL_law_884 : Dc mL_law 884 (.iconst 1) 1 885 := ⟨zo_4 (by decide +kernel), rfl⟩
theorem dL_law_885 : Dc mL_law 885 (.iadd) 1 886 := ⟨zo_96 (by decide +kernel), rfl⟩
theorem dL_law_886 : Dc mL_law 886 (.iaload) 1 887 := ⟨zo_46 (by decide +kernel), rfl⟩
theorem dL_law_887 : Dc mL_law 887 (.invokevirtual 113) 3 890 := ⟨zo_182 (w := 0) (x := 113) (by decide +kernel), rfl⟩
theorem dL_law_890 : Dc mL_law 890 (.pop) 1 891 := ⟨zo_87 (by decide +kernel), rfl⟩
theorem dL_law_891 : Dc mL_law 891 (.aload_n 2) 1 892 := ⟨zo_44 (by decide +kernel), rfl⟩
theorem dL_law_892 : Dc mL_law 892 (.aload_n 0) 1 893 := ⟨zo_42 (by decide +kernel), rfl⟩
theorem dL_law_893 : Dc mL_law 893 (.iload 4) 2 895 := ⟨zo_21 (by decide +kernel), rfl⟩
theorem dL_law_895 : Dc mL_law 895 (.iconst 1) 1 896 := ⟨zo_4 (by decide +kernel), rfl⟩
theorem dL_law_896 : Dc mL_law 896 (.iadd) 1 897 := ⟨zo_96 (by decide +kernel), rfl⟩
theorem dL_law_897 : Dc mL_law 897 (.iaload) 1 898 := ⟨zo_46 (by decide +kernel), rfl⟩
theorem dL_law_898 : Dc mL_law 898 (.invokevirtual 116) 3 901 := ⟨zo_182 (w := 0) (x := 116) (by decide +kernel), rfl⟩
theorem dL_law_901 : Dc mL_law 901 (.pop) 1 902 := ⟨zo_87 (by decide +kernel), rfl⟩
theorem dL_law_902 : Dc mL_law 902 (.goto 479) 3 905 := ⟨zo_167 (w := 1) (x := 223) (by decide +kernel), rfl⟩
theorem dL_law_905 : Dc mL_law 905 (.aload_n 1) 1 906 := ⟨zo_43 (by decide +kernel), rfl⟩
theorem dL_law_906 : Dc mL_law 906 (.aload_n 0) 1 907 := ⟨zo_42 (by decide +kernel), rfl⟩
theorem dL_law_907 : Dc mL_law 907 (.iload 4) 2 909 := ⟨zo_21 (by decide +kernel), rfl⟩
theorem dL_law_909 : Dc mL_law 909 (.iconst 1) 1 910 := ⟨zo_4 (by decide +kernel), rfl⟩
theorem dL_law_910 : Dc mL_law 910 (.iadd) 1 911 := ⟨zo_96 (by decide +kernel), rfl⟩
theorem dL_law_911 : Dc mL_law 911 (.iaload) 1 912 := ⟨zo_46 (by decide +kernel), rfl⟩
theorem dL_law_912 : Dc mL_law 912 (.aload_n 0) 1 913 := ⟨zo_42 (by decide +kernel), rfl⟩
theorem dL_law_913 : Dc mL_law 913 (.iload 4) 2 915 := ⟨zo_21 (by decide +kernel), rfl⟩
theorem dL_law_915 : Dc mL_law 915 (.iconst 2) 1 916 := ⟨zo_5 (by decide +kernel), rfl⟩
theorem dL_law_916 : Dc mL_law 916 (.iadd) 1 917 := ⟨zo_96 (by decide +kernel), rfl⟩
theorem dL_law_917 : Dc mL_law 917 (.iaload) 1 918 := ⟨zo_46 (by decide +kernel), rfl⟩
theorem dL_law_918 : Dc mL_law 918 (.invokevirtual 117) 3 921 := ⟨zo_182 (w := 0) (x := 117) (by decide +kernel), rfl⟩
theorem dL_law_921 : Dc mL_law 921 (.pop) 1 922 := ⟨zo_87 (by decide +kernel), rfl⟩
theorem dL_law_922 : Dc mL_law 922 (.aload_n 2) 1 923 := ⟨zo_44 (by decide +kernel), rfl⟩
theorem dL_law_923 : Dc mL_law 923 (.aload_n 0) 1 924 := ⟨zo_42 (by decide +kernel), rfl⟩
theorem dL_law_924 : Dc mL_law 924 (.iload 4) 2 926 := ⟨zo_21 (by decide +kernel), rfl⟩
theorem dL_law_926 : Dc mL_law 926 (.iconst 1) 1 927 := ⟨zo_4 (by decide +kernel), rfl⟩
theorem dL_law_927 : Dc mL_law 927 (.iadd) 1 928 := ⟨zo_96 (by decide +kernel), rfl⟩
theorem dL_law_928 : Dc mL_law 928 (.iaload) 1 929 := ⟨zo_46 (by decide +kernel), rfl⟩
theorem dL_law_929 : Dc mL_law 929 (.aload_n 0) 1 930 := ⟨zo_42 (by decide +kernel), rfl⟩
theorem dL_law_930 : Dc mL_law 930 (.iload 4) 2 932 := ⟨zo_21 (by decide +kernel), rfl⟩
theorem dL_law_932 : Dc mL_law 932 (.iconst 2) 1 933 := ⟨zo_5 (by decide +kernel), rfl⟩
theorem dL_law_933 : Dc mL_law 933 (.iadd) 1 934 := ⟨zo_96 (by decide +kernel), rfl⟩
theorem dL_law_934 : Dc mL_law 934 (.iaload) 1 935 := ⟨zo_46 (by decide +kernel), rfl⟩
theorem dL_law_935 : Dc mL_law 935 (.invokevirtual 120) 3 938 := ⟨zo_182 (w := 0) (x := 120) (by decide +kernel), rfl⟩
theorem dL_law_938 : Dc mL_law 938 (.pop) 1 939 := ⟨zo_87 (by decide +kernel), rfl⟩
theorem dL_law_939 : Dc mL_law 939 (.goto 442) 3 942 := ⟨zo_167 (w := 1) (x := 186) (by decide +kernel), rfl⟩
theorem dL_law_942 : Dc mL_law 942 (.aload_n 1) 1 943 := ⟨zo_43 (by decide +kernel), rfl⟩
theorem dL_law_943 : Dc mL_law 943 (.aload_n 0) 1 944 := ⟨zo_42 (by decide +kernel), rfl⟩
theorem dL_law_944 : Dc mL_law 944 (.iload 4) 2 946 := ⟨zo_21 (by decide +kernel), rfl⟩
theorem dL_law_946 : Dc mL_law 946 (.iconst 1) 1 947 := ⟨zo_4 (by decide +kernel), rfl⟩
theorem dL_law_947 : Dc mL_law 947 (.iadd) 1 948 := ⟨zo_96 (by decide +kernel), rfl⟩
theorem dL_law_948 : Dc mL_law 948 (.iaload) 1 949 := ⟨zo_46 (by decide +kernel), rfl⟩
theorem dL_law_949 : Dc mL_law 949 (.aload_n 0) 1 950 := ⟨zo_42 (by decide +kernel), rfl⟩
theorem dL_law_950 : Dc mL_law 950 (.iload 4) 2 952 := ⟨zo_21 (by decide +kernel), rfl⟩
theorem dL_law_952 : Dc mL_law 952 (.iconst 2) 1 953 := ⟨zo_5 (by decide +kernel), rfl⟩
theorem dL_law_953 : Dc mL_law 953 (.iadd) 1 954 := ⟨zo_96 (by decide +kernel), rfl⟩
theorem dL_law_954 : Dc mL_law 954 (.iaload) 1 955 := ⟨zo_46 (by decide +kernel), rfl⟩
theorem dL_law_955 : Dc mL_law 955 (.aload_n 0) 1 956 := ⟨zo_42 (by decide +kernel), rfl⟩
theorem dL_law_956 : Dc mL_law 956 (.iload 4) 2 958 := ⟨zo_21 (by decide +kernel), rfl⟩
theorem dL_law_958 : Dc mL_law 958 (.iconst 3) 1 959 := ⟨zo_6 (by decide +kernel), rfl⟩
theorem dL_law_959 : Dc mL_law 959 (.iadd) 1 960 := ⟨zo_96 (by decide +kernel), rfl⟩
theorem dL_law_960 : Dc mL_law 960 (.iaload) 1 961 := ⟨zo_46 (by decide +kernel), rfl⟩
theorem dL_law_961 : Dc mL_law 961 (.invokevirtual 121) 3 964 := ⟨zo_182 (w := 0) (x := 121) (by decide +kernel), rfl⟩
theorem dL_law_964 : Dc mL_law 964 (.pop) 1 965 := ⟨zo_87 (by decide +kernel), rfl⟩
theorem dL_law_965 : Dc mL_law 965 (.aload_n 2) 1 966 := ⟨zo_44 (by decide +kernel), rfl⟩
theorem dL_law_966 : Dc mL_law 966 (.aload_n 0) 1 967 := ⟨zo_42 (by decide +kernel), rfl⟩
theorem dL_law_967 : Dc mL_law 967 (.iload 4) 2 969 := ⟨zo_21 (by decide +kernel), rfl⟩
theorem dL_law_969 : Dc mL_law 969 (.iconst 1) 1 970 := ⟨zo_4 (by decide +kernel), rfl⟩
theorem dL_law_970 : Dc mL_law 970 (.iadd) 1 971 := ⟨zo_96 (by decide +kernel), rfl⟩
theorem dL_law_971 : Dc mL_law 971 (.iaload) 1 972 := ⟨zo_46 (by decide +kernel), rfl⟩
theorem dL_law_972 : Dc mL_law 972 (.aload_n 0) 1 973 := ⟨zo_42 (by decide +kernel), rfl⟩
theorem dL_law_973 : Dc mL_law 973 (.iload 4) 2 975 := ⟨zo_21 (by decide +kernel), rfl⟩
theorem dL_law_975 : Dc mL_law 975 (.iconst 2) 1 976 := ⟨zo_5 (by decide +kernel), rfl⟩
theorem dL_law_976 : Dc mL_law 976 (.iadd) 1 977 := ⟨zo_96 (by decide +kernel), rfl⟩
theorem dL_law_977 : Dc mL_law 977 (.iaload) 1 978 := ⟨zo_46 (by decide +kernel), rfl⟩
theorem dL_law_978 : Dc mL_law 978 (.aload_n 0) 1 979 := ⟨zo_42 (by decide +kernel), rfl⟩
theorem dL_law_979 : Dc mL_law 979 (.iload 4) 2 981 := ⟨zo_21 (by decide +kernel), rfl⟩
theorem dL_law_981 : Dc mL_law 981 (.iconst 3) 1 982 := ⟨zo_6 (by decide +kernel), rfl⟩
theorem dL_law_982 : Dc mL_law 982 (.iadd) 1 983 := ⟨zo_96 (by decide +kernel), rfl⟩
theorem dL_law_983 : Dc mL_law 983 (.iaload) 1 984 := ⟨zo_46 (by decide +kernel), rfl⟩
theorem dL_law_984 : Dc mL_law 984 (.invokevirtual 125) 3 987 := ⟨zo_182 (w := 0) (x := 125) (by decide +kernel), rfl⟩
theorem dL_law_987 : Dc mL_law 987 (.pop) 1 988 := ⟨zo_87 (by decide +kernel), rfl⟩
theorem dL_law_988 : Dc mL_law 988 (.goto 393) 3 991 := ⟨zo_167 (w := 1) (x := 137) (by decide +kernel), rfl⟩
theorem dL_law_991 : Dc mL_law 991 (.aload_n 1) 1 992 := ⟨zo_43 (by decide +kernel), rfl⟩
theorem dL_law_992 : Dc mL_law 992 (.aload_n 0) 1 993 := ⟨zo_42 (by decide +kernel), rfl⟩
theorem dL_law_993 : Dc mL_law 993 (.iload 4) 2 995 := ⟨zo_21 (by decide +kernel), rfl⟩
theorem dL_law_995 : Dc mL_law 995 (.iconst 1) 1 996 := ⟨zo_4 (by decide +kernel), rfl⟩
theorem dL_law_996 : Dc mL_law 996 (.iadd) 1 997 := ⟨zo_96 (by decide +kernel), rfl⟩
theorem dL_law_997 : Dc mL_law 997 (.iaload) 1 998 := ⟨zo_46 (by decide +kernel), rfl⟩
theorem dL_law_998 : Dc mL_law 998 (.aload_n 0) 1 999 := ⟨zo_42 (by decide +kernel), rfl⟩
theorem dL_law_999 : Dc mL_law 999 (.iload 4) 2 1001 := ⟨zo_21 (by decide +kernel), rfl⟩
theorem dL_law_1001 : Dc mL_law 1001 (.iconst 2) 1 1002 := ⟨zo_5 (by decide +kernel), rfl⟩
theorem dL_law_1002 : Dc mL_law 1002 (.iadd) 1 1003 := ⟨zo_96 (by decide +kernel), rfl⟩
theorem dL_law_1003 : Dc mL_law 1003 (.iaload) 1 1004 := ⟨zo_46 (by decide +kernel), rfl⟩
theorem dL_law_1004 : Dc mL_law 1004 (.invokevirtual 126) 3 1007 := ⟨zo_182 (w := 0) (x := 126) (by decide +kernel), rfl⟩
theorem dL_law_1007 : Dc mL_law 1007 (.pop2) 1 1008 := ⟨by decide +kernel, rfl⟩
theorem dL_law_1008 : Dc mL_law 1008 (.aload_n 2) 1 1009 := ⟨zo_44 (by decide +kernel), rfl⟩
theorem dL_law_1009 : Dc mL_law 1009 (.aload_n 0) 1 1010 := ⟨zo_42 (by decide +kernel), rfl⟩
theorem dL_law_1010 : Dc mL_law 1010 (.iload 4) 2 1012 := ⟨zo_21 (by decide +kernel), rfl⟩
theorem dL_law_1012 : Dc mL_law 1012 (.iconst 1) 1 1013 := ⟨zo_4 (by decide +kernel), rfl⟩
theorem dL_law_1013 : Dc mL_law 1013 (.iadd) 1 1014 := ⟨zo_96 (by decide +kernel), rfl⟩
theorem dL_law_1014 : Dc mL_law 1014 (.iaload) 1 1015 := ⟨zo_46 (by decide +kernel), rfl⟩
theorem dL_law_1015 : Dc mL_law 1015 (.aload_n 0) 1 1016 := ⟨zo_42 (by decide +kernel), rfl⟩
theorem dL_law_1016 : Dc mL_law 1016 (.iload 4) 2 1018 := ⟨zo_21 (by decide +kernel), rfl⟩
theorem dL_law_1018 : Dc mL_law 1018 (.iconst 2) 1 1019 := ⟨zo_5 (by decide +kernel), rfl⟩
theorem dL_law_1019 : Dc mL_law 1019 (.iadd) 1 1020 := ⟨zo_96 (by decide +kernel), rfl⟩
theorem dL_law_1020 : Dc mL_law 1020 (.iaload) 1 1021 := ⟨zo_46 (by decide +kernel), rfl⟩
theorem dL_law_1021 : Dc mL_law 1021 (.invokevirtual 130) 3 1024 := ⟨zo_182 (w := 0) (x := 130) (by decide +kernel), rfl⟩
theorem dL_law_1024 : Dc mL_law 1024 (.pop2) 1 1025 := ⟨by decide +kernel, rfl⟩
theorem dL_law_1025 : Dc mL_law 1025 (.goto 356) 3 1028 := ⟨zo_167 (w := 1) (x := 100) (by decide +kernel), rfl⟩
theorem dL_law_1028 : Dc mL_law 1028 (.aload_n 1) 1 1029 := ⟨zo_43 (by decide +kernel), rfl⟩
theorem dL_law_1029 : Dc mL_law 1029 (.aload_n 0) 1 1030 := ⟨zo_42 (by decide +kernel), rfl⟩
theorem dL_law_1030 : Dc mL_law 1030 (.iload 4) 2 1032 := ⟨zo_21 (by decide +kernel), rfl⟩
theorem dL_law_1032 : Dc mL_law 1032 (.iconst 1) 1 1033 := ⟨zo_4 (by decide +kernel), rfl⟩
theorem dL_law_1033 : Dc mL_law 1033 (.iadd) 1 1034 := ⟨zo_96 (by decide +kernel), rfl⟩
theorem dL_law_1034 : Dc mL_law 1034 (.iaload) 1 1035 := ⟨zo_46 (by decide +kernel), rfl⟩
theorem dL_law_1035 : Dc mL_law 1035 (.invokevirtual 131) 3 1038 := ⟨zo_182 (w := 0) (x := 131) (by decide +kernel), rfl⟩
theorem dL_law_1038 : Dc mL_law 1038 (.pop) 1 1039 := ⟨zo_87 (by decide +kernel), rfl⟩
theorem dL_law_1039 : Dc mL_law 1039 (.aload_n 2) 1 1040 := ⟨zo_44 (by decide +kernel), rfl⟩
theorem dL_law_1040 : Dc mL_law 1040 (.aload_n 0) 1 1041 := ⟨zo_42 (by decide +kernel), rfl⟩
theorem dL_law_1041 : Dc mL_law 1041 (.iload 4) 2 1043 := ⟨zo_21 (by decide +kernel), rfl⟩
theorem dL_law_1043 : Dc mL_law 1043 (.iconst 1) 1 1044 := ⟨zo_4 (by decide +kernel), rfl⟩
theorem dL_law_1044 : Dc mL_law 1044 (.iadd) 1 1045 := ⟨zo_96 (by decide +kernel), rfl⟩
theorem dL_law_1045 : Dc mL_law 1045 (.iaload) 1 1046 := ⟨zo_46 (by decide +kernel), rfl⟩
theorem dL_law_1046 : Dc mL_law 1046 (.invokevirtual 134) 3 1049 := ⟨zo_182 (w := 0) (x := 134) (by decide +kernel), rfl⟩
theorem dL_law_1049 : Dc mL_law 1049 (.pop) 1 1050 := ⟨zo_87 (by decide +kernel), rfl⟩
theorem dL_law_1050 : Dc mL_law 1050 (.goto 331) 3 1053 := ⟨zo_167 (w := 1) (x := 75) (by decide +kernel), rfl⟩
theorem dL_law_1053 : Dc mL_law 1053 (.aload_n 1) 1 1054 := ⟨zo_43 (by decide +kernel), rfl⟩
theorem dL_law_1054 : Dc mL_law 1054 (.invokevirtual 135) 3 1057 := ⟨zo_182 (w := 0) (x := 135) (by decide +kernel), rfl⟩
theorem dL_law_1057 : Dc mL_law 1057 (.pop) 1 1058 := ⟨zo_87 (by decide +kernel), rfl⟩
theorem dL_law_1058 : Dc mL_law 1058 (.aload_n 2) 1 1059 := ⟨zo_44 (by decide +kernel), rfl⟩
theorem dL_law_1059 : Dc mL_law 1059 (.invokevirtual 138) 3 1062 := ⟨zo_182 (w := 0) (x := 138) (by decide +kernel), rfl⟩
theorem dL_law_1062 : Dc mL_law 1062 (.pop) 1 1063 := ⟨zo_87 (by decide +kernel), rfl⟩
theorem dL_law_1063 : Dc mL_law 1063 (.goto 318) 3 1066 := ⟨zo_167 (w := 1) (x := 62) (by decide +kernel), rfl⟩
theorem dL_law_1066 : Dc mL_law 1066 (.aload_n 1) 1 1067 := ⟨zo_43 (by decide +kernel), rfl⟩
theorem dL_law_1067 : Dc mL_law 1067 (.invokevirtual 139) 3 1070 := ⟨zo_182 (w := 0) (x := 139) (by decide +kernel), rfl⟩
theorem dL_law_1070 : Dc mL_law 1070 (.pop) 1 1071 := ⟨zo_87 (by decide +kernel), rfl⟩
theorem dL_law_1071 : Dc mL_law 1071 (.aload_n 2) 1 1072 := ⟨zo_44 (by decide +kernel), rfl⟩
theorem dL_law_1072 : Dc mL_law 1072 (.invokevirtual 142) 3 1075 := ⟨zo_182 (w := 0) (x := 142) (by decide +kernel), rfl⟩
theorem dL_law_1075 : Dc mL_law 1075 (.pop) 1 1076 := ⟨zo_87 (by decide +kernel), rfl⟩
theorem dL_law_1076 : Dc mL_law 1076 (.goto 305) 3 1079 := ⟨zo_167 (w := 1) (x := 49) (by decide +kernel), rfl⟩
theorem dL_law_1079 : Dc mL_law 1079 (.aload_n 1) 1 1080 := ⟨zo_43 (by decide +kernel), rfl⟩
theorem dL_law_1080 : Dc mL_law 1080 (.aload_n 0) 1 1081 := ⟨zo_42 (by decide +kernel), rfl⟩
theorem dL_law_1081 : Dc mL_law 1081 (.iload 4) 2 1083 := ⟨zo_21 (by decide +kernel), rfl⟩
theorem dL_law_1083 : Dc mL_law 1083 (.iconst 1) 1 1084 := ⟨zo_4 (by decide +kernel), rfl⟩
theorem dL_law_1084 : Dc mL_law 1084 (.iadd) 1 1085 := ⟨zo_96 (by decide +kernel), rfl⟩
theorem dL_law_1085 : Dc mL_law 1085 (.iaload) 1 1086 := ⟨zo_46 (by decide +kernel), rfl⟩
theorem dL_law_1086 : Dc mL_law 1086 (.aload_n 0) 1 1087 := ⟨zo_42 (by decide +kernel), rfl⟩
theorem dL_law_1087 : Dc mL_law 1087 (.iload 4) 2 1089 := ⟨zo_21 (by decide +kernel), rfl⟩
theorem dL_law_1089 : Dc mL_law 1089 (.iconst 2) 1 1090 := ⟨zo_5 (by decide +kernel), rfl⟩
theorem dL_law_1090 : Dc mL_law 1090 (.iadd) 1 1091 := ⟨zo_96 (by decide +kernel), rfl⟩
theorem dL_law_1091 : Dc mL_law 1091 (.iaload) 1 1092 := ⟨zo_46 (by decide +kernel), rfl⟩
theorem dL_law_1092 : Dc mL_law 1092 (.aload_n 0) 1 1093 := ⟨zo_42 (by decide +kernel), rfl⟩
theorem dL_law_1093 : Dc mL_law 1093 (.iload 4) 2 1095 := ⟨zo_21 (by decide +kernel), rfl⟩
theorem dL_law_1095 : Dc mL_law 1095 (.iconst 3) 1 1096 := ⟨zo_6 (by decide +kernel), rfl⟩
theorem dL_law_1096 : Dc mL_law 1096 (.iadd) 1 1097 := ⟨zo_96 (by decide +kernel), rfl⟩
theorem dL_law_1097 : Dc mL_law 1097 (.iaload) 1 1098 := ⟨zo_46 (by decide +kernel), rfl⟩
theorem dL_law_1098 : Dc mL_law 1098 (.ifCond .eq 7) 3 1101 := ⟨zo_153 (w := 0) (x := 7) (by decide +kernel), rfl⟩
theorem dL_law_1101 : Dc mL_law 1101 (.iconst 1) 1 1102 := ⟨zo_4 (by decide +kernel), rfl⟩
theorem dL_law_1102 : Dc mL_law 1102 (.goto 4) 3 1105 := ⟨zo_167 (w := 0) (x := 4) (by decide +kernel), rfl⟩
theorem dL_law_1105 : Dc mL_law 1105 (.iconst 0) 1 1106 := ⟨zo_3 (by decide +kernel), rfl⟩
theorem dL_law_1106 : Dc mL_law 1106 (.invokevirtual 143) 3 1109 := ⟨zo_182 (w := 0) (x := 143) (by decide +kernel), rfl⟩
theorem dL_law_1109 : Dc mL_law 1109 (.pop) 1 1110 := ⟨zo_87 (by decide +kernel), rfl⟩
theorem dL_law_1110 : Dc mL_law 1110 (.aload_n 2) 1 1111 := ⟨zo_44 (by decide +kernel), rfl⟩
theorem dL_law_1111 : Dc mL_law 1111 (.aload_n 0) 1 1112 := ⟨zo_42 (by decide +kernel), rfl⟩
theorem dL_law_1112 : Dc mL_law 1112 (.iload 4) 2 1114 := ⟨zo_21 (by decide +kernel), rfl⟩
theorem dL_law_1114 : Dc mL_law 1114 (.iconst 1) 1 1115 := ⟨zo_4 (by decide +kernel), rfl⟩
theorem dL_law_1115 : Dc mL_law 1115 (.iadd) 1 1116 := ⟨zo_96 (by decide +kernel), rfl⟩
theorem dL_law_1116 : Dc mL_law 1116 (.iaload) 1 1117 := ⟨zo_46 (by decide +kernel), rfl⟩
theorem dL_law_1117 : Dc mL_law 1117 (.aload_n 0) 1 1118 := ⟨zo_42 (by decide +kernel), rfl⟩
theorem dL_law_1118 : Dc mL_law 1118 (.iload 4) 2 1120 := ⟨zo_21 (by decide +kernel), rfl⟩
theorem dL_law_1120 : Dc mL_law 1120 (.iconst 2) 1 1121 := ⟨zo_5 (by decide +kernel), rfl⟩
theorem dL_law_1121 : Dc mL_law 1121 (.iadd) 1 1122 := ⟨zo_96 (by decide +kernel), rfl⟩
theorem dL_law_1122 : Dc mL_law 1122 (.iaload) 1 1123 := ⟨zo_46 (by decide +kernel), rfl⟩
theorem dL_law_1123 : Dc mL_law 1123 (.aload_n 0) 1 1124 := ⟨zo_42 (by decide +kernel), rfl⟩
theorem dL_law_1124 : Dc mL_law 1124 (.iload 4) 2 1126 := ⟨zo_21 (by decide +kernel), rfl⟩
theorem dL_law_1126 : Dc mL_law 1126 (.iconst 3) 1 1127 := ⟨zo_6 (by decide +kernel), rfl⟩
theorem dL_law_1127 : Dc mL_law 1127 (.iadd) 1 1128 := ⟨zo_96 (by decide +kernel), rfl⟩
theorem dL_law_1128 : Dc mL_law 1128 (.iaload) 1 1129 := ⟨zo_46 (by decide +kernel), rfl⟩
theorem dL_law_1129 : Dc mL_law 1129 (.ifCond .eq 7) 3 1132 := ⟨zo_153 (w := 0) (x := 7) (by decide +kernel), rfl⟩
theorem dL_law_1132 : Dc mL_law 1132 (.iconst 1) 1 1133 := ⟨zo_4 (by decide +kernel), rfl⟩
theorem dL_law_1133 : Dc mL_law 1133 (.goto 4) 3 1136 := ⟨zo_167 (w := 0) (x := 4) (by decide +kernel), rfl⟩
theorem dL_law_1136 : Dc mL_law 1136 (.iconst 0) 1 1137 := ⟨zo_3 (by decide +kernel), rfl⟩
theorem dL_law_1137 : Dc mL_law 1137 (.invokevirtual 147) 3 1140 := ⟨zo_182 (w := 0) (x := 147) (by decide +kernel), rfl⟩
theorem dL_law_1140 : Dc mL_law 1140 (.pop) 1 1141 := ⟨zo_87 (by decide +kernel), rfl⟩
theorem dL_law_1141 : Dc mL_law 1141 (.goto 240) 3 1144 := ⟨zo_167 (w := 0) (x := 240) (by decide +kernel), rfl⟩
theorem dL_law_1144 : Dc mL_law 1144 (.aload_n 1) 1 1145 := ⟨zo_43 (by decide +kernel), rfl⟩
theorem dL_law_1145 : Dc mL_law 1145 (.aload_n 0) 1 1146 := ⟨zo_42 (by decide +kernel), rfl⟩
theorem dL_law_1146 : Dc mL_law 1146 (.iload 4) 2 1148 := ⟨zo_21 (by decide +kernel), rfl⟩
theorem dL_law_1148 : Dc mL_law 1148 (.iconst 1) 1 1149 := ⟨zo_4 (by decide +kernel), rfl⟩
theorem dL_law_1149 : Dc mL_law 1149 (.iadd) 1 1150 := ⟨zo_96 (by decide +kernel), rfl⟩
theorem dL_law_1150 : Dc mL_law 1150 (.iaload) 1 1151 := ⟨zo_46 (by decide +kernel), rfl⟩
theorem dL_law_1151 : Dc mL_law 1151 (.invokevirtual 148) 3 1154 := ⟨zo_182 (w := 0) (x := 148) (by decide +kernel), rfl⟩
theorem dL_law_1154 : Dc mL_law 1154 (.pop) 1 1155 := ⟨zo_87 (by decide +kernel), rfl⟩
theorem dL_law_1155 : Dc mL_law 1155 (.aload_n 2) 1 1156 := ⟨zo_44 (by decide +kernel), rfl⟩
theorem dL_law_1156 : Dc mL_law 1156 (.aload_n 0) 1 1157 := ⟨zo_42 (by decide +kernel), rfl⟩
theorem dL_law_1157 : Dc mL_law 1157 (.iload 4) 2 1159 := ⟨zo_21 (by decide +kernel), rfl⟩
theorem dL_law_1159 : Dc mL_law 1159 (.iconst 1) 1 1160 := ⟨zo_4 (by decide +kernel), rfl⟩
theorem dL_law_1160 : Dc mL_law 1160 (.iadd) 1 1161 := ⟨zo_96 (by decide +kernel), rfl⟩
theorem dL_law_1161 : Dc mL_law 1161 (.iaload) 1 1162 := ⟨zo_46 (by decide +kernel), rfl⟩
theorem dL_law_1162 : Dc mL_law 1162 (.invokevirtual 151) 3 1165 := ⟨zo_182 (w := 0) (x := 151) (by decide +kernel), rfl⟩
theorem dL_law_1165 : Dc mL_law 1165 (.pop) 1 1166 := ⟨zo_87 (by decide +kernel), rfl⟩
theorem dL_law_1166 : Dc mL_law 1166 (.goto 215) 3 1169 := ⟨zo_167 (w := 0) (x := 215) (by decide +kernel), rfl⟩
theorem dL_law_1169 : Dc mL_law 1169 (.aload_n 1) 1 1170 := ⟨zo_43 (by decide +kernel), rfl⟩
theorem dL_law_1170 : Dc mL_law 1170 (.aload_n 0) 1 1171 := ⟨zo_42 (by decide +kernel), rfl⟩
theorem dL_law_1171 : Dc mL_law 1171 (.iload 4) 2 1173 := ⟨zo_21 (by decide +kernel), rfl⟩
theorem dL_law_1173 : Dc mL_law 1173 (.iconst 1) 1 1174 := ⟨zo_4 (by decide +kernel), rfl⟩
theorem dL_law_1174 : Dc mL_law 1174 (.iadd) 1 1175 := ⟨zo_96 (by decide +kernel), rfl⟩
theorem dL_law_1175 : Dc mL_law 1175 (.iaload) 1 1176 := ⟨zo_46 (by decide +kernel), rfl⟩
theorem dL_law_1176 : Dc mL_law 1176 (.invokevirtual 152) 3 1179 := ⟨zo_182 (w := 0) (x := 152) (by decide +kernel), rfl⟩
theorem dL_law_1179 : Dc mL_law 1179 (.pop) 1 1180 := ⟨zo_87 (by decide +kernel), rfl⟩
theorem dL_law_1180 : Dc mL_law 1180 (.aload_n 2) 1 1181 := ⟨zo_44 (by decide +kernel), rfl⟩
theorem dL_law_1181 : Dc mL_law 1181 (.aload_n 0) 1 1182 := ⟨zo_42 (by decide +kernel), rfl⟩
theorem dL_law_1182 : Dc mL_law 1182 (.iload 4) 2 1184 := ⟨zo_21 (by decide +kernel), rfl⟩
theorem dL_law_1184 : Dc mL_law 1184 (.iconst 1) 1 1185 := ⟨zo_4 (by decide +kernel), rfl⟩
theorem dL_law_1185 : Dc mL_law 1185 (.iadd) 1 1186 := ⟨zo_96 (by decide +kernel), rfl⟩
theorem dL_law_1186 : Dc mL_law 1186 (.iaload) 1 1187 := ⟨zo_46 (by decide +kernel), rfl⟩
theorem dL_law_1187 : Dc mL_law 1187 (.invokevirtual 155) 3 1190 := ⟨zo_182 (w := 0) (x := 155) (by decide +kernel), rfl⟩
theorem dL_law_1190 : Dc mL_law 1190 (.pop) 1 1191 := ⟨zo_87 (by decide +kernel), rfl⟩
theorem dL_law_1191 : Dc mL_law 1191 (.goto 190) 3 1194 := ⟨zo_167 (w := 0) (x := 190) (by decide +kernel), rfl⟩
theorem dL_law_1194 : Dc mL_law 1194 (.aload_n 1) 1 1195 := ⟨zo_43 (by decide +kernel), rfl⟩
theorem dL_law_1195 : Dc mL_law 1195 (.aload_n 0) 1 1196 := ⟨zo_42 (by decide +kernel), rfl⟩
theorem dL_law_1196 : Dc mL_law 1196 (.iload 4) 2 1198 := ⟨zo_21 (by decide +kernel), rfl⟩
theorem dL_law_1198 : Dc mL_law 1198 (.iconst 1) 1 1199 := ⟨zo_4 (by decide +kernel), rfl⟩
theorem dL_law_1199 : Dc mL_law 1199 (.iadd) 1 1200 := ⟨zo_96 (by decide +kernel), rfl⟩
theorem dL_law_1200 : Dc mL_law 1200 (.iaload) 1 1201 := ⟨zo_46 (by decide +kernel), rfl⟩
theorem dL_law_1201 : Dc mL_law 1201 (.invokevirtual 156) 3 1204 := ⟨zo_182 (w := 0) (x := 156) (by decide +kernel), rfl⟩
theorem dL_law_1204 : Dc mL_law 1204 (.pop) 1 1205 := ⟨zo_87 (by decide +kernel), rfl⟩
theorem dL_law_1205 : Dc mL_law 1205 (.aload_n 2) 1 1206 := ⟨zo_44 (by decide +kernel), rfl⟩
theorem dL_law_1206 : Dc mL_law 1206 (.aload_n 0) 1 1207 := ⟨zo_42 (by decide +kernel), rfl⟩
theorem dL_law_1207 : Dc mL_law 1207 (.iload 4) 2 1209 := ⟨zo_21 (by decide +kernel), rfl⟩
theorem dL_law_1209 : Dc mL_law 1209 (.iconst 1) 1 1210 := ⟨zo_4 (by decide +kernel), rfl⟩
theorem dL_law_1210 : Dc mL_law 1210 (.iadd) 1 1211 := ⟨zo_96 (by decide +kernel), rfl⟩
theorem dL_law_1211 : Dc mL_law 1211 (.iaload) 1 1212 := ⟨zo_46 (by decide +kernel), rfl⟩
theorem dL_law_1212 : Dc mL_law 1212 (.invokevirtual 159) 3 1215 := ⟨zo_182 (w := 0) (x := 159) (by decide +kernel), rfl⟩
theorem dL_law_1215 : Dc mL_law 1215 (.pop) 1 1216 := ⟨zo_87 (by decide +kernel), rfl⟩
theorem dL_law_1216 : Dc mL_law 1216 (.goto 165) 3 1219 := ⟨zo_167 (w := 0) (x := 165) (by decide +kernel), rfl⟩
theorem dL_law_1219 : Dc mL_law 1219 (.aload_n 1) 1 1220 := ⟨zo_43 (by decide +kernel), rfl⟩
theorem dL_law_1220 : Dc mL_law 1220 (.aload_n 0) 1 1221 := ⟨zo_42 (by decide +kernel), rfl⟩
theorem dL_law_1221 : Dc mL_law 1221 (.iload 4) 2 1223 := ⟨zo_21 (by decide +kernel), rfl⟩
theorem dL_law_1223 : Dc mL_law 1223 (.iconst 1) 1 1224 := ⟨zo_4 (by decide +kernel), rfl⟩
theorem dL_law_1224 : Dc mL_law 1224 (.iadd) 1 1225 := ⟨zo_96 (by decide +kernel), rfl⟩
theorem dL_law_1225 : Dc mL_law 1225 (.iaload) 1 1226 := ⟨zo_46 (by decide +kernel), rfl⟩
theorem dL_law_1226 : Dc mL_law 1226 (.aload_n 0) 1 1227 := ⟨zo_42 (by decide +kernel), rfl⟩
theorem dL_law_1227 : Dc mL_law 1227 (.iload 4) 2 1229 := ⟨zo_21 (by decide +kernel), rfl⟩
theorem dL_law_1229 : Dc mL_law 1229 (.iconst 2) 1 1230 := ⟨zo_5 (by decide +kernel), rfl⟩
theorem dL_law_1230 : Dc mL_law 1230 (.iadd) 1 1231 := ⟨zo_96 (by decide +kernel), rfl⟩
theorem dL_law_1231 : Dc mL_law 1231 (.iaload) 1 1232 := ⟨zo_46 (by decide +kernel), rfl⟩
theorem dL_law_1232 : Dc mL_law 1232 (.aload_n 0) 1 1233 := ⟨zo_42 (by decide +kernel), rfl⟩
theorem dL_law_1233 : Dc mL_law 1233 (.iload 4) 2 1235 := ⟨zo_21 (by decide +kernel), rfl⟩
theorem dL_law_1235 : Dc mL_law 1235 (.iconst 3) 1 1236 := ⟨zo_6 (by decide +kernel), rfl⟩
theorem dL_law_1236 : Dc mL_law 1236 (.iadd) 1 1237 := ⟨zo_96 (by decide +kernel), rfl⟩
theorem dL_law_1237 : Dc mL_law 1237 (.iaload) 1 1238 := ⟨zo_46 (by decide +kernel), rfl⟩
theorem dL_law_1238 : Dc mL_law 1238 (.invokevirtual 160) 3 1241 := ⟨zo_182 (w := 0) (x := 160) (by decide +kernel), rfl⟩
theorem dL_law_1241 : Dc mL_law 1241 (.pop) 1 1242 := ⟨zo_87 (by decide +kernel), rfl⟩
theorem dL_law_1242 : Dc mL_law 1242 (.aload_n 2) 1 1243 := ⟨zo_44 (by decide +kernel), rfl⟩
theorem dL_law_1243 : Dc mL_law 1243 (.aload_n 0) 1 1244 := ⟨zo_42 (by decide +kernel), rfl⟩
theorem dL_law_1244 : Dc mL_law 1244 (.iload 4) 2 1246 := ⟨zo_21 (by decide +kernel), rfl⟩
theorem dL_law_1246 : Dc mL_law 1246 (.iconst 1) 1 1247 := ⟨zo_4 (by decide +kernel), rfl⟩
theorem dL_law_1247 : Dc mL_law 1247 (.iadd) 1 1248 := ⟨zo_96 (by decide +kernel), rfl⟩
theorem dL_law_1248 : Dc mL_law 1248 (.iaload) 1 1249 := ⟨zo_46 (by decide +kernel), rfl⟩
theorem dL_law_1249 : Dc mL_law 1249 (.aload_n 0) 1 1250 := ⟨zo_42 (by decide +kernel), rfl⟩
theorem dL_law_1250 : Dc mL_law 1250 (.iload 4) 2 1252 := ⟨zo_21 (by decide +kernel), rfl⟩
theorem dL_law_1252 : Dc mL_law 1252 (.iconst 2) 1 1253 := ⟨zo_5 (by decide +kernel), rfl⟩
theorem dL_law_1253 : Dc mL_law 1253 (.iadd) 1 1254 := ⟨zo_96 (by decide +kernel), rfl⟩
theorem dL_law_1254 : Dc mL_law 1254 (.iaload) 1 1255 := ⟨zo_46 (by decide +kernel), rfl⟩
theorem dL_law_1255 : Dc mL_law 1255 (.aload_n 0) 1 1256 := ⟨zo_42 (by decide +kernel), rfl⟩
theorem dL_law_1256 : Dc mL_law 1256 (.iload 4) 2 1258 := ⟨zo_21 (by decide +kernel), rfl⟩
theorem dL_law_1258 : Dc mL_law 1258 (.iconst 3) 1 1259 := ⟨zo_6 (by decide +kernel), rfl⟩
theorem dL_law_1259 : Dc mL_law 1259 (.iadd) 1 1260 := ⟨zo_96 (by decide +kernel), rfl⟩
theorem dL_law_1260 : Dc mL_law 1260 (.iaload) 1 1261 := ⟨zo_46 (by decide +kernel), rfl⟩
theorem dL_law_1261 : Dc mL_law 1261 (.invokevirtual 163) 3 1264 := ⟨zo_182 (w := 0) (x := 163) (by decide +kernel), rfl⟩
theorem dL_law_1264 : Dc mL_law 1264 (.pop) 1 1265 := ⟨zo_87 (by decide +kernel), rfl⟩
theorem dL_law_1265 : Dc mL_law 1265 (.goto 116) 3 1268 := ⟨zo_167 (w := 0) (x := 116) (by decide +kernel), rfl⟩
theorem dL_law_1268 : Dc mL_law 1268 (.aload_n 1) 1 1269 := ⟨zo_43 (by decide +kernel), rfl⟩
theorem dL_law_1269 : Dc mL_law 1269 (.aload_n 0) 1 1270 := ⟨zo_42 (by decide +kernel), rfl⟩
theorem dL_law_1270 : Dc mL_law 1270 (.iload 4) 2 1272 := ⟨zo_21 (by decide +kernel), rfl⟩
theorem dL_law_1272 : Dc mL_law 1272 (.iconst 1) 1 1273 := ⟨zo_4 (by decide +kernel), rfl⟩
theorem dL_law_1273 : Dc mL_law 1273 (.iadd) 1 1274 := ⟨zo_96 (by decide +kernel), rfl⟩
theorem dL_law_1274 : Dc mL_law 1274 (.iaload) 1 1275 := ⟨zo_46 (by decide +kernel), rfl⟩
theorem dL_law_1275 : Dc mL_law 1275 (.aload_n 0) 1 1276 := ⟨zo_42 (by decide +kernel), rfl⟩
theorem dL_law_1276 : Dc mL_law 1276 (.iload 4) 2 1278 := ⟨zo_21 (by decide +kernel), rfl⟩
theorem dL_law_1278 : Dc mL_law 1278 (.iconst 2) 1 1279 := ⟨zo_5 (by decide +kernel), rfl⟩
theorem dL_law_1279 : Dc mL_law 1279 (.iadd) 1 1280 := ⟨zo_96 (by decide +kernel), rfl⟩
theorem dL_law_1280 : Dc mL_law 1280 (.iaload) 1 1281 := ⟨zo_46 (by decide +kernel), rfl⟩
theorem dL_law_1281 : Dc mL_law 1281 (.aload_n 0) 1 1282 := ⟨zo_42 (by decide +kernel), rfl⟩
theorem dL_law_1282 : Dc mL_law 1282 (.iload 4) 2 1284 := ⟨zo_21 (by decide +kernel), rfl⟩
theorem dL_law_1284 : Dc mL_law 1284 (.iconst 3) 1 1285 := ⟨zo_6 (by decide +kernel), rfl⟩
theorem dL_law_1285 : Dc mL_law 1285 (.iadd) 1 1286 := ⟨zo_96 (by decide +kernel), rfl⟩
theorem dL_law_1286 : Dc mL_law 1286 (.iaload) 1 1287 := ⟨zo_46 (by decide +kernel), rfl⟩
theorem dL_law_1287 : Dc mL_law 1287 (.invokevirtual 164) 3 1290 := ⟨zo_182 (w := 0) (x := 164) (by decide +kernel), rfl⟩
theorem dL_law_1290 : Dc mL_law 1290 (.pop) 1 1291 := ⟨zo_87 (by decide +kernel), rfl⟩
theorem dL_law_1291 : Dc mL_law 1291 (.aload_n 2) 1 1292 := ⟨zo_44 (by decide +kernel), rfl⟩
theorem dL_law_1292 : Dc mL_law 1292 (.aload_n 0) 1 1293 := ⟨zo_42 (by decide +kernel), rfl⟩
theorem dL_law_1293 : Dc mL_law 1293 (.iload 4) 2 1295 := ⟨zo_21 (by decide +kernel), rfl⟩
theorem dL_law_1295 : Dc mL_law 1295 (.iconst 1) 1 1296 := ⟨zo_4 (by decide +kernel), rfl⟩
theorem dL_law_1296 : Dc mL_law 1296 (.iadd) 1 1297 := ⟨zo_96 (by decide +kernel), rfl⟩
theorem dL_law_1297 : Dc mL_law 1297 (.iaload) 1 1298 := ⟨zo_46 (by decide +kernel), rfl⟩
theorem dL_law_1298 : Dc mL_law 1298 (.aload_n 0) 1 1299 := ⟨zo_42 (by decide +kernel), rfl⟩
theorem dL_law_1299 : Dc mL_law 1299 (.iload 4) 2 1301 := ⟨zo_21 (by decide +kernel), rfl⟩
theorem dL_law_1301 : Dc mL_law 1301 (.iconst 2) 1 1302 := ⟨zo_5 (by decide +kernel), rfl⟩
theorem dL_law_1302 : Dc mL_law 1302 (.iadd) 1 1303 := ⟨zo_96 (by decide +kernel), rfl⟩
theorem dL_law_1303 : Dc mL_law 1303 (.iaload) 1 1304 := ⟨zo_46 (by decide +kernel), rfl⟩
theorem dL_law_1304 : Dc mL_law 1304 (.aload_n 0) 1 1305 := ⟨zo_42 (by decide +kernel), rfl⟩
theorem dL_law_1305 : Dc mL_law 1305 (.iload 4) 2 1307 := ⟨zo_21 (by decide +kernel), rfl⟩
theorem dL_law_1307 : Dc mL_law 1307 (.iconst 3) 1 1308 := ⟨zo_6 (by decide +kernel), rfl⟩
theorem dL_law_1308 : Dc mL_law 1308 (.iadd) 1 1309 := ⟨zo_96 (by decide +kernel), rfl⟩
theorem dL_law_1309 : Dc mL_law 1309 (.iaload) 1 1310 := ⟨zo_46 (by decide +kernel), rfl⟩
theorem dL_law_1310 : Dc mL_law 1310 (.invokevirtual 167) 3 1313 := ⟨zo_182 (w := 0) (x := 167) (by decide +kernel), rfl⟩
theorem dL_law_1313 : Dc mL_law 1313 (.pop) 1 1314 := ⟨zo_87 (by decide +kernel), rfl⟩
theorem dL_law_1314 : Dc mL_law 1314 (.goto 67) 3 1317 := ⟨zo_167 (w := 0) (x := 67) (by decide +kernel), rfl⟩
theorem dL_law_1317 : Dc mL_law 1317 (.aload_n 1) 1 1318 := ⟨zo_43 (by decide +kernel), rfl⟩
theorem dL_law_1318 : Dc mL_law 1318 (.invokevirtual 168) 3 1321 := ⟨zo_182 (w := 0) (x := 168) (by decide +kernel), rfl⟩
theorem dL_law_1321 : Dc mL_law 1321 (.pop) 1 1322 := ⟨zo_87 (by decide +kernel), rfl⟩
theorem dL_law_1322 : Dc mL_law 1322 (.aload_n 2) 1 1323 := ⟨zo_44 (by decide +kernel), rfl⟩
theorem dL_law_1323 : Dc mL_law 1323 (.invokevirtual 171) 3 1326 := ⟨zo_182 (w := 0) (x := 171) (by decide +kernel), rfl⟩
theorem dL_law_1326 : Dc mL_law 1326 (.pop) 1 1327 := ⟨zo_87 (by decide +kernel), rfl⟩
theorem dL_law_1327 : Dc mL_law 1327 (.goto 54) 3 1330 := ⟨zo_167 (w := 0) (x := 54) (by decide +kernel), rfl⟩
theorem dL_law_1330 : Dc mL_law 1330 (.aload_n 1) 1 1331 := ⟨zo_43 (by decide +kernel), rfl⟩
theorem dL_law_1331 : Dc mL_law 1331 (.invokevirtual 172) 3 1334 := ⟨zo_182 (w := 0) (x := 172) (by decide +kernel), rfl⟩
theorem dL_law_1334 : Dc mL_law 1334 (.pop) 1 1335 := ⟨zo_87 (by decide +kernel), rfl⟩
theorem dL_law_1335 : Dc mL_law 1335 (.aload_n 2) 1 1336 := ⟨zo_44 (by decide +kernel), rfl⟩
theorem dL_law_1336 : Dc mL_law 1336 (.invokevirtual 175) 3 1339 := ⟨zo_182 (w := 0) (x := 175) (by decide +kernel), rfl⟩
theorem dL_law_1339 : Dc mL_law 1339 (.pop) 1 1340 := ⟨zo_87 (by decide +kernel), rfl⟩
theorem dL_law_1340 : Dc mL_law 1340 (.goto 41) 3 1343 := ⟨zo_167 (w := 0) (x := 41) (by decide +kernel), rfl⟩
theorem dL_law_1343 : Dc mL_law 1343 (.aload_n 1) 1 1344 := ⟨zo_43 (by decide +kernel), rfl⟩
theorem dL_law_1344 : Dc mL_law 1344 (.invokevirtual 176) 3 1347 := ⟨zo_182 (w := 0) (x := 176) (by decide +kernel), rfl⟩
theorem dL_law_1347 : Dc mL_law 1347 (.pop) 1 1348 := ⟨zo_87 (by decide +kernel), rfl⟩
theorem dL_law_1348 : Dc mL_law 1348 (.aload_n 2) 1 1349 := ⟨zo_44 (by decide +kernel), rfl⟩
theorem dL_law_1349 : Dc mL_law 1349 (.invokevirtual 179) 3 1352 := ⟨zo_182 (w := 0) (x := 179) (by decide +kernel), rfl⟩
theorem dL_law_1352 : Dc mL_law 1352 (.pop) 1 1353 := ⟨zo_87 (by decide +kernel), rfl⟩
theorem dL_law_1353 : Dc mL_law 1353 (.goto 28) 3 1356 := ⟨zo_167 (w := 0) (x := 28) (by decide +kernel), rfl⟩
theorem dL_law_1356 : Dc mL_law 1356 (.aload_n 1) 1 1357 := ⟨zo_43 (by decide +kernel), rfl⟩
theorem dL_law_1357 : Dc mL_law 1357 (.aload_n 0) 1 1358 := ⟨zo_42 (by decide +kernel), rfl⟩
theorem dL_law_1358 : Dc mL_law 1358 (.iload 4) 2 1360 := ⟨zo_21 (by decide +kernel), rfl⟩
theorem dL_law_1360 : Dc mL_law 1360 (.iconst 1) 1 1361 := ⟨zo_4 (by decide +kernel), rfl⟩
theorem dL_law_1361 : Dc mL_law 1361 (.iadd) 1 1362 := ⟨zo_96 (by decide +kernel), rfl⟩
theorem dL_law_1362 : Dc mL_law 1362 (.iaload) 1 1363 := ⟨zo_46 (by decide +kernel), rfl⟩
theorem dL_law_1363 : Dc mL_law 1363 (.invokevirtual 180) 3 1366 := ⟨zo_182 (w := 0) (x := 180) (by decide +kernel), rfl⟩
theorem dL_law_1366 : Dc mL_law 1366 (.aload_n 2) 1 1367 := ⟨zo_44 (by decide +kernel), rfl⟩
theorem dL_law_1367 : Dc mL_law 1367 (.aload_n 0) 1 1368 := ⟨zo_42 (by decide +kernel), rfl⟩
theorem dL_law_1368 : Dc mL_law 1368 (.iload 4) 2 1370 := ⟨zo_21 (by decide +kernel), rfl⟩
theorem dL_law_1370 : Dc mL_law 1370 (.iconst 1) 1 1371 := ⟨zo_4 (by decide +kernel), rfl⟩
theorem dL_law_1371 : Dc mL_law 1371 (.iadd) 1 1372 := ⟨zo_96 (by decide +kernel), rfl⟩
theorem dL_law_1372 : Dc mL_law 1372 (.iaload) 1 1373 := ⟨zo_46 (by decide +kernel), rfl⟩
theorem dL_law_1373 : Dc mL_law 1373 (.invokevirtual 183) 3 1376 := ⟨zo_182 (w := 0) (x := 183) (by decide +kernel), rfl⟩
theorem dL_law_1376 : Dc mL_law 1376 (.if_icmp .eq 5) 3 1379 := ⟨zo_159 (w := 0) (x := 5) (by decide +kernel), rfl⟩
theorem dL_law_1379 : Dc mL_law 1379 (.iconst 0) 1 1380 := ⟨zo_3 (by decide +kernel), rfl⟩
theorem dL_law_1380 : Dc mL_law 1380 (.ireturn) 1 1381 := ⟨zo_172 (by decide +kernel), rfl⟩
theorem dL_law_1381 : Dc mL_law 1381 (.iinc 4 6) 3 1384 := ⟨zo_iinc (x := 6) (by decide +kernel), rfl⟩
theorem dL_law_1384 : Dc mL_law 1384 (.goto (-1361)) 3 1387 := ⟨zo_167 (w := 250) (x := 175) (by decide +kernel), rfl⟩
theorem dL_law_1387 : Dc mL_law 1387 (.iconst 1) 1 1388 := ⟨zo_4 (by decide +kernel), rfl⟩
theorem dL_law_1388 : Dc mL_law 1388 (.ireturn) 1 1389 := ⟨zo_172 (by decide +kernel), rfl⟩
