/-! printed by wip/gen/gen_law.py: the law, case by case -/
theorem rm_t {R : SR} (h : RM R) : RM (tR R) := by
  intro q hq
  have e : ∀ q ∈ RML, ¬ (q.1 = 81 ∧ q.2.1 = 1) := by decide +kernel
  exact (u2_n R (some 1) (e q hq)).trans (h q hq)
theorem fr_text (a : Int32) (I : SI) (J : SJ) (R : SR) : FR_X11_text a I J R = R ∨ FR_X11_text a I J R = tR R := by
  unfold FR_X11_text
  split <;> (try split) <;> (try split) <;> first | exact Or.inl rfl | exact Or.inr rfl
set_option maxHeartbeats 2000000 in
set_option maxRecDepth 40000 in
theorem law_c0 {K : KT} {b L k g cl sl : Nat} {xs : Nat → Int32} {A B : SI} {JA JB : SJ} {R : SR} (ok : OK K mL_law 1000) (sc : Sc K b L xs) (ro : RO R) (rm : RM R) (hk6 : k + 5 < L) (hx0 : H_X11_feed (xs (k + 1)) (xs (k + 2)) (xs (k + 3)) (xs (k + 4)) (xs (k + 5)) A JA) (hm0 : H_X12_feed (xs (k + 1)) (xs (k + 2)) (xs (k + 3)) (xs (k + 4)) (xs (k + 5)) B JB) (kk : WL K b cl sl 1409 [(1, .ref 0), (2, .ref 130), (3, .ref 178), (4, .int (nI k))] [] (mI (FI_X11_feed (xs (k + 1)) (xs (k + 2)) (xs (k + 3)) (xs (k + 4)) (xs (k + 5)) A JA) (FI_X12_feed (xs (k + 1)) (xs (k + 2)) (xs (k + 3)) (xs (k + 4)) (xs (k + 5)) B JB)) (mJ JA JB) R 179 g) : WL K b cl sl 208 [(1, .ref 0), (2, .ref 130), (3, .ref 178), (4, .int (nI k))] [] (mI A B) (mJ JA JB) R 179 g := by
  refine q_aload_n ok dL_law_208 0 rfl ?_
  refine q_sc (j := 1) ok sc dL_law_209 dL_law_210 dL_law_212 (by decide) dL_law_213 dL_law_214 3 rfl (by omega) ?_
  refine q_sc (j := 2) ok sc dL_law_215 dL_law_216 dL_law_218 (by decide) dL_law_219 dL_law_220 3 rfl (by omega) ?_
  refine q_sc (j := 3) ok sc dL_law_221 dL_law_222 dL_law_224 (by decide) dL_law_225 dL_law_226 3 rfl (by omega) ?_
  refine q_sc (j := 4) ok sc dL_law_227 dL_law_228 dL_law_230 (by decide) dL_law_231 dL_law_232 3 rfl (by omega) ?_
  refine q_sc (j := 5) ok sc dL_law_233 dL_law_234 dL_law_236 (by decide) dL_law_237 dL_law_238 3 rfl (by omega) ?_
  refine q_x (As := [.int (xs (k + 1)), .int (xs (k + 2)), .int (xs (k + 3)), .int (xs (k + 4)), .int (xs (k + 5))]) ok dL_law_239 iX11_feed (lL_21 rfl) (rcv cls11 (congrArg Prod.fst s_0)) (by decide) (c_X11_feed ro (by decide) rfl (xs (k + 1)) (xs (k + 2)) (xs (k + 3)) (xs (k + 4)) (xs (k + 5))  hx0) (by decide) rfl (Nat.le_of_ble_eq_true rfl) ?_
  show WL K b cl sl 242 [(1, .ref 0), (2, .ref 130), (3, .ref 178), (4, .int (nI k))] [.int (F_X11_feed (xs (k + 1)) (xs (k + 2)) (xs (k + 3)) (xs (k + 4)) (xs (k + 5)) A JA)] (mI (FI_X11_feed (xs (k + 1)) (xs (k + 2)) (xs (k + 3)) (xs (k + 4)) (xs (k + 5)) A JA) B) (mJ JA JB) R 179 g
  refine q_pop ok dL_law_242 rfl ?_
  refine q_aload_n ok dL_law_243 1 rfl ?_
  refine q_sc (j := 1) ok sc dL_law_244 dL_law_245 dL_law_247 (by decide) dL_law_248 dL_law_249 3 rfl (by omega) ?_
  refine q_sc (j := 2) ok sc dL_law_250 dL_law_251 dL_law_253 (by decide) dL_law_254 dL_law_255 3 rfl (by omega) ?_
  refine q_sc (j := 3) ok sc dL_law_256 dL_law_257 dL_law_259 (by decide) dL_law_260 dL_law_261 3 rfl (by omega) ?_
  refine q_sc (j := 4) ok sc dL_law_262 dL_law_263 dL_law_265 (by decide) dL_law_266 dL_law_267 3 rfl (by omega) ?_
  refine q_sc (j := 5) ok sc dL_law_268 dL_law_269 dL_law_271 (by decide) dL_law_272 dL_law_273 3 rfl (by omega) ?_
  refine q_m (As := [.int (xs (k + 1)), .int (xs (k + 2)), .int (xs (k + 3)), .int (xs (k + 4)), .int (xs (k + 5))]) ok dL_law_274 iX12_feed (lL_25 rfl) (rcv cls12 (congrArg Prod.fst s_130)) (by decide) (c_X12_feed rm (by decide) rfl (xs (k + 1)) (xs (k + 2)) (xs (k + 3)) (xs (k + 4)) (xs (k + 5))  hm0) (by decide) rfl (Nat.le_of_ble_eq_true rfl) ?_
  show WL K b cl sl 277 [(1, .ref 0), (2, .ref 130), (3, .ref 178), (4, .int (nI k))] [.int (F_X12_feed (xs (k + 1)) (xs (k + 2)) (xs (k + 3)) (xs (k + 4)) (xs (k + 5)) B JB)] (mI (FI_X11_feed (xs (k + 1)) (xs (k + 2)) (xs (k + 3)) (xs (k + 4)) (xs (k + 5)) A JA) (FI_X12_feed (xs (k + 1)) (xs (k + 2)) (xs (k + 3)) (xs (k + 4)) (xs (k + 5)) B JB)) (mJ JA JB) R 179 g
  refine q_pop ok dL_law_277 rfl ?_
  refine q_goto (tgt := 1409) ok dL_law_278 (by decide) ?_
  exact kk
set_option maxHeartbeats 2000000 in
set_option maxRecDepth 40000 in
theorem law_c1 {K : KT} {b L k g cl sl : Nat} {xs : Nat → Int32} {A B : SI} {JA JB : SJ} {R : SR} (ok : OK K mL_law 1000) (sc : Sc K b L xs) (ro : RO R) (rm : RM R) (hk6 : k + 5 < L) (hx0 : H_X11_text (xs (k + 1)) A JA) (hm0 : H_X12_text (xs (k + 1)) B JB) (kk : WL K b cl sl 1409 [(1, .ref 0), (2, .ref 130), (3, .ref 178), (4, .int (nI k))] [] (mI (FI_X11_text (xs (k + 1)) A JA) (FI_X12_text (xs (k + 1)) B JB)) (mJ (FJ_X11_text (xs (k + 1)) A JA) (FJ_X12_text (xs (k + 1)) B JB)) ((FR_X11_text (xs (k + 1)) A JA R)) 179 g) : WL K b cl sl 281 [(1, .ref 0), (2, .ref 130), (3, .ref 178), (4, .int (nI k))] [] (mI A B) (mJ JA JB) R 179 g := by
  refine q_aload_n ok dL_law_281 0 rfl ?_
  refine q_sc (j := 1) ok sc dL_law_282 dL_law_283 dL_law_285 (by decide) dL_law_286 dL_law_287 3 rfl (by omega) ?_
  refine q_x (As := [.int (xs (k + 1))]) ok dL_law_288 iX11_text (lL_26 rfl) (rcv cls11 (congrArg Prod.fst s_0)) (by decide) (c_X11_text ro (by decide) rfl (xs (k + 1))  hx0) (by decide) rfl (Nat.le_of_ble_eq_true rfl) ?_
  show WL K b cl sl 291 [(1, .ref 0), (2, .ref 130), (3, .ref 178), (4, .int (nI k))] [.int (F_X11_text (xs (k + 1)) A JA)] (mI (FI_X11_text (xs (k + 1)) A JA) B) (mJ (FJ_X11_text (xs (k + 1)) A JA) JB) ((FR_X11_text (xs (k + 1)) A JA R)) 179 g
  have rm1 : RM (FR_X11_text (xs (k + 1)) A JA R) := by rcases fr_text _ _ _ R with h | h <;> rw [h] <;> first | exact rm | exact rm_t rm
  refine q_pop ok dL_law_291 rfl ?_
  refine q_aload_n ok dL_law_292 1 rfl ?_
  refine q_sc (j := 1) ok sc dL_law_293 dL_law_294 dL_law_296 (by decide) dL_law_297 dL_law_298 3 rfl (by omega) ?_
  refine q_m (As := [.int (xs (k + 1))]) ok dL_law_299 iX12_text (lL_30 rfl) (rcv cls12 (congrArg Prod.fst s_130)) (by decide) (c_X12_text rm1 (by decide) rfl (xs (k + 1))  hm0) (by decide) rfl (Nat.le_of_ble_eq_true rfl) ?_
  show WL K b cl sl 302 [(1, .ref 0), (2, .ref 130), (3, .ref 178), (4, .int (nI k))] [.int (F_X12_text (xs (k + 1)) B JB)] (mI (FI_X11_text (xs (k + 1)) A JA) (FI_X12_text (xs (k + 1)) B JB)) (mJ (FJ_X11_text (xs (k + 1)) A JA) (FJ_X12_text (xs (k + 1)) B JB)) ((FR_X11_text (xs (k + 1)) A JA R)) 179 g
  refine q_pop ok dL_law_302 rfl ?_
  refine q_goto (tgt := 1409) ok dL_law_303 (by decide) ?_
  exact kk
set_option maxHeartbeats 2000000 in
set_option maxRecDepth 40000 in
theorem law_c2 {K : KT} {b L k g cl sl : Nat} {xs : Nat → Int32} {A B : SI} {JA JB : SJ} {R : SR} (ok : OK K mL_law 1000) (sc : Sc K b L xs) (ro : RO R) (rm : RM R) (hk6 : k + 5 < L)  (kk : WL K b cl sl 1409 [(1, .ref 0), (2, .ref 130), (3, .ref 178), (4, .int (nI k))] [] (mI A (FI_X12_fault (xs (k + 1)) B JB)) (mJ JA JB) R 179 g) : WL K b cl sl 306 [(1, .ref 0), (2, .ref 130), (3, .ref 178), (4, .int (nI k))] [] (mI A B) (mJ JA JB) R 179 g := by
  refine q_aload_n ok dL_law_306 0 rfl ?_
  refine q_sc (j := 1) ok sc dL_law_307 dL_law_308 dL_law_310 (by decide) dL_law_311 dL_law_312 3 rfl (by omega) ?_
  refine q_x (As := [.int (xs (k + 1))]) ok dL_law_313 iX11_fault (lL_31 rfl) (rcv cls11 (congrArg Prod.fst s_0)) (by decide) (c_X11_fault ro (by decide) rfl (xs (k + 1)) ) (by decide) rfl (Nat.le_of_ble_eq_true rfl) ?_
  show WL K b cl sl 316 [(1, .ref 0), (2, .ref 130), (3, .ref 178), (4, .int (nI k))] [.int (F_X11_fault (xs (k + 1)) A JA)] (mI A B) (mJ JA JB) R 179 g
  refine q_pop ok dL_law_316 rfl ?_
  refine q_aload_n ok dL_law_317 1 rfl ?_
  refine q_sc (j := 1) ok sc dL_law_318 dL_law_319 dL_law_321 (by decide) dL_law_322 dL_law_323 3 rfl (by omega) ?_
  refine q_m (As := [.int (xs (k + 1))]) ok dL_law_324 iX12_fault (lL_34 rfl) (rcv cls12 (congrArg Prod.fst s_130)) (by decide) (c_X12_fault rm (by decide) rfl (xs (k + 1)) ) (by decide) rfl (Nat.le_of_ble_eq_true rfl) ?_
  show WL K b cl sl 327 [(1, .ref 0), (2, .ref 130), (3, .ref 178), (4, .int (nI k))] [.int (F_X12_fault (xs (k + 1)) B JB)] (mI A (FI_X12_fault (xs (k + 1)) B JB)) (mJ JA JB) R 179 g
  refine q_pop ok dL_law_327 rfl ?_
  refine q_goto (tgt := 1409) ok dL_law_328 (by decide) ?_
  exact kk
set_option maxHeartbeats 2000000 in
set_option maxRecDepth 40000 in
theorem law_c3 {K : KT} {b L k g cl sl : Nat} {xs : Nat → Int32} {A B : SI} {JA JB : SJ} {R : SR} (ok : OK K mL_law 1000) (sc : Sc K b L xs) (ro : RO R) (rm : RM R) (hk6 : k + 5 < L) (hm0 : H_X12_named (xs (k + 1)) (xs (k + 2)) B JB) (kk : WL K b cl sl 1409 [(1, .ref 0), (2, .ref 130), (3, .ref 178), (4, .int (nI k))] [] (mI A (FI_X12_named (xs (k + 1)) (xs (k + 2)) B JB)) (mJ JA JB) R 179 g) : WL K b cl sl 331 [(1, .ref 0), (2, .ref 130), (3, .ref 178), (4, .int (nI k))] [] (mI A B) (mJ JA JB) R 179 g := by
  refine q_aload_n ok dL_law_331 0 rfl ?_
  refine q_sc (j := 1) ok sc dL_law_332 dL_law_333 dL_law_335 (by decide) dL_law_336 dL_law_337 3 rfl (by omega) ?_
  refine q_sc (j := 2) ok sc dL_law_338 dL_law_339 dL_law_341 (by decide) dL_law_342 dL_law_343 3 rfl (by omega) ?_
  refine q_x (As := [.int (xs (k + 1)), .int (xs (k + 2))]) ok dL_law_344 iX11_named (lL_35 rfl) (rcv cls11 (congrArg Prod.fst s_0)) (by decide) (c_X11_named ro (by decide) rfl (xs (k + 1)) (xs (k + 2)) ) (by decide) rfl (Nat.le_of_ble_eq_true rfl) ?_
  show WL K b cl sl 347 [(1, .ref 0), (2, .ref 130), (3, .ref 178), (4, .int (nI k))] [.int (F_X11_named (xs (k + 1)) (xs (k + 2)) A JA)] (mI A B) (mJ JA JB) R 179 g
  refine q_pop ok dL_law_347 rfl ?_
  refine q_aload_n ok dL_law_348 1 rfl ?_
  refine q_sc (j := 1) ok sc dL_law_349 dL_law_350 dL_law_352 (by decide) dL_law_353 dL_law_354 3 rfl (by omega) ?_
  refine q_sc (j := 2) ok sc dL_law_355 dL_law_356 dL_law_358 (by decide) dL_law_359 dL_law_360 3 rfl (by omega) ?_
  refine q_m (As := [.int (xs (k + 1)), .int (xs (k + 2))]) ok dL_law_361 iX12_named (lL_38 rfl) (rcv cls12 (congrArg Prod.fst s_130)) (by decide) (c_X12_named rm (by decide) rfl (xs (k + 1)) (xs (k + 2))  hm0) (by decide) rfl (Nat.le_of_ble_eq_true rfl) ?_
  show WL K b cl sl 364 [(1, .ref 0), (2, .ref 130), (3, .ref 178), (4, .int (nI k))] [.int (F_X12_named (xs (k + 1)) (xs (k + 2)) B JB)] (mI A (FI_X12_named (xs (k + 1)) (xs (k + 2)) B JB)) (mJ JA JB) R 179 g
  refine q_pop ok dL_law_364 rfl ?_
  refine q_goto (tgt := 1409) ok dL_law_365 (by decide) ?_
  exact kk
set_option maxHeartbeats 2000000 in
set_option maxRecDepth 40000 in
theorem law_c5 {K : KT} {b L k g cl sl : Nat} {xs : Nat → Int32} {A B : SI} {JA JB : SJ} {R : SR} (ok : OK K mL_law 1000) (sc : Sc K b L xs) (ro : RO R) (rm : RM R) (hk6 : k + 5 < L) (hm0 : H_X12_shot (xs (k + 1)) (xs (k + 2)) B JB) (kk : WL K b cl sl 1409 [(1, .ref 0), (2, .ref 130), (3, .ref 178), (4, .int (nI k))] [] (mI A (FI_X12_shot (xs (k + 1)) (xs (k + 2)) B JB)) (mJ JA JB) R 179 g) : WL K b cl sl 436 [(1, .ref 0), (2, .ref 130), (3, .ref 178), (4, .int (nI k))] [] (mI A B) (mJ JA JB) R 179 g := by
  refine q_aload_n ok dL_law_436 0 rfl ?_
  refine q_sc (j := 1) ok sc dL_law_437 dL_law_438 dL_law_440 (by decide) dL_law_441 dL_law_442 3 rfl (by omega) ?_
  refine q_sc (j := 2) ok sc dL_law_443 dL_law_444 dL_law_446 (by decide) dL_law_447 dL_law_448 3 rfl (by omega) ?_
  refine q_x (As := [.int (xs (k + 1)), .int (xs (k + 2))]) ok dL_law_449 iX11_shot (lL_49 rfl) (rcv cls11 (congrArg Prod.fst s_0)) (by decide) (c_X11_shot ro (by decide) rfl (xs (k + 1)) (xs (k + 2)) ) (by decide) rfl (Nat.le_of_ble_eq_true rfl) ?_
  show WL K b cl sl 452 [(1, .ref 0), (2, .ref 130), (3, .ref 178), (4, .int (nI k))] [.int (F_X11_shot (xs (k + 1)) (xs (k + 2)) A JA)] (mI A B) (mJ JA JB) R 179 g
  refine q_pop ok dL_law_452 rfl ?_
  refine q_aload_n ok dL_law_453 1 rfl ?_
  refine q_sc (j := 1) ok sc dL_law_454 dL_law_455 dL_law_457 (by decide) dL_law_458 dL_law_459 3 rfl (by omega) ?_
  refine q_sc (j := 2) ok sc dL_law_460 dL_law_461 dL_law_463 (by decide) dL_law_464 dL_law_465 3 rfl (by omega) ?_
  refine q_m (As := [.int (xs (k + 1)), .int (xs (k + 2))]) ok dL_law_466 iX12_shot (lL_52 rfl) (rcv cls12 (congrArg Prod.fst s_130)) (by decide) (c_X12_shot rm (by decide) rfl (xs (k + 1)) (xs (k + 2))  hm0) (by decide) rfl (Nat.le_of_ble_eq_true rfl) ?_
  show WL K b cl sl 469 [(1, .ref 0), (2, .ref 130), (3, .ref 178), (4, .int (nI k))] [.int (F_X12_shot (xs (k + 1)) (xs (k + 2)) B JB)] (mI A (FI_X12_shot (xs (k + 1)) (xs (k + 2)) B JB)) (mJ JA JB) R 179 g
  refine q_pop ok dL_law_469 rfl ?_
  refine q_goto (tgt := 1409) ok dL_law_470 (by decide) ?_
  exact kk
set_option maxHeartbeats 2000000 in
set_option maxRecDepth 40000 in
theorem law_c6 {K : KT} {b L k g cl sl : Nat} {xs : Nat → Int32} {A B : SI} {JA JB : SJ} {R : SR} (ok : OK K mL_law 1000) (sc : Sc K b L xs) (ro : RO R) (rm : RM R) (hk6 : k + 5 < L) (hm0 : H_X12_way (xs (k + 1)) (xs (k + 2)) B JB) (kk : WL K b cl sl 1409 [(1, .ref 0), (2, .ref 130), (3, .ref 178), (4, .int (nI k))] [] (mI A (FI_X12_way (xs (k + 1)) (xs (k + 2)) B JB)) (mJ JA JB) R 179 g) : WL K b cl sl 473 [(1, .ref 0), (2, .ref 130), (3, .ref 178), (4, .int (nI k))] [] (mI A B) (mJ JA JB) R 179 g := by
  refine q_aload_n ok dL_law_473 0 rfl ?_
  refine q_sc (j := 1) ok sc dL_law_474 dL_law_475 dL_law_477 (by decide) dL_law_478 dL_law_479 3 rfl (by omega) ?_
  refine q_sc (j := 2) ok sc dL_law_480 dL_law_481 dL_law_483 (by decide) dL_law_484 dL_law_485 3 rfl (by omega) ?_
  refine q_x (As := [.int (xs (k + 1)), .int (xs (k + 2))]) ok dL_law_486 iX11_way (lL_53 rfl) (rcv cls11 (congrArg Prod.fst s_0)) (by decide) (c_X11_way ro (by decide) rfl (xs (k + 1)) (xs (k + 2)) ) (by decide) rfl (Nat.le_of_ble_eq_true rfl) ?_
  show WL K b cl sl 489 [(1, .ref 0), (2, .ref 130), (3, .ref 178), (4, .int (nI k))] [.int (F_X11_way (xs (k + 1)) (xs (k + 2)) A JA)] (mI A B) (mJ JA JB) R 179 g
  refine q_pop ok dL_law_489 rfl ?_
  refine q_aload_n ok dL_law_490 1 rfl ?_
  refine q_sc (j := 1) ok sc dL_law_491 dL_law_492 dL_law_494 (by decide) dL_law_495 dL_law_496 3 rfl (by omega) ?_
  refine q_sc (j := 2) ok sc dL_law_497 dL_law_498 dL_law_500 (by decide) dL_law_501 dL_law_502 3 rfl (by omega) ?_
  refine q_m (As := [.int (xs (k + 1)), .int (xs (k + 2))]) ok dL_law_503 iX12_way (lL_56 rfl) (rcv cls12 (congrArg Prod.fst s_130)) (by decide) (c_X12_way rm (by decide) rfl (xs (k + 1)) (xs (k + 2))  hm0) (by decide) rfl (Nat.le_of_ble_eq_true rfl) ?_
  show WL K b cl sl 506 [(1, .ref 0), (2, .ref 130), (3, .ref 178), (4, .int (nI k))] [.int (F_X12_way (xs (k + 1)) (xs (k + 2)) B JB)] (mI A (FI_X12_way (xs (k + 1)) (xs (k + 2)) B JB)) (mJ JA JB) R 179 g
  refine q_pop ok dL_law_506 rfl ?_
  refine q_goto (tgt := 1409) ok dL_law_507 (by decide) ?_
  exact kk
set_option maxHeartbeats 2000000 in
set_option maxRecDepth 40000 in
theorem law_c7 {K : KT} {b L k g cl sl : Nat} {xs : Nat → Int32} {A B : SI} {JA JB : SJ} {R : SR} (ok : OK K mL_law 1000) (sc : Sc K b L xs) (ro : RO R) (rm : RM R) (hk6 : k + 5 < L) (hm0 : H_X12_party (xs (k + 1)) (xs (k + 2)) B JB) (kk : WL K b cl sl 1409 [(1, .ref 0), (2, .ref 130), (3, .ref 178), (4, .int (nI k))] [] (mI A (FI_X12_party (xs (k + 1)) (xs (k + 2)) B JB)) (mJ JA JB) R 179 g) : WL K b cl sl 510 [(1, .ref 0), (2, .ref 130), (3, .ref 178), (4, .int (nI k))] [] (mI A B) (mJ JA JB) R 179 g := by
  refine q_aload_n ok dL_law_510 0 rfl ?_
  refine q_sc (j := 1) ok sc dL_law_511 dL_law_512 dL_law_514 (by decide) dL_law_515 dL_law_516 3 rfl (by omega) ?_
  refine q_sc (j := 2) ok sc dL_law_517 dL_law_518 dL_law_520 (by decide) dL_law_521 dL_law_522 3 rfl (by omega) ?_
  refine q_x (As := [.int (xs (k + 1)), .int (xs (k + 2))]) ok dL_law_523 iX11_party (lL_57 rfl) (rcv cls11 (congrArg Prod.fst s_0)) (by decide) (c_X11_party ro (by decide) rfl (xs (k + 1)) (xs (k + 2)) ) (by decide) rfl (Nat.le_of_ble_eq_true rfl) ?_
  show WL K b cl sl 526 [(1, .ref 0), (2, .ref 130), (3, .ref 178), (4, .int (nI k))] [.int (F_X11_party (xs (k + 1)) (xs (k + 2)) A JA)] (mI A B) (mJ JA JB) R 179 g
  refine q_pop ok dL_law_526 rfl ?_
  refine q_aload_n ok dL_law_527 1 rfl ?_
  refine q_sc (j := 1) ok sc dL_law_528 dL_law_529 dL_law_531 (by decide) dL_law_532 dL_law_533 3 rfl (by omega) ?_
  refine q_sc (j := 2) ok sc dL_law_534 dL_law_535 dL_law_537 (by decide) dL_law_538 dL_law_539 3 rfl (by omega) ?_
  refine q_m (As := [.int (xs (k + 1)), .int (xs (k + 2))]) ok dL_law_540 iX12_party (lL_60 rfl) (rcv cls12 (congrArg Prod.fst s_130)) (by decide) (c_X12_party rm (by decide) rfl (xs (k + 1)) (xs (k + 2))  hm0) (by decide) rfl (Nat.le_of_ble_eq_true rfl) ?_
  show WL K b cl sl 543 [(1, .ref 0), (2, .ref 130), (3, .ref 178), (4, .int (nI k))] [.int (F_X12_party (xs (k + 1)) (xs (k + 2)) B JB)] (mI A (FI_X12_party (xs (k + 1)) (xs (k + 2)) B JB)) (mJ JA JB) R 179 g
  refine q_pop ok dL_law_543 rfl ?_
  refine q_goto (tgt := 1409) ok dL_law_544 (by decide) ?_
  exact kk
set_option maxHeartbeats 2000000 in
set_option maxRecDepth 40000 in
theorem law_c8 {K : KT} {b L k g cl sl : Nat} {xs : Nat → Int32} {A B : SI} {JA JB : SJ} {R : SR} (ok : OK K mL_law 1000) (sc : Sc K b L xs) (ro : RO R) (rm : RM R) (hk6 : k + 5 < L) (hm0 : H_X12_clerk (xs (k + 1)) B JB) (kk : WL K b cl sl 1409 [(1, .ref 0), (2, .ref 130), (3, .ref 178), (4, .int (nI k))] [] (mI A (FI_X12_clerk (xs (k + 1)) B JB)) (mJ JA JB) R 179 g) : WL K b cl sl 547 [(1, .ref 0), (2, .ref 130), (3, .ref 178), (4, .int (nI k))] [] (mI A B) (mJ JA JB) R 179 g := by
  refine q_aload_n ok dL_law_547 0 rfl ?_
  refine q_sc (j := 1) ok sc dL_law_548 dL_law_549 dL_law_551 (by decide) dL_law_552 dL_law_553 3 rfl (by omega) ?_
  refine q_x (As := [.int (xs (k + 1))]) ok dL_law_554 iX11_clerk (lL_61 rfl) (rcv cls11 (congrArg Prod.fst s_0)) (by decide) (c_X11_clerk ro (by decide) rfl (xs (k + 1)) ) (by decide) rfl (Nat.le_of_ble_eq_true rfl) ?_
  show WL K b cl sl 557 [(1, .ref 0), (2, .ref 130), (3, .ref 178), (4, .int (nI k))] [.int (F_X11_clerk (xs (k + 1)) A JA)] (mI A B) (mJ JA JB) R 179 g
  refine q_pop ok dL_law_557 rfl ?_
  refine q_aload_n ok dL_law_558 1 rfl ?_
  refine q_sc (j := 1) ok sc dL_law_559 dL_law_560 dL_law_562 (by decide) dL_law_563 dL_law_564 3 rfl (by omega) ?_
  refine q_m (As := [.int (xs (k + 1))]) ok dL_law_565 iX12_clerk (lL_64 rfl) (rcv cls12 (congrArg Prod.fst s_130)) (by decide) (c_X12_clerk rm (by decide) rfl (xs (k + 1))  hm0) (by decide) rfl (Nat.le_of_ble_eq_true rfl) ?_
  show WL K b cl sl 568 [(1, .ref 0), (2, .ref 130), (3, .ref 178), (4, .int (nI k))] [.int (F_X12_clerk (xs (k + 1)) B JB)] (mI A (FI_X12_clerk (xs (k + 1)) B JB)) (mJ JA JB) R 179 g
  refine q_pop ok dL_law_568 rfl ?_
  refine q_goto (tgt := 1409) ok dL_law_569 (by decide) ?_
  exact kk
set_option maxHeartbeats 2000000 in
set_option maxRecDepth 40000 in
theorem law_c9 {K : KT} {b L k g cl sl : Nat} {xs : Nat → Int32} {A B : SI} {JA JB : SJ} {R : SR} (ok : OK K mL_law 1000) (sc : Sc K b L xs) (ro : RO R) (rm : RM R) (hk6 : k + 5 < L) (hx0 : H_X11_law (xs (k + 1)) (xs (k + 2)) (xs (k + 3)) A JA) (hm0 : H_X12_law (xs (k + 1)) (xs (k + 2)) (xs (k + 3)) B JB) (kk : WL K b cl sl 1409 [(1, .ref 0), (2, .ref 130), (3, .ref 178), (4, .int (nI k))] [] (mI (FI_X11_law (xs (k + 1)) (xs (k + 2)) (xs (k + 3)) A JA) (FI_X12_law (xs (k + 1)) (xs (k + 2)) (xs (k + 3)) B JB)) (mJ (FJ_X11_law (xs (k + 1)) (xs (k + 2)) (xs (k + 3)) A JA) (FJ_X12_law (xs (k + 1)) (xs (k + 2)) (xs (k + 3)) B JB)) R 179 g) : WL K b cl sl 572 [(1, .ref 0), (2, .ref 130), (3, .ref 178), (4, .int (nI k))] [] (mI A B) (mJ JA JB) R 179 g := by
  refine q_aload_n ok dL_law_572 0 rfl ?_
  refine q_sc (j := 1) ok sc dL_law_573 dL_law_574 dL_law_576 (by decide) dL_law_577 dL_law_578 3 rfl (by omega) ?_
  refine q_sc (j := 2) ok sc dL_law_579 dL_law_580 dL_law_582 (by decide) dL_law_583 dL_law_584 3 rfl (by omega) ?_
  refine q_sc (j := 3) ok sc dL_law_585 dL_law_586 dL_law_588 (by decide) dL_law_589 dL_law_590 3 rfl (by omega) ?_
  refine q_x (As := [.int (xs (k + 1)), .int (xs (k + 2)), .int (xs (k + 3))]) ok dL_law_591 iX11_law (lL_65 rfl) (rcv cls11 (congrArg Prod.fst s_0)) (by decide) (c_X11_law ro (by decide) rfl (xs (k + 1)) (xs (k + 2)) (xs (k + 3))  hx0) (by decide) rfl (Nat.le_of_ble_eq_true rfl) ?_
  show WL K b cl sl 594 [(1, .ref 0), (2, .ref 130), (3, .ref 178), (4, .int (nI k))] [.long (F_X11_law (xs (k + 1)) (xs (k + 2)) (xs (k + 3)) A JA)] (mI (FI_X11_law (xs (k + 1)) (xs (k + 2)) (xs (k + 3)) A JA) B) (mJ (FJ_X11_law (xs (k + 1)) (xs (k + 2)) (xs (k + 3)) A JA) JB) R 179 g
  refine q_pop2 ok dL_law_594 rfl ?_
  refine q_aload_n ok dL_law_595 1 rfl ?_
  refine q_sc (j := 1) ok sc dL_law_596 dL_law_597 dL_law_599 (by decide) dL_law_600 dL_law_601 3 rfl (by omega) ?_
  refine q_sc (j := 2) ok sc dL_law_602 dL_law_603 dL_law_605 (by decide) dL_law_606 dL_law_607 3 rfl (by omega) ?_
  refine q_sc (j := 3) ok sc dL_law_608 dL_law_609 dL_law_611 (by decide) dL_law_612 dL_law_613 3 rfl (by omega) ?_
  refine q_m (As := [.int (xs (k + 1)), .int (xs (k + 2)), .int (xs (k + 3))]) ok dL_law_614 iX12_law (lL_69 rfl) (rcv cls12 (congrArg Prod.fst s_130)) (by decide) (c_X12_law rm (by decide) rfl (xs (k + 1)) (xs (k + 2)) (xs (k + 3))  hm0) (by decide) rfl (Nat.le_of_ble_eq_true rfl) ?_
  show WL K b cl sl 617 [(1, .ref 0), (2, .ref 130), (3, .ref 178), (4, .int (nI k))] [.long (F_X12_law (xs (k + 1)) (xs (k + 2)) (xs (k + 3)) B JB)] (mI (FI_X11_law (xs (k + 1)) (xs (k + 2)) (xs (k + 3)) A JA) (FI_X12_law (xs (k + 1)) (xs (k + 2)) (xs (k + 3)) B JB)) (mJ (FJ_X11_law (xs (k + 1)) (xs (k + 2)) (xs (k + 3)) A JA) (FJ_X12_law (xs (k + 1)) (xs (k + 2)) (xs (k + 3)) B JB)) R 179 g
  refine q_pop2 ok dL_law_617 rfl ?_
  refine q_goto (tgt := 1409) ok dL_law_618 (by decide) ?_
  exact kk
set_option maxHeartbeats 2000000 in
set_option maxRecDepth 40000 in
theorem law_c10 {K : KT} {b L k g cl sl : Nat} {xs : Nat → Int32} {A B : SI} {JA JB : SJ} {R : SR} (ok : OK K mL_law 1000) (sc : Sc K b L xs) (ro : RO R) (rm : RM R) (hk6 : k + 5 < L) (hm0 : H_X12_plums (xs (k + 1)) (xs (k + 2)) B JB) (kk : WL K b cl sl 1409 [(1, .ref 0), (2, .ref 130), (3, .ref 178), (4, .int (nI k))] [] (mI (FI_X11_plums (xs (k + 1)) (xs (k + 2)) A JA) (FI_X12_plums (xs (k + 1)) (xs (k + 2)) B JB)) (mJ JA JB) R 179 g) : WL K b cl sl 621 [(1, .ref 0), (2, .ref 130), (3, .ref 178), (4, .int (nI k))] [] (mI A B) (mJ JA JB) R 179 g := by
  refine q_aload_n ok dL_law_621 0 rfl ?_
  refine q_sc (j := 1) ok sc dL_law_622 dL_law_623 dL_law_625 (by decide) dL_law_626 dL_law_627 3 rfl (by omega) ?_
  refine q_sc (j := 2) ok sc dL_law_628 dL_law_629 dL_law_631 (by decide) dL_law_632 dL_law_633 3 rfl (by omega) ?_
  refine q_x (As := [.int (xs (k + 1)), .int (xs (k + 2))]) ok dL_law_634 iX11_plums (lL_70 rfl) (rcv cls11 (congrArg Prod.fst s_0)) (by decide) (c_X11_plums ro (by decide) rfl (xs (k + 1)) (xs (k + 2)) ) (by decide) rfl (Nat.le_of_ble_eq_true rfl) ?_
  show WL K b cl sl 637 [(1, .ref 0), (2, .ref 130), (3, .ref 178), (4, .int (nI k))] [.int (F_X11_plums (xs (k + 1)) (xs (k + 2)) A JA)] (mI (FI_X11_plums (xs (k + 1)) (xs (k + 2)) A JA) B) (mJ JA JB) R 179 g
  refine q_pop ok dL_law_637 rfl ?_
  refine q_aload_n ok dL_law_638 1 rfl ?_
  refine q_sc (j := 1) ok sc dL_law_639 dL_law_640 dL_law_642 (by decide) dL_law_643 dL_law_644 3 rfl (by omega) ?_
  refine q_sc (j := 2) ok sc dL_law_645 dL_law_646 dL_law_648 (by decide) dL_law_649 dL_law_650 3 rfl (by omega) ?_
  refine q_m (As := [.int (xs (k + 1)), .int (xs (k + 2))]) ok dL_law_651 iX12_plums (lL_73 rfl) (rcv cls12 (congrArg Prod.fst s_130)) (by decide) (c_X12_plums rm (by decide) rfl (xs (k + 1)) (xs (k + 2))  hm0) (by decide) rfl (Nat.le_of_ble_eq_true rfl) ?_
  show WL K b cl sl 654 [(1, .ref 0), (2, .ref 130), (3, .ref 178), (4, .int (nI k))] [.int (F_X12_plums (xs (k + 1)) (xs (k + 2)) B JB)] (mI (FI_X11_plums (xs (k + 1)) (xs (k + 2)) A JA) (FI_X12_plums (xs (k + 1)) (xs (k + 2)) B JB)) (mJ JA JB) R 179 g
  refine q_pop ok dL_law_654 rfl ?_
  refine q_goto (tgt := 1409) ok dL_law_655 (by decide) ?_
  exact kk
set_option maxHeartbeats 2000000 in
set_option maxRecDepth 40000 in
theorem law_c11 {K : KT} {b L k g cl sl : Nat} {xs : Nat → Int32} {A B : SI} {JA JB : SJ} {R : SR} (ok : OK K mL_law 1000) (sc : Sc K b L xs) (ro : RO R) (rm : RM R) (hk6 : k + 5 < L) (hm0 : H_X12_move (xs (k + 1)) (xs (k + 2)) B JB) (kk : WL K b cl sl 1409 [(1, .ref 0), (2, .ref 130), (3, .ref 178), (4, .int (nI k))] [] (mI (FI_X11_move (xs (k + 1)) (xs (k + 2)) A JA) (FI_X12_move (xs (k + 1)) (xs (k + 2)) B JB)) (mJ JA JB) R 179 g) : WL K b cl sl 658 [(1, .ref 0), (2, .ref 130), (3, .ref 178), (4, .int (nI k))] [] (mI A B) (mJ JA JB) R 179 g := by
  refine q_aload_n ok dL_law_658 0 rfl ?_
  refine q_sc (j := 1) ok sc dL_law_659 dL_law_660 dL_law_662 (by decide) dL_law_663 dL_law_664 3 rfl (by omega) ?_
  refine q_sc (j := 2) ok sc dL_law_665 dL_law_666 dL_law_668 (by decide) dL_law_669 dL_law_670 3 rfl (by omega) ?_
  refine q_x (As := [.int (xs (k + 1)), .int (xs (k + 2))]) ok dL_law_671 iX11_move (lL_74 rfl) (rcv cls11 (congrArg Prod.fst s_0)) (by decide) (c_X11_move ro (by decide) rfl (xs (k + 1)) (xs (k + 2)) ) (by decide) rfl (Nat.le_of_ble_eq_true rfl) ?_
  show WL K b cl sl 674 [(1, .ref 0), (2, .ref 130), (3, .ref 178), (4, .int (nI k))] [.int (F_X11_move (xs (k + 1)) (xs (k + 2)) A JA)] (mI (FI_X11_move (xs (k + 1)) (xs (k + 2)) A JA) B) (mJ JA JB) R 179 g
  refine q_pop ok dL_law_674 rfl ?_
  refine q_aload_n ok dL_law_675 1 rfl ?_
  refine q_sc (j := 1) ok sc dL_law_676 dL_law_677 dL_law_679 (by decide) dL_law_680 dL_law_681 3 rfl (by omega) ?_
  refine q_sc (j := 2) ok sc dL_law_682 dL_law_683 dL_law_685 (by decide) dL_law_686 dL_law_687 3 rfl (by omega) ?_
  refine q_m (As := [.int (xs (k + 1)), .int (xs (k + 2))]) ok dL_law_688 iX12_move (lL_78 rfl) (rcv cls12 (congrArg Prod.fst s_130)) (by decide) (c_X12_move rm (by decide) rfl (xs (k + 1)) (xs (k + 2))  hm0) (by decide) rfl (Nat.le_of_ble_eq_true rfl) ?_
  show WL K b cl sl 691 [(1, .ref 0), (2, .ref 130), (3, .ref 178), (4, .int (nI k))] [.int (F_X12_move (xs (k + 1)) (xs (k + 2)) B JB)] (mI (FI_X11_move (xs (k + 1)) (xs (k + 2)) A JA) (FI_X12_move (xs (k + 1)) (xs (k + 2)) B JB)) (mJ JA JB) R 179 g
  refine q_pop ok dL_law_691 rfl ?_
  refine q_goto (tgt := 1409) ok dL_law_692 (by decide) ?_
  exact kk
set_option maxHeartbeats 2000000 in
set_option maxRecDepth 40000 in
theorem law_c12 {K : KT} {b L k g cl sl : Nat} {xs : Nat → Int32} {A B : SI} {JA JB : SJ} {R : SR} (ok : OK K mL_law 1000) (sc : Sc K b L xs) (ro : RO R) (rm : RM R) (hk6 : k + 5 < L) (hx0 : H_X11_tell (xs (k + 1)) (xs (k + 2)) A JA) (hm0 : H_X12_tell (xs (k + 1)) (xs (k + 2)) B JB) (kk : WL K b cl sl 1409 [(1, .ref 0), (2, .ref 130), (3, .ref 178), (4, .int (nI k))] [] (mI (FI_X11_tell (xs (k + 1)) (xs (k + 2)) A JA) (FI_X12_tell (xs (k + 1)) (xs (k + 2)) B JB)) (mJ JA JB) R 179 g) : WL K b cl sl 695 [(1, .ref 0), (2, .ref 130), (3, .ref 178), (4, .int (nI k))] [] (mI A B) (mJ JA JB) R 179 g := by
  refine q_aload_n ok dL_law_695 0 rfl ?_
  refine q_sc (j := 1) ok sc dL_law_696 dL_law_697 dL_law_699 (by decide) dL_law_700 dL_law_701 3 rfl (by omega) ?_
  refine q_sc (j := 2) ok sc dL_law_702 dL_law_703 dL_law_705 (by decide) dL_law_706 dL_law_707 3 rfl (by omega) ?_
  refine q_x (As := [.int (xs (k + 1)), .int (xs (k + 2))]) ok dL_law_708 iX11_tell (lL_79 rfl) (rcv cls11 (congrArg Prod.fst s_0)) (by decide) (c_X11_tell ro (by decide) rfl (xs (k + 1)) (xs (k + 2))  hx0) (by decide) rfl (Nat.le_of_ble_eq_true rfl) ?_
  show WL K b cl sl 711 [(1, .ref 0), (2, .ref 130), (3, .ref 178), (4, .int (nI k))] [.int (F_X11_tell (xs (k + 1)) (xs (k + 2)) A JA)] (mI (FI_X11_tell (xs (k + 1)) (xs (k + 2)) A JA) B) (mJ JA JB) R 179 g
  refine q_pop ok dL_law_711 rfl ?_
  refine q_aload_n ok dL_law_712 1 rfl ?_
  refine q_sc (j := 1) ok sc dL_law_713 dL_law_714 dL_law_716 (by decide) dL_law_717 dL_law_718 3 rfl (by omega) ?_
  refine q_sc (j := 2) ok sc dL_law_719 dL_law_720 dL_law_722 (by decide) dL_law_723 dL_law_724 3 rfl (by omega) ?_
  refine q_m (As := [.int (xs (k + 1)), .int (xs (k + 2))]) ok dL_law_725 iX12_tell (lL_82 rfl) (rcv cls12 (congrArg Prod.fst s_130)) (by decide) (c_X12_tell rm (by decide) rfl (xs (k + 1)) (xs (k + 2))  hm0) (by decide) rfl (Nat.le_of_ble_eq_true rfl) ?_
  show WL K b cl sl 728 [(1, .ref 0), (2, .ref 130), (3, .ref 178), (4, .int (nI k))] [.int (F_X12_tell (xs (k + 1)) (xs (k + 2)) B JB)] (mI (FI_X11_tell (xs (k + 1)) (xs (k + 2)) A JA) (FI_X12_tell (xs (k + 1)) (xs (k + 2)) B JB)) (mJ JA JB) R 179 g
  refine q_pop ok dL_law_728 rfl ?_
  refine q_goto (tgt := 1409) ok dL_law_729 (by decide) ?_
  exact kk
set_option maxHeartbeats 2000000 in
set_option maxRecDepth 40000 in
theorem law_c13 {K : KT} {b L k g cl sl : Nat} {xs : Nat → Int32} {A B : SI} {JA JB : SJ} {R : SR} (ok : OK K mL_law 1000) (sc : Sc K b L xs) (ro : RO R) (rm : RM R) (hk6 : k + 5 < L) (hm0 : H_X12_forget (xs (k + 1)) B JB) (kk : WL K b cl sl 1409 [(1, .ref 0), (2, .ref 130), (3, .ref 178), (4, .int (nI k))] [] (mI (FI_X11_forget (xs (k + 1)) A JA) (FI_X12_forget (xs (k + 1)) B JB)) (mJ JA JB) R 179 g) : WL K b cl sl 732 [(1, .ref 0), (2, .ref 130), (3, .ref 178), (4, .int (nI k))] [] (mI A B) (mJ JA JB) R 179 g := by
  refine q_aload_n ok dL_law_732 0 rfl ?_
  refine q_sc (j := 1) ok sc dL_law_733 dL_law_734 dL_law_736 (by decide) dL_law_737 dL_law_738 3 rfl (by omega) ?_
  refine q_x (As := [.int (xs (k + 1))]) ok dL_law_739 iX11_forget (lL_83 rfl) (rcv cls11 (congrArg Prod.fst s_0)) (by decide) (c_X11_forget ro (by decide) rfl (xs (k + 1)) ) (by decide) rfl (Nat.le_of_ble_eq_true rfl) ?_
  show WL K b cl sl 742 [(1, .ref 0), (2, .ref 130), (3, .ref 178), (4, .int (nI k))] [.int (F_X11_forget (xs (k + 1)) A JA)] (mI (FI_X11_forget (xs (k + 1)) A JA) B) (mJ JA JB) R 179 g
  refine q_pop ok dL_law_742 rfl ?_
  refine q_aload_n ok dL_law_743 1 rfl ?_
  refine q_sc (j := 1) ok sc dL_law_744 dL_law_745 dL_law_747 (by decide) dL_law_748 dL_law_749 3 rfl (by omega) ?_
  refine q_m (As := [.int (xs (k + 1))]) ok dL_law_750 iX12_forget (lL_87 rfl) (rcv cls12 (congrArg Prod.fst s_130)) (by decide) (c_X12_forget rm (by decide) rfl (xs (k + 1))  hm0) (by decide) rfl (Nat.le_of_ble_eq_true rfl) ?_
  show WL K b cl sl 753 [(1, .ref 0), (2, .ref 130), (3, .ref 178), (4, .int (nI k))] [.int (F_X12_forget (xs (k + 1)) B JB)] (mI (FI_X11_forget (xs (k + 1)) A JA) (FI_X12_forget (xs (k + 1)) B JB)) (mJ JA JB) R 179 g
  refine q_pop ok dL_law_753 rfl ?_
  refine q_goto (tgt := 1409) ok dL_law_754 (by decide) ?_
  exact kk
set_option maxHeartbeats 2000000 in
set_option maxRecDepth 40000 in
theorem law_c14 {K : KT} {b L k g cl sl : Nat} {xs : Nat → Int32} {A B : SI} {JA JB : SJ} {R : SR} (ok : OK K mL_law 1000) (sc : Sc K b L xs) (ro : RO R) (rm : RM R) (hk6 : k + 5 < L) (hx0 : H_X11_go (xs (k + 1)) A JA) (hm0 : H_X12_go (xs (k + 1)) B JB) (kk : WL K b cl sl 1409 [(1, .ref 0), (2, .ref 130), (3, .ref 178), (4, .int (nI k))] [] (mI (FI_X11_go (xs (k + 1)) A JA) (FI_X12_go (xs (k + 1)) B JB)) (mJ (FJ_X11_go (xs (k + 1)) A JA) (FJ_X12_go (xs (k + 1)) B JB)) R 179 g) : WL K b cl sl 757 [(1, .ref 0), (2, .ref 130), (3, .ref 178), (4, .int (nI k))] [] (mI A B) (mJ JA JB) R 179 g := by
  refine q_aload_n ok dL_law_757 0 rfl ?_
  refine q_sc (j := 1) ok sc dL_law_758 dL_law_759 dL_law_761 (by decide) dL_law_762 dL_law_763 3 rfl (by omega) ?_
  refine q_x (As := [.int (xs (k + 1))]) ok dL_law_764 iX11_go (lL_88 rfl) (rcv cls11 (congrArg Prod.fst s_0)) (by decide) (c_X11_go ro (by decide) rfl (xs (k + 1))  hx0) (by decide) rfl (Nat.le_of_ble_eq_true rfl) ?_
  show WL K b cl sl 767 [(1, .ref 0), (2, .ref 130), (3, .ref 178), (4, .int (nI k))] [.int (F_X11_go (xs (k + 1)) A JA)] (mI (FI_X11_go (xs (k + 1)) A JA) B) (mJ (FJ_X11_go (xs (k + 1)) A JA) JB) R 179 g
  refine q_pop ok dL_law_767 rfl ?_
  refine q_aload_n ok dL_law_768 1 rfl ?_
  refine q_sc (j := 1) ok sc dL_law_769 dL_law_770 dL_law_772 (by decide) dL_law_773 dL_law_774 3 rfl (by omega) ?_
  refine q_m (As := [.int (xs (k + 1))]) ok dL_law_775 iX12_go (lL_91 rfl) (rcv cls12 (congrArg Prod.fst s_130)) (by decide) (c_X12_go rm (by decide) rfl (xs (k + 1))  hm0) (by decide) rfl (Nat.le_of_ble_eq_true rfl) ?_
  show WL K b cl sl 778 [(1, .ref 0), (2, .ref 130), (3, .ref 178), (4, .int (nI k))] [.int (F_X12_go (xs (k + 1)) B JB)] (mI (FI_X11_go (xs (k + 1)) A JA) (FI_X12_go (xs (k + 1)) B JB)) (mJ (FJ_X11_go (xs (k + 1)) A JA) (FJ_X12_go (xs (k + 1)) B JB)) R 179 g
  refine q_pop ok dL_law_778 rfl ?_
  refine q_goto (tgt := 1409) ok dL_law_779 (by decide) ?_
  exact kk
set_option maxHeartbeats 2000000 in
set_option maxRecDepth 40000 in
theorem law_c15 {K : KT} {b L k g cl sl : Nat} {xs : Nat → Int32} {A B : SI} {JA JB : SJ} {R : SR} (ok : OK K mL_law 1000) (sc : Sc K b L xs) (ro : RO R) (rm : RM R) (hk6 : k + 5 < L) (hx0 : H_X11_ahead (xs (k + 1)) (xs (k + 2)) A JA) (hm0 : H_X12_ahead (xs (k + 1)) (xs (k + 2)) B JB) (kk : WL K b cl sl 1409 [(1, .ref 0), (2, .ref 130), (3, .ref 178), (4, .int (nI k))] [] (mI (FI_X11_ahead (xs (k + 1)) (xs (k + 2)) A JA) (FI_X12_ahead (xs (k + 1)) (xs (k + 2)) B JB)) (mJ (FJ_X11_ahead (xs (k + 1)) (xs (k + 2)) A JA) (FJ_X12_ahead (xs (k + 1)) (xs (k + 2)) B JB)) R 179 g) : WL K b cl sl 782 [(1, .ref 0), (2, .ref 130), (3, .ref 178), (4, .int (nI k))] [] (mI A B) (mJ JA JB) R 179 g := by
  refine q_aload_n ok dL_law_782 0 rfl ?_
  refine q_sc (j := 1) ok sc dL_law_783 dL_law_784 dL_law_786 (by decide) dL_law_787 dL_law_788 3 rfl (by omega) ?_
  refine q_sc (j := 2) ok sc dL_law_789 dL_law_790 dL_law_792 (by decide) dL_law_793 dL_law_794 3 rfl (by omega) ?_
  refine q_x (As := [.int (xs (k + 1)), .int (xs (k + 2))]) ok dL_law_795 iX11_ahead (lL_92 rfl) (rcv cls11 (congrArg Prod.fst s_0)) (by decide) (c_X11_ahead ro (by decide) rfl (xs (k + 1)) (xs (k + 2))  hx0) (by decide) rfl (Nat.le_of_ble_eq_true rfl) ?_
  show WL K b cl sl 798 [(1, .ref 0), (2, .ref 130), (3, .ref 178), (4, .int (nI k))] [.int (F_X11_ahead (xs (k + 1)) (xs (k + 2)) A JA)] (mI (FI_X11_ahead (xs (k + 1)) (xs (k + 2)) A JA) B) (mJ (FJ_X11_ahead (xs (k + 1)) (xs (k + 2)) A JA) JB) R 179 g
  refine q_pop ok dL_law_798 rfl ?_
  refine q_aload_n ok dL_law_799 1 rfl ?_
  refine q_sc (j := 1) ok sc dL_law_800 dL_law_801 dL_law_803 (by decide) dL_law_804 dL_law_805 3 rfl (by omega) ?_
  refine q_sc (j := 2) ok sc dL_law_806 dL_law_807 dL_law_809 (by decide) dL_law_810 dL_law_811 3 rfl (by omega) ?_
  refine q_m (As := [.int (xs (k + 1)), .int (xs (k + 2))]) ok dL_law_812 iX12_ahead (lL_95 rfl) (rcv cls12 (congrArg Prod.fst s_130)) (by decide) (c_X12_ahead rm (by decide) rfl (xs (k + 1)) (xs (k + 2))  hm0) (by decide) rfl (Nat.le_of_ble_eq_true rfl) ?_
  show WL K b cl sl 815 [(1, .ref 0), (2, .ref 130), (3, .ref 178), (4, .int (nI k))] [.int (F_X12_ahead (xs (k + 1)) (xs (k + 2)) B JB)] (mI (FI_X11_ahead (xs (k + 1)) (xs (k + 2)) A JA) (FI_X12_ahead (xs (k + 1)) (xs (k + 2)) B JB)) (mJ (FJ_X11_ahead (xs (k + 1)) (xs (k + 2)) A JA) (FJ_X12_ahead (xs (k + 1)) (xs (k + 2)) B JB)) R 179 g
  refine q_pop ok dL_law_815 rfl ?_
  refine q_goto (tgt := 1409) ok dL_law_816 (by decide) ?_
  exact kk
set_option maxHeartbeats 2000000 in
set_option maxRecDepth 40000 in
theorem law_c16 {K : KT} {b L k g cl sl : Nat} {xs : Nat → Int32} {A B : SI} {JA JB : SJ} {R : SR} (ok : OK K mL_law 1000) (sc : Sc K b L xs) (ro : RO R) (rm : RM R) (hk6 : k + 5 < L) (hm0 : H_X12_breaks  B JB) (kk : WL K b cl sl 1409 [(1, .ref 0), (2, .ref 130), (3, .ref 178), (4, .int (nI k))] [] (mI A (FI_X12_breaks  B JB)) (mJ JA JB) R 179 g) : WL K b cl sl 819 [(1, .ref 0), (2, .ref 130), (3, .ref 178), (4, .int (nI k))] [] (mI A B) (mJ JA JB) R 179 g := by
  refine q_aload_n ok dL_law_819 0 rfl ?_
  refine q_x (As := []) ok dL_law_820 iX11_breaks (lL_96 rfl) (rcv cls11 (congrArg Prod.fst s_0)) (by decide) (c_X11_breaks ro (by decide) rfl  ) (by decide) rfl (Nat.le_of_ble_eq_true rfl) ?_
  show WL K b cl sl 823 [(1, .ref 0), (2, .ref 130), (3, .ref 178), (4, .int (nI k))] [.int (F_X11_breaks  A JA)] (mI A B) (mJ JA JB) R 179 g
  refine q_pop ok dL_law_823 rfl ?_
  refine q_aload_n ok dL_law_824 1 rfl ?_
  refine q_m (As := []) ok dL_law_825 iX12_breaks (lL_99 rfl) (rcv cls12 (congrArg Prod.fst s_130)) (by decide) (c_X12_breaks rm (by decide) rfl   hm0) (by decide) rfl (Nat.le_of_ble_eq_true rfl) ?_
  show WL K b cl sl 828 [(1, .ref 0), (2, .ref 130), (3, .ref 178), (4, .int (nI k))] [.int (F_X12_breaks  B JB)] (mI A (FI_X12_breaks  B JB)) (mJ JA JB) R 179 g
  refine q_pop ok dL_law_828 rfl ?_
  refine q_goto (tgt := 1409) ok dL_law_829 (by decide) ?_
  exact kk
set_option maxHeartbeats 2000000 in
set_option maxRecDepth 40000 in
theorem law_c17 {K : KT} {b L k g cl sl : Nat} {xs : Nat → Int32} {A B : SI} {JA JB : SJ} {R : SR} (ok : OK K mL_law 1000) (sc : Sc K b L xs) (ro : RO R) (rm : RM R) (hk6 : k + 5 < L) (hx0 : H_X11_agrees  A JA) (hm0 : H_X12_agrees  B JB) (kk : WL K b cl sl 1409 [(1, .ref 0), (2, .ref 130), (3, .ref 178), (4, .int (nI k))] [] (mI (FI_X11_agrees  A JA) (FI_X12_agrees  B JB)) (mJ (FJ_X11_agrees  A JA) (FJ_X12_agrees  B JB)) R 179 g) : WL K b cl sl 832 [(1, .ref 0), (2, .ref 130), (3, .ref 178), (4, .int (nI k))] [] (mI A B) (mJ JA JB) R 179 g := by
  refine q_aload_n ok dL_law_832 0 rfl ?_
  refine q_x (As := []) ok dL_law_833 iX11_agrees (lL_100 rfl) (rcv cls11 (congrArg Prod.fst s_0)) (by decide) (c_X11_agrees ro (by decide) rfl   hx0) (by decide) rfl (Nat.le_of_ble_eq_true rfl) ?_
  show WL K b cl sl 836 [(1, .ref 0), (2, .ref 130), (3, .ref 178), (4, .int (nI k))] [.int (F_X11_agrees  A JA)] (mI (FI_X11_agrees  A JA) B) (mJ (FJ_X11_agrees  A JA) JB) R 179 g
  refine q_pop ok dL_law_836 rfl ?_
  refine q_aload_n ok dL_law_837 1 rfl ?_
  refine q_m (As := []) ok dL_law_838 iX12_agrees (lL_103 rfl) (rcv cls12 (congrArg Prod.fst s_130)) (by decide) (c_X12_agrees rm (by decide) rfl   hm0) (by decide) rfl (Nat.le_of_ble_eq_true rfl) ?_
  show WL K b cl sl 841 [(1, .ref 0), (2, .ref 130), (3, .ref 178), (4, .int (nI k))] [.int (F_X12_agrees  B JB)] (mI (FI_X11_agrees  A JA) (FI_X12_agrees  B JB)) (mJ (FJ_X11_agrees  A JA) (FJ_X12_agrees  B JB)) R 179 g
  refine q_pop ok dL_law_841 rfl ?_
  refine q_goto (tgt := 1409) ok dL_law_842 (by decide) ?_
  exact kk
set_option maxHeartbeats 2000000 in
set_option maxRecDepth 40000 in
theorem law_c18 {K : KT} {b L k g cl sl : Nat} {xs : Nat → Int32} {A B : SI} {JA JB : SJ} {R : SR} (ok : OK K mL_law 1000) (sc : Sc K b L xs) (ro : RO R) (rm : RM R) (hk6 : k + 5 < L) (hx0 : H_X11_least (xs (k + 1)) A JA) (hm0 : H_X12_least (xs (k + 1)) B JB) (kk : WL K b cl sl 1409 [(1, .ref 0), (2, .ref 130), (3, .ref 178), (4, .int (nI k))] [] (mI (FI_X11_least (xs (k + 1)) A JA) (FI_X12_least (xs (k + 1)) B JB)) (mJ (FJ_X11_least (xs (k + 1)) A JA) (FJ_X12_least (xs (k + 1)) B JB)) R 179 g) : WL K b cl sl 845 [(1, .ref 0), (2, .ref 130), (3, .ref 178), (4, .int (nI k))] [] (mI A B) (mJ JA JB) R 179 g := by
  refine q_aload_n ok dL_law_845 0 rfl ?_
  refine q_sc (j := 1) ok sc dL_law_846 dL_law_847 dL_law_849 (by decide) dL_law_850 dL_law_851 3 rfl (by omega) ?_
  refine q_x (As := [.int (xs (k + 1))]) ok dL_law_852 iX11_least (lL_104 rfl) (rcv cls11 (congrArg Prod.fst s_0)) (by decide) (c_X11_least ro (by decide) rfl (xs (k + 1))  hx0) (by decide) rfl (Nat.le_of_ble_eq_true rfl) ?_
  show WL K b cl sl 855 [(1, .ref 0), (2, .ref 130), (3, .ref 178), (4, .int (nI k))] [.int (F_X11_least (xs (k + 1)) A JA)] (mI (FI_X11_least (xs (k + 1)) A JA) B) (mJ (FJ_X11_least (xs (k + 1)) A JA) JB) R 179 g
  refine q_pop ok dL_law_855 rfl ?_
  refine q_aload_n ok dL_law_856 1 rfl ?_
  refine q_sc (j := 1) ok sc dL_law_857 dL_law_858 dL_law_860 (by decide) dL_law_861 dL_law_862 3 rfl (by omega) ?_
  refine q_m (As := [.int (xs (k + 1))]) ok dL_law_863 iX12_least (lL_107 rfl) (rcv cls12 (congrArg Prod.fst s_130)) (by decide) (c_X12_least rm (by decide) rfl (xs (k + 1))  hm0) (by decide) rfl (Nat.le_of_ble_eq_true rfl) ?_
  show WL K b cl sl 866 [(1, .ref 0), (2, .ref 130), (3, .ref 178), (4, .int (nI k))] [.int (F_X12_least (xs (k + 1)) B JB)] (mI (FI_X11_least (xs (k + 1)) A JA) (FI_X12_least (xs (k + 1)) B JB)) (mJ (FJ_X11_least (xs (k + 1)) A JA) (FJ_X12_least (xs (k + 1)) B JB)) R 179 g
  refine q_pop ok dL_law_866 rfl ?_
  refine q_goto (tgt := 1409) ok dL_law_867 (by decide) ?_
  exact kk
set_option maxHeartbeats 2000000 in
set_option maxRecDepth 40000 in
theorem law_c19 {K : KT} {b L k g cl sl : Nat} {xs : Nat → Int32} {A B : SI} {JA JB : SJ} {R : SR} (ok : OK K mL_law 1000) (sc : Sc K b L xs) (ro : RO R) (rm : RM R) (hk6 : k + 5 < L) (hx0 : H_X11_order (xs (k + 1)) A JA) (hm0 : H_X12_order (xs (k + 1)) B JB) (kk : WL K b cl sl 1409 [(1, .ref 0), (2, .ref 130), (3, .ref 178), (4, .int (nI k))] [] (mI (FI_X11_order (xs (k + 1)) A JA) (FI_X12_order (xs (k + 1)) B JB)) (mJ (FJ_X11_order (xs (k + 1)) A JA) (FJ_X12_order (xs (k + 1)) B JB)) R 179 g) : WL K b cl sl 870 [(1, .ref 0), (2, .ref 130), (3, .ref 178), (4, .int (nI k))] [] (mI A B) (mJ JA JB) R 179 g := by
  refine q_aload_n ok dL_law_870 0 rfl ?_
  refine q_sc (j := 1) ok sc dL_law_871 dL_law_872 dL_law_874 (by decide) dL_law_875 dL_law_876 3 rfl (by omega) ?_
  refine q_x (As := [.int (xs (k + 1))]) ok dL_law_877 iX11_order (lL_108 rfl) (rcv cls11 (congrArg Prod.fst s_0)) (by decide) (c_X11_order ro (by decide) rfl (xs (k + 1))  hx0) (by decide) rfl (Nat.le_of_ble_eq_true rfl) ?_
  show WL K b cl sl 880 [(1, .ref 0), (2, .ref 130), (3, .ref 178), (4, .int (nI k))] [.int (F_X11_order (xs (k + 1)) A JA)] (mI (FI_X11_order (xs (k + 1)) A JA) B) (mJ (FJ_X11_order (xs (k + 1)) A JA) JB) R 179 g
  refine q_pop ok dL_law_880 rfl ?_
  refine q_aload_n ok dL_law_881 1 rfl ?_
  refine q_sc (j := 1) ok sc dL_law_882 dL_law_883 dL_law_885 (by decide) dL_law_886 dL_law_887 3 rfl (by omega) ?_
  refine q_m (As := [.int (xs (k + 1))]) ok dL_law_888 iX12_order (lL_111 rfl) (rcv cls12 (congrArg Prod.fst s_130)) (by decide) (c_X12_order rm (by decide) rfl (xs (k + 1))  hm0) (by decide) rfl (Nat.le_of_ble_eq_true rfl) ?_
  show WL K b cl sl 891 [(1, .ref 0), (2, .ref 130), (3, .ref 178), (4, .int (nI k))] [.int (F_X12_order (xs (k + 1)) B JB)] (mI (FI_X11_order (xs (k + 1)) A JA) (FI_X12_order (xs (k + 1)) B JB)) (mJ (FJ_X11_order (xs (k + 1)) A JA) (FJ_X12_order (xs (k + 1)) B JB)) R 179 g
  refine q_pop ok dL_law_891 rfl ?_
  refine q_goto (tgt := 1409) ok dL_law_892 (by decide) ?_
  exact kk
set_option maxHeartbeats 2000000 in
set_option maxRecDepth 40000 in
theorem law_c20 {K : KT} {b L k g cl sl : Nat} {xs : Nat → Int32} {A B : SI} {JA JB : SJ} {R : SR} (ok : OK K mL_law 1000) (sc : Sc K b L xs) (ro : RO R) (rm : RM R) (hk6 : k + 5 < L) (hm0 : H_X12_noted  B JB) (kk : WL K b cl sl 1409 [(1, .ref 0), (2, .ref 130), (3, .ref 178), (4, .int (nI k))] [] (mI A (FI_X12_noted  B JB)) (mJ JA JB) R 179 g) : WL K b cl sl 895 [(1, .ref 0), (2, .ref 130), (3, .ref 178), (4, .int (nI k))] [] (mI A B) (mJ JA JB) R 179 g := by
  refine q_aload_n ok dL_law_895 0 rfl ?_
  refine q_x (As := []) ok dL_law_896 iX11_noted (lL_112 rfl) (rcv cls11 (congrArg Prod.fst s_0)) (by decide) (c_X11_noted ro (by decide) rfl  ) (by decide) rfl (Nat.le_of_ble_eq_true rfl) ?_
  show WL K b cl sl 899 [(1, .ref 0), (2, .ref 130), (3, .ref 178), (4, .int (nI k))] [.int (F_X11_noted  A JA)] (mI A B) (mJ JA JB) R 179 g
  refine q_pop ok dL_law_899 rfl ?_
  refine q_aload_n ok dL_law_900 1 rfl ?_
  refine q_m (As := []) ok dL_law_901 iX12_noted (lL_115 rfl) (rcv cls12 (congrArg Prod.fst s_130)) (by decide) (c_X12_noted rm (by decide) rfl   hm0) (by decide) rfl (Nat.le_of_ble_eq_true rfl) ?_
  show WL K b cl sl 904 [(1, .ref 0), (2, .ref 130), (3, .ref 178), (4, .int (nI k))] [.int (F_X12_noted  B JB)] (mI A (FI_X12_noted  B JB)) (mJ JA JB) R 179 g
  refine q_pop ok dL_law_904 rfl ?_
  refine q_goto (tgt := 1409) ok dL_law_905 (by decide) ?_
  exact kk
set_option maxHeartbeats 2000000 in
set_option maxRecDepth 40000 in
theorem law_c21 {K : KT} {b L k g cl sl : Nat} {xs : Nat → Int32} {A B : SI} {JA JB : SJ} {R : SR} (ok : OK K mL_law 1000) (sc : Sc K b L xs) (ro : RO R) (rm : RM R) (hk6 : k + 5 < L) (hx0 : H_X11_bribe (xs (k + 1)) A JA) (hm0 : H_X12_bribe (xs (k + 1)) B JB) (kk : WL K b cl sl 1409 [(1, .ref 0), (2, .ref 130), (3, .ref 178), (4, .int (nI k))] [] (mI (FI_X11_bribe (xs (k + 1)) A JA) (FI_X12_bribe (xs (k + 1)) B JB)) (mJ (FJ_X11_bribe (xs (k + 1)) A JA) (FJ_X12_bribe (xs (k + 1)) B JB)) R 179 g) : WL K b cl sl 908 [(1, .ref 0), (2, .ref 130), (3, .ref 178), (4, .int (nI k))] [] (mI A B) (mJ JA JB) R 179 g := by
  refine q_aload_n ok dL_law_908 0 rfl ?_
  refine q_sc (j := 1) ok sc dL_law_909 dL_law_910 dL_law_912 (by decide) dL_law_913 dL_law_914 3 rfl (by omega) ?_
  refine q_x (As := [.int (xs (k + 1))]) ok dL_law_915 iX11_bribe (lL_116 rfl) (rcv cls11 (congrArg Prod.fst s_0)) (by decide) (c_X11_bribe ro (by decide) rfl (xs (k + 1))  hx0) (by decide) rfl (Nat.le_of_ble_eq_true rfl) ?_
  show WL K b cl sl 918 [(1, .ref 0), (2, .ref 130), (3, .ref 178), (4, .int (nI k))] [.int (F_X11_bribe (xs (k + 1)) A JA)] (mI (FI_X11_bribe (xs (k + 1)) A JA) B) (mJ (FJ_X11_bribe (xs (k + 1)) A JA) JB) R 179 g
  refine q_pop ok dL_law_918 rfl ?_
  refine q_aload_n ok dL_law_919 1 rfl ?_
  refine q_sc (j := 1) ok sc dL_law_920 dL_law_921 dL_law_923 (by decide) dL_law_924 dL_law_925 3 rfl (by omega) ?_
  refine q_m (As := [.int (xs (k + 1))]) ok dL_law_926 iX12_bribe (lL_119 rfl) (rcv cls12 (congrArg Prod.fst s_130)) (by decide) (c_X12_bribe rm (by decide) rfl (xs (k + 1))  hm0) (by decide) rfl (Nat.le_of_ble_eq_true rfl) ?_
  show WL K b cl sl 929 [(1, .ref 0), (2, .ref 130), (3, .ref 178), (4, .int (nI k))] [.int (F_X12_bribe (xs (k + 1)) B JB)] (mI (FI_X11_bribe (xs (k + 1)) A JA) (FI_X12_bribe (xs (k + 1)) B JB)) (mJ (FJ_X11_bribe (xs (k + 1)) A JA) (FJ_X12_bribe (xs (k + 1)) B JB)) R 179 g
  refine q_pop ok dL_law_929 rfl ?_
  refine q_goto (tgt := 1409) ok dL_law_930 (by decide) ?_
  exact kk
set_option maxHeartbeats 2000000 in
set_option maxRecDepth 40000 in
theorem law_c22 {K : KT} {b L k g cl sl : Nat} {xs : Nat → Int32} {A B : SI} {JA JB : SJ} {R : SR} (ok : OK K mL_law 1000) (sc : Sc K b L xs) (ro : RO R) (rm : RM R) (hk6 : k + 5 < L) (hm0 : H_X12_rests (xs (k + 1)) (xs (k + 2)) B JB) (kk : WL K b cl sl 1409 [(1, .ref 0), (2, .ref 130), (3, .ref 178), (4, .int (nI k))] [] (mI A (FI_X12_rests (xs (k + 1)) (xs (k + 2)) B JB)) (mJ JA JB) R 179 g) : WL K b cl sl 933 [(1, .ref 0), (2, .ref 130), (3, .ref 178), (4, .int (nI k))] [] (mI A B) (mJ JA JB) R 179 g := by
  refine q_aload_n ok dL_law_933 0 rfl ?_
  refine q_sc (j := 1) ok sc dL_law_934 dL_law_935 dL_law_937 (by decide) dL_law_938 dL_law_939 3 rfl (by omega) ?_
  refine q_sc (j := 2) ok sc dL_law_940 dL_law_941 dL_law_943 (by decide) dL_law_944 dL_law_945 3 rfl (by omega) ?_
  refine q_x (As := [.int (xs (k + 1)), .int (xs (k + 2))]) ok dL_law_946 iX11_rests (lL_120 rfl) (rcv cls11 (congrArg Prod.fst s_0)) (by decide) (c_X11_rests ro (by decide) rfl (xs (k + 1)) (xs (k + 2)) ) (by decide) rfl (Nat.le_of_ble_eq_true rfl) ?_
  show WL K b cl sl 949 [(1, .ref 0), (2, .ref 130), (3, .ref 178), (4, .int (nI k))] [.int (F_X11_rests (xs (k + 1)) (xs (k + 2)) A JA)] (mI A B) (mJ JA JB) R 179 g
  refine q_pop ok dL_law_949 rfl ?_
  refine q_aload_n ok dL_law_950 1 rfl ?_
  refine q_sc (j := 1) ok sc dL_law_951 dL_law_952 dL_law_954 (by decide) dL_law_955 dL_law_956 3 rfl (by omega) ?_
  refine q_sc (j := 2) ok sc dL_law_957 dL_law_958 dL_law_960 (by decide) dL_law_961 dL_law_962 3 rfl (by omega) ?_
  refine q_m (As := [.int (xs (k + 1)), .int (xs (k + 2))]) ok dL_law_963 iX12_rests (lL_123 rfl) (rcv cls12 (congrArg Prod.fst s_130)) (by decide) (c_X12_rests rm (by decide) rfl (xs (k + 1)) (xs (k + 2))  hm0) (by decide) rfl (Nat.le_of_ble_eq_true rfl) ?_
  show WL K b cl sl 966 [(1, .ref 0), (2, .ref 130), (3, .ref 178), (4, .int (nI k))] [.int (F_X12_rests (xs (k + 1)) (xs (k + 2)) B JB)] (mI A (FI_X12_rests (xs (k + 1)) (xs (k + 2)) B JB)) (mJ JA JB) R 179 g
  refine q_pop ok dL_law_966 rfl ?_
  refine q_goto (tgt := 1409) ok dL_law_967 (by decide) ?_
  exact kk
set_option maxHeartbeats 2000000 in
set_option maxRecDepth 40000 in
theorem law_c23 {K : KT} {b L k g cl sl : Nat} {xs : Nat → Int32} {A B : SI} {JA JB : SJ} {R : SR} (ok : OK K mL_law 1000) (sc : Sc K b L xs) (ro : RO R) (rm : RM R) (hk6 : k + 5 < L) (hm0 : H_X12_rest (xs (k + 1)) (xs (k + 2)) (xs (k + 3)) B JB) (kk : WL K b cl sl 1409 [(1, .ref 0), (2, .ref 130), (3, .ref 178), (4, .int (nI k))] [] (mI A (FI_X12_rest (xs (k + 1)) (xs (k + 2)) (xs (k + 3)) B JB)) (mJ JA JB) R 179 g) : WL K b cl sl 970 [(1, .ref 0), (2, .ref 130), (3, .ref 178), (4, .int (nI k))] [] (mI A B) (mJ JA JB) R 179 g := by
  refine q_aload_n ok dL_law_970 0 rfl ?_
  refine q_sc (j := 1) ok sc dL_law_971 dL_law_972 dL_law_974 (by decide) dL_law_975 dL_law_976 3 rfl (by omega) ?_
  refine q_sc (j := 2) ok sc dL_law_977 dL_law_978 dL_law_980 (by decide) dL_law_981 dL_law_982 3 rfl (by omega) ?_
  refine q_sc (j := 3) ok sc dL_law_983 dL_law_984 dL_law_986 (by decide) dL_law_987 dL_law_988 3 rfl (by omega) ?_
  refine q_x (As := [.int (xs (k + 1)), .int (xs (k + 2)), .int (xs (k + 3))]) ok dL_law_989 iX11_rest (lL_124 rfl) (rcv cls11 (congrArg Prod.fst s_0)) (by decide) (c_X11_rest ro (by decide) rfl (xs (k + 1)) (xs (k + 2)) (xs (k + 3)) ) (by decide) rfl (Nat.le_of_ble_eq_true rfl) ?_
  show WL K b cl sl 992 [(1, .ref 0), (2, .ref 130), (3, .ref 178), (4, .int (nI k))] [.int (F_X11_rest (xs (k + 1)) (xs (k + 2)) (xs (k + 3)) A JA)] (mI A B) (mJ JA JB) R 179 g
  refine q_pop ok dL_law_992 rfl ?_
  refine q_aload_n ok dL_law_993 1 rfl ?_
  refine q_sc (j := 1) ok sc dL_law_994 dL_law_995 dL_law_997 (by decide) dL_law_998 dL_law_999 3 rfl (by omega) ?_
  refine q_sc (j := 2) ok sc dL_law_1000 dL_law_1001 dL_law_1003 (by decide) dL_law_1004 dL_law_1005 3 rfl (by omega) ?_
  refine q_sc (j := 3) ok sc dL_law_1006 dL_law_1007 dL_law_1009 (by decide) dL_law_1010 dL_law_1011 3 rfl (by omega) ?_
  refine q_m (As := [.int (xs (k + 1)), .int (xs (k + 2)), .int (xs (k + 3))]) ok dL_law_1012 iX12_rest (lL_128 rfl) (rcv cls12 (congrArg Prod.fst s_130)) (by decide) (c_X12_rest rm (by decide) rfl (xs (k + 1)) (xs (k + 2)) (xs (k + 3))  hm0) (by decide) rfl (Nat.le_of_ble_eq_true rfl) ?_
  show WL K b cl sl 1015 [(1, .ref 0), (2, .ref 130), (3, .ref 178), (4, .int (nI k))] [.int (F_X12_rest (xs (k + 1)) (xs (k + 2)) (xs (k + 3)) B JB)] (mI A (FI_X12_rest (xs (k + 1)) (xs (k + 2)) (xs (k + 3)) B JB)) (mJ JA JB) R 179 g
  refine q_pop ok dL_law_1015 rfl ?_
  refine q_goto (tgt := 1409) ok dL_law_1016 (by decide) ?_
  exact kk
set_option maxHeartbeats 2000000 in
set_option maxRecDepth 40000 in
theorem law_c24 {K : KT} {b L k g cl sl : Nat} {xs : Nat → Int32} {A B : SI} {JA JB : SJ} {R : SR} (ok : OK K mL_law 1000) (sc : Sc K b L xs) (ro : RO R) (rm : RM R) (hk6 : k + 5 < L) (hx0 : H_X11_there (xs (k + 1)) (xs (k + 2)) A JA) (hm0 : H_X12_there (xs (k + 1)) (xs (k + 2)) B JB) (kk : WL K b cl sl 1409 [(1, .ref 0), (2, .ref 130), (3, .ref 178), (4, .int (nI k))] [] (mI A (FI_X12_there (xs (k + 1)) (xs (k + 2)) B JB)) (mJ JA JB) R 179 g) : WL K b cl sl 1019 [(1, .ref 0), (2, .ref 130), (3, .ref 178), (4, .int (nI k))] [] (mI A B) (mJ JA JB) R 179 g := by
  refine q_aload_n ok dL_law_1019 0 rfl ?_
  refine q_sc (j := 1) ok sc dL_law_1020 dL_law_1021 dL_law_1023 (by decide) dL_law_1024 dL_law_1025 3 rfl (by omega) ?_
  refine q_sc (j := 2) ok sc dL_law_1026 dL_law_1027 dL_law_1029 (by decide) dL_law_1030 dL_law_1031 3 rfl (by omega) ?_
  refine q_x (As := [.int (xs (k + 1)), .int (xs (k + 2))]) ok dL_law_1032 iX11_there (lL_129 rfl) (rcv cls11 (congrArg Prod.fst s_0)) (by decide) (c_X11_there ro (by decide) rfl (xs (k + 1)) (xs (k + 2))  hx0) (by decide) rfl (Nat.le_of_ble_eq_true rfl) ?_
  show WL K b cl sl 1035 [(1, .ref 0), (2, .ref 130), (3, .ref 178), (4, .int (nI k))] [.long (F_X11_there (xs (k + 1)) (xs (k + 2)) A JA)] (mI A B) (mJ JA JB) R 179 g
  refine q_pop2 ok dL_law_1035 rfl ?_
  refine q_aload_n ok dL_law_1036 1 rfl ?_
  refine q_sc (j := 1) ok sc dL_law_1037 dL_law_1038 dL_law_1040 (by decide) dL_law_1041 dL_law_1042 3 rfl (by omega) ?_
  refine q_sc (j := 2) ok sc dL_law_1043 dL_law_1044 dL_law_1046 (by decide) dL_law_1047 dL_law_1048 3 rfl (by omega) ?_
  refine q_m (As := [.int (xs (k + 1)), .int (xs (k + 2))]) ok dL_law_1049 iX12_there (lL_133 rfl) (rcv cls12 (congrArg Prod.fst s_130)) (by decide) (c_X12_there rm (by decide) rfl (xs (k + 1)) (xs (k + 2))  hm0) (by decide) rfl (Nat.le_of_ble_eq_true rfl) ?_
  show WL K b cl sl 1052 [(1, .ref 0), (2, .ref 130), (3, .ref 178), (4, .int (nI k))] [.long (F_X12_there (xs (k + 1)) (xs (k + 2)) B JB)] (mI A (FI_X12_there (xs (k + 1)) (xs (k + 2)) B JB)) (mJ JA JB) R 179 g
  refine q_pop2 ok dL_law_1052 rfl ?_
  refine q_goto (tgt := 1409) ok dL_law_1053 (by decide) ?_
  exact kk
set_option maxHeartbeats 2000000 in
set_option maxRecDepth 40000 in
theorem law_c25 {K : KT} {b L k g cl sl : Nat} {xs : Nat → Int32} {A B : SI} {JA JB : SJ} {R : SR} (ok : OK K mL_law 1000) (sc : Sc K b L xs) (ro : RO R) (rm : RM R) (hk6 : k + 5 < L) (hx0 : H_X11_without (xs (k + 1)) A JA) (hm0 : H_X12_without (xs (k + 1)) B JB) (kk : WL K b cl sl 1409 [(1, .ref 0), (2, .ref 130), (3, .ref 178), (4, .int (nI k))] [] (mI (FI_X11_without (xs (k + 1)) A JA) (FI_X12_without (xs (k + 1)) B JB)) (mJ (FJ_X11_without (xs (k + 1)) A JA) (FJ_X12_without (xs (k + 1)) B JB)) R 179 g) : WL K b cl sl 1056 [(1, .ref 0), (2, .ref 130), (3, .ref 178), (4, .int (nI k))] [] (mI A B) (mJ JA JB) R 179 g := by
  refine q_aload_n ok dL_law_1056 0 rfl ?_
  refine q_sc (j := 1) ok sc dL_law_1057 dL_law_1058 dL_law_1060 (by decide) dL_law_1061 dL_law_1062 3 rfl (by omega) ?_
  refine q_x (As := [.int (xs (k + 1))]) ok dL_law_1063 iX11_without (lL_134 rfl) (rcv cls11 (congrArg Prod.fst s_0)) (by decide) (c_X11_without ro (by decide) rfl (xs (k + 1))  hx0) (by decide) rfl (Nat.le_of_ble_eq_true rfl) ?_
  show WL K b cl sl 1066 [(1, .ref 0), (2, .ref 130), (3, .ref 178), (4, .int (nI k))] [.int (F_X11_without (xs (k + 1)) A JA)] (mI (FI_X11_without (xs (k + 1)) A JA) B) (mJ (FJ_X11_without (xs (k + 1)) A JA) JB) R 179 g
  refine q_pop ok dL_law_1066 rfl ?_
  refine q_aload_n ok dL_law_1067 1 rfl ?_
  refine q_sc (j := 1) ok sc dL_law_1068 dL_law_1069 dL_law_1071 (by decide) dL_law_1072 dL_law_1073 3 rfl (by omega) ?_
  refine q_m (As := [.int (xs (k + 1))]) ok dL_law_1074 iX12_without (lL_137 rfl) (rcv cls12 (congrArg Prod.fst s_130)) (by decide) (c_X12_without rm (by decide) rfl (xs (k + 1))  hm0) (by decide) rfl (Nat.le_of_ble_eq_true rfl) ?_
  show WL K b cl sl 1077 [(1, .ref 0), (2, .ref 130), (3, .ref 178), (4, .int (nI k))] [.int (F_X12_without (xs (k + 1)) B JB)] (mI (FI_X11_without (xs (k + 1)) A JA) (FI_X12_without (xs (k + 1)) B JB)) (mJ (FJ_X11_without (xs (k + 1)) A JA) (FJ_X12_without (xs (k + 1)) B JB)) R 179 g
  refine q_pop ok dL_law_1077 rfl ?_
  refine q_goto (tgt := 1409) ok dL_law_1078 (by decide) ?_
  exact kk
set_option maxHeartbeats 2000000 in
set_option maxRecDepth 40000 in
theorem law_c26 {K : KT} {b L k g cl sl : Nat} {xs : Nat → Int32} {A B : SI} {JA JB : SJ} {R : SR} (ok : OK K mL_law 1000) (sc : Sc K b L xs) (ro : RO R) (rm : RM R) (hk6 : k + 5 < L) (hm0 : H_X12_run  B JB) (kk : WL K b cl sl 1409 [(1, .ref 0), (2, .ref 130), (3, .ref 178), (4, .int (nI k))] [] (mI A (FI_X12_run  B JB)) (mJ JA JB) R 179 g) : WL K b cl sl 1081 [(1, .ref 0), (2, .ref 130), (3, .ref 178), (4, .int (nI k))] [] (mI A B) (mJ JA JB) R 179 g := by
  refine q_aload_n ok dL_law_1081 0 rfl ?_
  refine q_x (As := []) ok dL_law_1082 iX11_run (lL_138 rfl) (rcv cls11 (congrArg Prod.fst s_0)) (by decide) (c_X11_run ro (by decide) rfl  ) (by decide) rfl (Nat.le_of_ble_eq_true rfl) ?_
  show WL K b cl sl 1085 [(1, .ref 0), (2, .ref 130), (3, .ref 178), (4, .int (nI k))] [.int (F_X11_run  A JA)] (mI A B) (mJ JA JB) R 179 g
  refine q_pop ok dL_law_1085 rfl ?_
  refine q_aload_n ok dL_law_1086 1 rfl ?_
  refine q_m (As := []) ok dL_law_1087 iX12_run (lL_141 rfl) (rcv cls12 (congrArg Prod.fst s_130)) (by decide) (c_X12_run rm (by decide) rfl   hm0) (by decide) rfl (Nat.le_of_ble_eq_true rfl) ?_
  show WL K b cl sl 1090 [(1, .ref 0), (2, .ref 130), (3, .ref 178), (4, .int (nI k))] [.int (F_X12_run  B JB)] (mI A (FI_X12_run  B JB)) (mJ JA JB) R 179 g
  refine q_pop ok dL_law_1090 rfl ?_
  refine q_goto (tgt := 1409) ok dL_law_1091 (by decide) ?_
  exact kk
set_option maxHeartbeats 2000000 in
set_option maxRecDepth 40000 in
theorem law_c27 {K : KT} {b L k g cl sl : Nat} {xs : Nat → Int32} {A B : SI} {JA JB : SJ} {R : SR} (ok : OK K mL_law 1000) (sc : Sc K b L xs) (ro : RO R) (rm : RM R) (hk6 : k + 5 < L) (hm0 : H_X12_believed  B JB) (kk : WL K b cl sl 1409 [(1, .ref 0), (2, .ref 130), (3, .ref 178), (4, .int (nI k))] [] (mI A (FI_X12_believed  B JB)) (mJ JA JB) R 179 g) : WL K b cl sl 1094 [(1, .ref 0), (2, .ref 130), (3, .ref 178), (4, .int (nI k))] [] (mI A B) (mJ JA JB) R 179 g := by
  refine q_aload_n ok dL_law_1094 0 rfl ?_
  refine q_x (As := []) ok dL_law_1095 iX11_believed (lL_142 rfl) (rcv cls11 (congrArg Prod.fst s_0)) (by decide) (c_X11_believed ro (by decide) rfl  ) (by decide) rfl (Nat.le_of_ble_eq_true rfl) ?_
  show WL K b cl sl 1098 [(1, .ref 0), (2, .ref 130), (3, .ref 178), (4, .int (nI k))] [.int (F_X11_believed  A JA)] (mI A B) (mJ JA JB) R 179 g
  refine q_pop ok dL_law_1098 rfl ?_
  refine q_aload_n ok dL_law_1099 1 rfl ?_
  refine q_m (As := []) ok dL_law_1100 iX12_believed (lL_145 rfl) (rcv cls12 (congrArg Prod.fst s_130)) (by decide) (c_X12_believed rm (by decide) rfl   hm0) (by decide) rfl (Nat.le_of_ble_eq_true rfl) ?_
  show WL K b cl sl 1103 [(1, .ref 0), (2, .ref 130), (3, .ref 178), (4, .int (nI k))] [.int (F_X12_believed  B JB)] (mI A (FI_X12_believed  B JB)) (mJ JA JB) R 179 g
  refine q_pop ok dL_law_1103 rfl ?_
  refine q_goto (tgt := 1409) ok dL_law_1104 (by decide) ?_
  exact kk
set_option maxHeartbeats 2000000 in
set_option maxRecDepth 40000 in
theorem law_c28 {K : KT} {b L k g cl sl : Nat} {xs : Nat → Int32} {A B : SI} {JA JB : SJ} {R : SR} (ok : OK K mL_law 1000) (sc : Sc K b L xs) (ro : RO R) (rm : RM R) (hk6 : k + 5 < L) (hm0 : H_X12_see (xs (k + 1)) (xs (k + 2)) (bz (xs (k + 3))) B JB) (kk : WL K b cl sl 1409 [(1, .ref 0), (2, .ref 130), (3, .ref 178), (4, .int (nI k))] [] (mI (FI_X11_see (xs (k + 1)) (xs (k + 2)) (bz (xs (k + 3))) A JA) (FI_X12_see (xs (k + 1)) (xs (k + 2)) (bz (xs (k + 3))) B JB)) (mJ JA JB) R 179 g) : WL K b cl sl 1107 [(1, .ref 0), (2, .ref 130), (3, .ref 178), (4, .int (nI k))] [] (mI A B) (mJ JA JB) R 179 g := by
  refine q_aload_n ok dL_law_1107 0 rfl ?_
  refine q_sc (j := 1) ok sc dL_law_1108 dL_law_1109 dL_law_1111 (by decide) dL_law_1112 dL_law_1113 3 rfl (by omega) ?_
  refine q_sc (j := 2) ok sc dL_law_1114 dL_law_1115 dL_law_1117 (by decide) dL_law_1118 dL_law_1119 3 rfl (by omega) ?_
  refine q_sc (j := 3) ok sc dL_law_1120 dL_law_1121 dL_law_1123 (by decide) dL_law_1124 dL_law_1125 3 rfl (by omega) ?_
  refine q_bz (pc' := 0) ok dL_law_1126 dL_law_1129 dL_law_1130 dL_law_1133 (by decide) (by decide) ?_
  refine q_x (As := [.int (xs (k + 1)), .int (xs (k + 2)), .int (bz (xs (k + 3)))]) ok dL_law_1134 iX11_see (lL_146 rfl) (rcv cls11 (congrArg Prod.fst s_0)) (by decide) (c_X11_see ro (by decide) rfl (xs (k + 1)) (xs (k + 2)) (bz (xs (k + 3))) ) (by decide) rfl (Nat.le_of_ble_eq_true rfl) ?_
  show WL K b cl sl 1137 [(1, .ref 0), (2, .ref 130), (3, .ref 178), (4, .int (nI k))] [.int (F_X11_see (xs (k + 1)) (xs (k + 2)) (bz (xs (k + 3))) A JA)] (mI (FI_X11_see (xs (k + 1)) (xs (k + 2)) (bz (xs (k + 3))) A JA) B) (mJ JA JB) R 179 g
  refine q_pop ok dL_law_1137 rfl ?_
  refine q_aload_n ok dL_law_1138 1 rfl ?_
  refine q_sc (j := 1) ok sc dL_law_1139 dL_law_1140 dL_law_1142 (by decide) dL_law_1143 dL_law_1144 3 rfl (by omega) ?_
  refine q_sc (j := 2) ok sc dL_law_1145 dL_law_1146 dL_law_1148 (by decide) dL_law_1149 dL_law_1150 3 rfl (by omega) ?_
  refine q_sc (j := 3) ok sc dL_law_1151 dL_law_1152 dL_law_1154 (by decide) dL_law_1155 dL_law_1156 3 rfl (by omega) ?_
  refine q_bz (pc' := 0) ok dL_law_1157 dL_law_1160 dL_law_1161 dL_law_1164 (by decide) (by decide) ?_
  refine q_m (As := [.int (xs (k + 1)), .int (xs (k + 2)), .int (bz (xs (k + 3)))]) ok dL_law_1165 iX12_see (lL_150 rfl) (rcv cls12 (congrArg Prod.fst s_130)) (by decide) (c_X12_see rm (by decide) rfl (xs (k + 1)) (xs (k + 2)) (bz (xs (k + 3)))  hm0) (by decide) rfl (Nat.le_of_ble_eq_true rfl) ?_
  show WL K b cl sl 1168 [(1, .ref 0), (2, .ref 130), (3, .ref 178), (4, .int (nI k))] [.int (F_X12_see (xs (k + 1)) (xs (k + 2)) (bz (xs (k + 3))) B JB)] (mI (FI_X11_see (xs (k + 1)) (xs (k + 2)) (bz (xs (k + 3))) A JA) (FI_X12_see (xs (k + 1)) (xs (k + 2)) (bz (xs (k + 3))) B JB)) (mJ JA JB) R 179 g
  refine q_pop ok dL_law_1168 rfl ?_
  refine q_goto (tgt := 1409) ok dL_law_1169 (by decide) ?_
  exact kk
set_option maxHeartbeats 2000000 in
set_option maxRecDepth 40000 in
theorem law_c29 {K : KT} {b L k g cl sl : Nat} {xs : Nat → Int32} {A B : SI} {JA JB : SJ} {R : SR} (ok : OK K mL_law 1000) (sc : Sc K b L xs) (ro : RO R) (rm : RM R) (hk6 : k + 5 < L) (hm0 : H_X12_out (xs (k + 1)) B JB) (kk : WL K b cl sl 1409 [(1, .ref 0), (2, .ref 130), (3, .ref 178), (4, .int (nI k))] [] (mI (FI_X11_out (xs (k + 1)) A JA) (FI_X12_out (xs (k + 1)) B JB)) (mJ JA JB) R 179 g) : WL K b cl sl 1172 [(1, .ref 0), (2, .ref 130), (3, .ref 178), (4, .int (nI k))] [] (mI A B) (mJ JA JB) R 179 g := by
  refine q_aload_n ok dL_law_1172 0 rfl ?_
  refine q_sc (j := 1) ok sc dL_law_1173 dL_law_1174 dL_law_1176 (by decide) dL_law_1177 dL_law_1178 3 rfl (by omega) ?_
  refine q_x (As := [.int (xs (k + 1))]) ok dL_law_1179 iX11_out (lL_151 rfl) (rcv cls11 (congrArg Prod.fst s_0)) (by decide) (c_X11_out ro (by decide) rfl (xs (k + 1)) ) (by decide) rfl (Nat.le_of_ble_eq_true rfl) ?_
  show WL K b cl sl 1182 [(1, .ref 0), (2, .ref 130), (3, .ref 178), (4, .int (nI k))] [.int (F_X11_out (xs (k + 1)) A JA)] (mI (FI_X11_out (xs (k + 1)) A JA) B) (mJ JA JB) R 179 g
  refine q_pop ok dL_law_1182 rfl ?_
  refine q_aload_n ok dL_law_1183 1 rfl ?_
  refine q_sc (j := 1) ok sc dL_law_1184 dL_law_1185 dL_law_1187 (by decide) dL_law_1188 dL_law_1189 3 rfl (by omega) ?_
  refine q_m (As := [.int (xs (k + 1))]) ok dL_law_1190 iX12_out (lL_154 rfl) (rcv cls12 (congrArg Prod.fst s_130)) (by decide) (c_X12_out rm (by decide) rfl (xs (k + 1))  hm0) (by decide) rfl (Nat.le_of_ble_eq_true rfl) ?_
  show WL K b cl sl 1193 [(1, .ref 0), (2, .ref 130), (3, .ref 178), (4, .int (nI k))] [.int (F_X12_out (xs (k + 1)) B JB)] (mI (FI_X11_out (xs (k + 1)) A JA) (FI_X12_out (xs (k + 1)) B JB)) (mJ JA JB) R 179 g
  refine q_pop ok dL_law_1193 rfl ?_
  refine q_goto (tgt := 1409) ok dL_law_1194 (by decide) ?_
  exact kk
set_option maxHeartbeats 2000000 in
set_option maxRecDepth 40000 in
theorem law_c30 {K : KT} {b L k g cl sl : Nat} {xs : Nat → Int32} {A B : SI} {JA JB : SJ} {R : SR} (ok : OK K mL_law 1000) (sc : Sc K b L xs) (ro : RO R) (rm : RM R) (hk6 : k + 5 < L)  (kk : WL K b cl sl 1409 [(1, .ref 0), (2, .ref 130), (3, .ref 178), (4, .int (nI k))] [] (mI (FI_X11_known (xs (k + 1)) A JA) (FI_X12_known (xs (k + 1)) B JB)) (mJ JA JB) R 179 g) : WL K b cl sl 1197 [(1, .ref 0), (2, .ref 130), (3, .ref 178), (4, .int (nI k))] [] (mI A B) (mJ JA JB) R 179 g := by
  refine q_aload_n ok dL_law_1197 0 rfl ?_
  refine q_sc (j := 1) ok sc dL_law_1198 dL_law_1199 dL_law_1201 (by decide) dL_law_1202 dL_law_1203 3 rfl (by omega) ?_
  refine q_x (As := [.int (xs (k + 1))]) ok dL_law_1204 iX11_known (lL_155 rfl) (rcv cls11 (congrArg Prod.fst s_0)) (by decide) (c_X11_known ro (by decide) rfl (xs (k + 1)) ) (by decide) rfl (Nat.le_of_ble_eq_true rfl) ?_
  show WL K b cl sl 1207 [(1, .ref 0), (2, .ref 130), (3, .ref 178), (4, .int (nI k))] [.int (F_X11_known (xs (k + 1)) A JA)] (mI (FI_X11_known (xs (k + 1)) A JA) B) (mJ JA JB) R 179 g
  refine q_pop ok dL_law_1207 rfl ?_
  refine q_aload_n ok dL_law_1208 1 rfl ?_
  refine q_sc (j := 1) ok sc dL_law_1209 dL_law_1210 dL_law_1212 (by decide) dL_law_1213 dL_law_1214 3 rfl (by omega) ?_
  refine q_m (As := [.int (xs (k + 1))]) ok dL_law_1215 iX12_known (lL_158 rfl) (rcv cls12 (congrArg Prod.fst s_130)) (by decide) (c_X12_known rm (by decide) rfl (xs (k + 1)) ) (by decide) rfl (Nat.le_of_ble_eq_true rfl) ?_
  show WL K b cl sl 1218 [(1, .ref 0), (2, .ref 130), (3, .ref 178), (4, .int (nI k))] [.int (F_X12_known (xs (k + 1)) B JB)] (mI (FI_X11_known (xs (k + 1)) A JA) (FI_X12_known (xs (k + 1)) B JB)) (mJ JA JB) R 179 g
  refine q_pop ok dL_law_1218 rfl ?_
  refine q_goto (tgt := 1409) ok dL_law_1219 (by decide) ?_
  exact kk
set_option maxHeartbeats 2000000 in
set_option maxRecDepth 40000 in
theorem law_c31 {K : KT} {b L k g cl sl : Nat} {xs : Nat → Int32} {A B : SI} {JA JB : SJ} {R : SR} (ok : OK K mL_law 1000) (sc : Sc K b L xs) (ro : RO R) (rm : RM R) (hk6 : k + 5 < L) (hx0 : H_X11_struckHow (xs (k + 1)) A JA) (hm0 : H_X12_struckHow (xs (k + 1)) B JB) (kk : WL K b cl sl 1409 [(1, .ref 0), (2, .ref 130), (3, .ref 178), (4, .int (nI k))] [] (mI (FI_X11_struckHow (xs (k + 1)) A JA) (FI_X12_struckHow (xs (k + 1)) B JB)) (mJ (FJ_X11_struckHow (xs (k + 1)) A JA) (FJ_X12_struckHow (xs (k + 1)) B JB)) R 179 g) : WL K b cl sl 1222 [(1, .ref 0), (2, .ref 130), (3, .ref 178), (4, .int (nI k))] [] (mI A B) (mJ JA JB) R 179 g := by
  refine q_aload_n ok dL_law_1222 0 rfl ?_
  refine q_sc (j := 1) ok sc dL_law_1223 dL_law_1224 dL_law_1226 (by decide) dL_law_1227 dL_law_1228 3 rfl (by omega) ?_
  refine q_x (As := [.int (xs (k + 1))]) ok dL_law_1229 iX11_struckHow (lL_159 rfl) (rcv cls11 (congrArg Prod.fst s_0)) (by decide) (c_X11_struckHow ro (by decide) rfl (xs (k + 1))  hx0) (by decide) rfl (Nat.le_of_ble_eq_true rfl) ?_
  show WL K b cl sl 1232 [(1, .ref 0), (2, .ref 130), (3, .ref 178), (4, .int (nI k))] [.int (F_X11_struckHow (xs (k + 1)) A JA)] (mI (FI_X11_struckHow (xs (k + 1)) A JA) B) (mJ (FJ_X11_struckHow (xs (k + 1)) A JA) JB) R 179 g
  refine q_pop ok dL_law_1232 rfl ?_
  refine q_aload_n ok dL_law_1233 1 rfl ?_
  refine q_sc (j := 1) ok sc dL_law_1234 dL_law_1235 dL_law_1237 (by decide) dL_law_1238 dL_law_1239 3 rfl (by omega) ?_
  refine q_m (As := [.int (xs (k + 1))]) ok dL_law_1240 iX12_struckHow (lL_162 rfl) (rcv cls12 (congrArg Prod.fst s_130)) (by decide) (c_X12_struckHow rm (by decide) rfl (xs (k + 1))  hm0) (by decide) rfl (Nat.le_of_ble_eq_true rfl) ?_
  show WL K b cl sl 1243 [(1, .ref 0), (2, .ref 130), (3, .ref 178), (4, .int (nI k))] [.int (F_X12_struckHow (xs (k + 1)) B JB)] (mI (FI_X11_struckHow (xs (k + 1)) A JA) (FI_X12_struckHow (xs (k + 1)) B JB)) (mJ (FJ_X11_struckHow (xs (k + 1)) A JA) (FJ_X12_struckHow (xs (k + 1)) B JB)) R 179 g
  refine q_pop ok dL_law_1243 rfl ?_
  refine q_goto (tgt := 1409) ok dL_law_1244 (by decide) ?_
  exact kk
set_option maxHeartbeats 2000000 in
set_option maxRecDepth 40000 in
theorem law_c32 {K : KT} {b L k g cl sl : Nat} {xs : Nat → Int32} {A B : SI} {JA JB : SJ} {R : SR} (ok : OK K mL_law 1000) (sc : Sc K b L xs) (ro : RO R) (rm : RM R) (hk6 : k + 5 < L) (hx0 : H_X11_chance (xs (k + 1)) (xs (k + 2)) (xs (k + 3)) A JA) (hm0 : H_X12_chance (xs (k + 1)) (xs (k + 2)) (xs (k + 3)) B JB) (kk : WL K b cl sl 1409 [(1, .ref 0), (2, .ref 130), (3, .ref 178), (4, .int (nI k))] [] (mI (FI_X11_chance (xs (k + 1)) (xs (k + 2)) (xs (k + 3)) A JA) (FI_X12_chance (xs (k + 1)) (xs (k + 2)) (xs (k + 3)) B JB)) (mJ (FJ_X11_chance (xs (k + 1)) (xs (k + 2)) (xs (k + 3)) A JA) (FJ_X12_chance (xs (k + 1)) (xs (k + 2)) (xs (k + 3)) B JB)) R 179 g) : WL K b cl sl 1247 [(1, .ref 0), (2, .ref 130), (3, .ref 178), (4, .int (nI k))] [] (mI A B) (mJ JA JB) R 179 g := by
  refine q_aload_n ok dL_law_1247 0 rfl ?_
  refine q_sc (j := 1) ok sc dL_law_1248 dL_law_1249 dL_law_1251 (by decide) dL_law_1252 dL_law_1253 3 rfl (by omega) ?_
  refine q_sc (j := 2) ok sc dL_law_1254 dL_law_1255 dL_law_1257 (by decide) dL_law_1258 dL_law_1259 3 rfl (by omega) ?_
  refine q_sc (j := 3) ok sc dL_law_1260 dL_law_1261 dL_law_1263 (by decide) dL_law_1264 dL_law_1265 3 rfl (by omega) ?_
  refine q_x (As := [.int (xs (k + 1)), .int (xs (k + 2)), .int (xs (k + 3))]) ok dL_law_1266 iX11_chance (lL_163 rfl) (rcv cls11 (congrArg Prod.fst s_0)) (by decide) (c_X11_chance ro (by decide) rfl (xs (k + 1)) (xs (k + 2)) (xs (k + 3))  hx0) (by decide) rfl (Nat.le_of_ble_eq_true rfl) ?_
  show WL K b cl sl 1269 [(1, .ref 0), (2, .ref 130), (3, .ref 178), (4, .int (nI k))] [.int (F_X11_chance (xs (k + 1)) (xs (k + 2)) (xs (k + 3)) A JA)] (mI (FI_X11_chance (xs (k + 1)) (xs (k + 2)) (xs (k + 3)) A JA) B) (mJ (FJ_X11_chance (xs (k + 1)) (xs (k + 2)) (xs (k + 3)) A JA) JB) R 179 g
  refine q_pop ok dL_law_1269 rfl ?_
  refine q_aload_n ok dL_law_1270 1 rfl ?_
  refine q_sc (j := 1) ok sc dL_law_1271 dL_law_1272 dL_law_1274 (by decide) dL_law_1275 dL_law_1276 3 rfl (by omega) ?_
  refine q_sc (j := 2) ok sc dL_law_1277 dL_law_1278 dL_law_1280 (by decide) dL_law_1281 dL_law_1282 3 rfl (by omega) ?_
  refine q_sc (j := 3) ok sc dL_law_1283 dL_law_1284 dL_law_1286 (by decide) dL_law_1287 dL_law_1288 3 rfl (by omega) ?_
  refine q_m (As := [.int (xs (k + 1)), .int (xs (k + 2)), .int (xs (k + 3))]) ok dL_law_1289 iX12_chance (lL_166 rfl) (rcv cls12 (congrArg Prod.fst s_130)) (by decide) (c_X12_chance rm (by decide) rfl (xs (k + 1)) (xs (k + 2)) (xs (k + 3))  hm0) (by decide) rfl (Nat.le_of_ble_eq_true rfl) ?_
  show WL K b cl sl 1292 [(1, .ref 0), (2, .ref 130), (3, .ref 178), (4, .int (nI k))] [.int (F_X12_chance (xs (k + 1)) (xs (k + 2)) (xs (k + 3)) B JB)] (mI (FI_X11_chance (xs (k + 1)) (xs (k + 2)) (xs (k + 3)) A JA) (FI_X12_chance (xs (k + 1)) (xs (k + 2)) (xs (k + 3)) B JB)) (mJ (FJ_X11_chance (xs (k + 1)) (xs (k + 2)) (xs (k + 3)) A JA) (FJ_X12_chance (xs (k + 1)) (xs (k + 2)) (xs (k + 3)) B JB)) R 179 g
  refine q_pop ok dL_law_1292 rfl ?_
  refine q_goto (tgt := 1409) ok dL_law_1293 (by decide) ?_
  exact kk
set_option maxHeartbeats 2000000 in
set_option maxRecDepth 40000 in
theorem law_c33 {K : KT} {b L k g cl sl : Nat} {xs : Nat → Int32} {A B : SI} {JA JB : SJ} {R : SR} (ok : OK K mL_law 1000) (sc : Sc K b L xs) (ro : RO R) (rm : RM R) (hk6 : k + 5 < L) (hx0 : H_X11_tried (xs (k + 1)) (xs (k + 2)) (xs (k + 3)) A JA) (hm0 : H_X12_tried (xs (k + 1)) (xs (k + 2)) (xs (k + 3)) B JB) (kk : WL K b cl sl 1409 [(1, .ref 0), (2, .ref 130), (3, .ref 178), (4, .int (nI k))] [] (mI (FI_X11_tried (xs (k + 1)) (xs (k + 2)) (xs (k + 3)) A JA) (FI_X12_tried (xs (k + 1)) (xs (k + 2)) (xs (k + 3)) B JB)) (mJ (FJ_X11_tried (xs (k + 1)) (xs (k + 2)) (xs (k + 3)) A JA) (FJ_X12_tried (xs (k + 1)) (xs (k + 2)) (xs (k + 3)) B JB)) R 179 g) : WL K b cl sl 1296 [(1, .ref 0), (2, .ref 130), (3, .ref 178), (4, .int (nI k))] [] (mI A B) (mJ JA JB) R 179 g := by
  refine q_aload_n ok dL_law_1296 0 rfl ?_
  refine q_sc (j := 1) ok sc dL_law_1297 dL_law_1298 dL_law_1300 (by decide) dL_law_1301 dL_law_1302 3 rfl (by omega) ?_
  refine q_sc (j := 2) ok sc dL_law_1303 dL_law_1304 dL_law_1306 (by decide) dL_law_1307 dL_law_1308 3 rfl (by omega) ?_
  refine q_sc (j := 3) ok sc dL_law_1309 dL_law_1310 dL_law_1312 (by decide) dL_law_1313 dL_law_1314 3 rfl (by omega) ?_
  refine q_x (As := [.int (xs (k + 1)), .int (xs (k + 2)), .int (xs (k + 3))]) ok dL_law_1315 iX11_tried (lL_167 rfl) (rcv cls11 (congrArg Prod.fst s_0)) (by decide) (c_X11_tried ro (by decide) rfl (xs (k + 1)) (xs (k + 2)) (xs (k + 3))  hx0) (by decide) rfl (Nat.le_of_ble_eq_true rfl) ?_
  show WL K b cl sl 1318 [(1, .ref 0), (2, .ref 130), (3, .ref 178), (4, .int (nI k))] [.int (F_X11_tried (xs (k + 1)) (xs (k + 2)) (xs (k + 3)) A JA)] (mI (FI_X11_tried (xs (k + 1)) (xs (k + 2)) (xs (k + 3)) A JA) B) (mJ (FJ_X11_tried (xs (k + 1)) (xs (k + 2)) (xs (k + 3)) A JA) JB) R 179 g
  refine q_pop ok dL_law_1318 rfl ?_
  refine q_aload_n ok dL_law_1319 1 rfl ?_
  refine q_sc (j := 1) ok sc dL_law_1320 dL_law_1321 dL_law_1323 (by decide) dL_law_1324 dL_law_1325 3 rfl (by omega) ?_
  refine q_sc (j := 2) ok sc dL_law_1326 dL_law_1327 dL_law_1329 (by decide) dL_law_1330 dL_law_1331 3 rfl (by omega) ?_
  refine q_sc (j := 3) ok sc dL_law_1332 dL_law_1333 dL_law_1335 (by decide) dL_law_1336 dL_law_1337 3 rfl (by omega) ?_
  refine q_m (As := [.int (xs (k + 1)), .int (xs (k + 2)), .int (xs (k + 3))]) ok dL_law_1338 iX12_tried (lL_170 rfl) (rcv cls12 (congrArg Prod.fst s_130)) (by decide) (c_X12_tried rm (by decide) rfl (xs (k + 1)) (xs (k + 2)) (xs (k + 3))  hm0) (by decide) rfl (Nat.le_of_ble_eq_true rfl) ?_
  show WL K b cl sl 1341 [(1, .ref 0), (2, .ref 130), (3, .ref 178), (4, .int (nI k))] [.int (F_X12_tried (xs (k + 1)) (xs (k + 2)) (xs (k + 3)) B JB)] (mI (FI_X11_tried (xs (k + 1)) (xs (k + 2)) (xs (k + 3)) A JA) (FI_X12_tried (xs (k + 1)) (xs (k + 2)) (xs (k + 3)) B JB)) (mJ (FJ_X11_tried (xs (k + 1)) (xs (k + 2)) (xs (k + 3)) A JA) (FJ_X12_tried (xs (k + 1)) (xs (k + 2)) (xs (k + 3)) B JB)) R 179 g
  refine q_pop ok dL_law_1341 rfl ?_
  refine q_goto (tgt := 1409) ok dL_law_1342 (by decide) ?_
  exact kk
set_option maxHeartbeats 2000000 in
set_option maxRecDepth 40000 in
theorem law_c34 {K : KT} {b L k g cl sl : Nat} {xs : Nat → Int32} {A B : SI} {JA JB : SJ} {R : SR} (ok : OK K mL_law 1000) (sc : Sc K b L xs) (ro : RO R) (rm : RM R) (hk6 : k + 5 < L) (hm0 : H_X12_undo  B JB) (kk : WL K b cl sl 1409 [(1, .ref 0), (2, .ref 130), (3, .ref 178), (4, .int (nI k))] [] (mI (FI_X11_undo  A JA) (FI_X12_undo  B JB)) (mJ JA JB) R 179 g) : WL K b cl sl 1345 [(1, .ref 0), (2, .ref 130), (3, .ref 178), (4, .int (nI k))] [] (mI A B) (mJ JA JB) R 179 g := by
  refine q_aload_n ok dL_law_1345 0 rfl ?_
  refine q_x (As := []) ok dL_law_1346 iX11_undo (lL_171 rfl) (rcv cls11 (congrArg Prod.fst s_0)) (by decide) (c_X11_undo ro (by decide) rfl  ) (by decide) rfl (Nat.le_of_ble_eq_true rfl) ?_
  show WL K b cl sl 1349 [(1, .ref 0), (2, .ref 130), (3, .ref 178), (4, .int (nI k))] [.int (F_X11_undo  A JA)] (mI (FI_X11_undo  A JA) B) (mJ JA JB) R 179 g
  refine q_pop ok dL_law_1349 rfl ?_
  refine q_aload_n ok dL_law_1350 1 rfl ?_
  refine q_m (As := []) ok dL_law_1351 iX12_undo (lL_174 rfl) (rcv cls12 (congrArg Prod.fst s_130)) (by decide) (c_X12_undo rm (by decide) rfl   hm0) (by decide) rfl (Nat.le_of_ble_eq_true rfl) ?_
  show WL K b cl sl 1354 [(1, .ref 0), (2, .ref 130), (3, .ref 178), (4, .int (nI k))] [.int (F_X12_undo  B JB)] (mI (FI_X11_undo  A JA) (FI_X12_undo  B JB)) (mJ JA JB) R 179 g
  refine q_pop ok dL_law_1354 rfl ?_
  refine q_goto (tgt := 1409) ok dL_law_1355 (by decide) ?_
  exact kk
set_option maxHeartbeats 2000000 in
set_option maxRecDepth 40000 in
theorem law_c35 {K : KT} {b L k g cl sl : Nat} {xs : Nat → Int32} {A B : SI} {JA JB : SJ} {R : SR} (ok : OK K mL_law 1000) (sc : Sc K b L xs) (ro : RO R) (rm : RM R) (hk6 : k + 5 < L) (hm0 : H_X12_keep  B JB) (kk : WL K b cl sl 1409 [(1, .ref 0), (2, .ref 130), (3, .ref 178), (4, .int (nI k))] [] (mI (FI_X11_keep  A JA) (FI_X12_keep  B JB)) (mJ (FJ_X11_keep  A JA) JB) R 179 g) : WL K b cl sl 1358 [(1, .ref 0), (2, .ref 130), (3, .ref 178), (4, .int (nI k))] [] (mI A B) (mJ JA JB) R 179 g := by
  refine q_aload_n ok dL_law_1358 0 rfl ?_
  refine q_x (As := []) ok dL_law_1359 iX11_keep (lL_175 rfl) (rcv cls11 (congrArg Prod.fst s_0)) (by decide) (c_X11_keep ro (by decide) rfl  ) (by decide) rfl (Nat.le_of_ble_eq_true rfl) ?_
  show WL K b cl sl 1362 [(1, .ref 0), (2, .ref 130), (3, .ref 178), (4, .int (nI k))] [.int (F_X11_keep  A JA)] (mI (FI_X11_keep  A JA) B) (mJ (FJ_X11_keep  A JA) JB) R 179 g
  refine q_pop ok dL_law_1362 rfl ?_
  refine q_aload_n ok dL_law_1363 1 rfl ?_
  refine q_m (As := []) ok dL_law_1364 iX12_keep (lL_178 rfl) (rcv cls12 (congrArg Prod.fst s_130)) (by decide) (c_X12_keep rm (by decide) rfl   hm0) (by decide) rfl (Nat.le_of_ble_eq_true rfl) ?_
  show WL K b cl sl 1367 [(1, .ref 0), (2, .ref 130), (3, .ref 178), (4, .int (nI k))] [.int (F_X12_keep  B JB)] (mI (FI_X11_keep  A JA) (FI_X12_keep  B JB)) (mJ (FJ_X11_keep  A JA) JB) R 179 g
  refine q_pop ok dL_law_1367 rfl ?_
  refine q_goto (tgt := 1409) ok dL_law_1368 (by decide) ?_
  exact kk
set_option maxHeartbeats 2000000 in
set_option maxRecDepth 40000 in
theorem law_c36 {K : KT} {b L k g cl sl : Nat} {xs : Nat → Int32} {A B : SI} {JA JB : SJ} {R : SR} (ok : OK K mL_law 1000) (sc : Sc K b L xs) (ro : RO R) (rm : RM R) (hk6 : k + 5 < L) (hm0 : H_X12_back  B JB) (kk : WL K b cl sl 1409 [(1, .ref 0), (2, .ref 130), (3, .ref 178), (4, .int (nI k))] [] (mI (FI_X11_back  A JA) (FI_X12_back  B JB)) (mJ (FJ_X11_back  A JA) JB) R 179 g) : WL K b cl sl 1371 [(1, .ref 0), (2, .ref 130), (3, .ref 178), (4, .int (nI k))] [] (mI A B) (mJ JA JB) R 179 g := by
  refine q_aload_n ok dL_law_1371 0 rfl ?_
  refine q_x (As := []) ok dL_law_1372 iX11_back (lL_179 rfl) (rcv cls11 (congrArg Prod.fst s_0)) (by decide) (c_X11_back ro (by decide) rfl  ) (by decide) rfl (Nat.le_of_ble_eq_true rfl) ?_
  show WL K b cl sl 1375 [(1, .ref 0), (2, .ref 130), (3, .ref 178), (4, .int (nI k))] [.int (F_X11_back  A JA)] (mI (FI_X11_back  A JA) B) (mJ (FJ_X11_back  A JA) JB) R 179 g
  refine q_pop ok dL_law_1375 rfl ?_
  refine q_aload_n ok dL_law_1376 1 rfl ?_
  refine q_m (As := []) ok dL_law_1377 iX12_back (lL_182 rfl) (rcv cls12 (congrArg Prod.fst s_130)) (by decide) (c_X12_back rm (by decide) rfl   hm0) (by decide) rfl (Nat.le_of_ble_eq_true rfl) ?_
  show WL K b cl sl 1380 [(1, .ref 0), (2, .ref 130), (3, .ref 178), (4, .int (nI k))] [.int (F_X12_back  B JB)] (mI (FI_X11_back  A JA) (FI_X12_back  B JB)) (mJ (FJ_X11_back  A JA) JB) R 179 g
  refine q_pop ok dL_law_1380 rfl ?_
  refine q_goto (tgt := 1409) ok dL_law_1381 (by decide) ?_
  exact kk
set_option maxHeartbeats 2000000 in
set_option maxRecDepth 40000 in
theorem law_c37 {K : KT} {b L k g cl sl : Nat} {xs : Nat → Int32} {A B : SI} {JA JB : SJ} {R : SR} (ok : OK K mL_law 1000) (sc : Sc K b L xs) (ro : RO R) (rm : RM R) (hk6 : k + 5 < L) (hm0 : H_X12_count (xs (k + 1)) B JB) (kk : WL K b cl sl 1409 [(1, .ref 0), (2, .ref 130), (3, .ref 178), (4, .int (nI k))] [] (mI A (FI_X12_count (xs (k + 1)) B JB)) (mJ JA JB) R 179 g) : WL K b cl sl 1384 [(1, .ref 0), (2, .ref 130), (3, .ref 178), (4, .int (nI k))] [] (mI A B) (mJ JA JB) R 179 g := by
  refine q_aload_n ok dL_law_1384 0 rfl ?_
  refine q_sc (j := 1) ok sc dL_law_1385 dL_law_1386 dL_law_1388 (by decide) dL_law_1389 dL_law_1390 3 rfl (by omega) ?_
  refine q_x (As := [.int (xs (k + 1))]) ok dL_law_1391 iX11_count (lL_183 rfl) (rcv cls11 (congrArg Prod.fst s_0)) (by decide) (c_X11_count ro (by decide) rfl (xs (k + 1)) ) (by decide) rfl (Nat.le_of_ble_eq_true rfl) ?_
  show WL K b cl sl 1394 [(1, .ref 0), (2, .ref 130), (3, .ref 178), (4, .int (nI k))] [.int (F_X11_count (xs (k + 1)) A JA)] (mI A B) (mJ JA JB) R 179 g
  refine q_pop ok dL_law_1394 rfl ?_
  refine q_aload_n ok dL_law_1395 1 rfl ?_
  refine q_sc (j := 1) ok sc dL_law_1396 dL_law_1397 dL_law_1399 (by decide) dL_law_1400 dL_law_1401 3 rfl (by omega) ?_
  refine q_m (As := [.int (xs (k + 1))]) ok dL_law_1402 iX12_count (lL_186 rfl) (rcv cls12 (congrArg Prod.fst s_130)) (by decide) (c_X12_count rm (by decide) rfl (xs (k + 1))  hm0) (by decide) rfl (Nat.le_of_ble_eq_true rfl) ?_
  show WL K b cl sl 1405 [(1, .ref 0), (2, .ref 130), (3, .ref 178), (4, .int (nI k))] [.int (F_X12_count (xs (k + 1)) B JB)] (mI A (FI_X12_count (xs (k + 1)) B JB)) (mJ JA JB) R 179 g
  refine q_pop ok dL_law_1405 rfl ?_
  refine q_goto (tgt := 1409) ok dL_law_1406 (by decide) ?_
  exact kk
