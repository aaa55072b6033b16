/-! printed by wip/gen/gen_law.py: the law, case by case -/
theorem rm_t {R : SR} (h : RM R) : RM (tR R) := by
  intro q hq
  have e : ∀ q ∈ RML, ¬ (q.1 = 81 ∧ q.2.1 = 1) := by decide +kernel
  exact (u2_n R (some 1) (e q hq)).trans (h q hq)
theorem fr_text (a : Int32) (I : SI) (J : SJ) (R : SR) : FR_X11_text a I J R = R ∨ FR_X11_text a I J R = tR R := by
  unfold FR_X11_text
  split <;> (try split) <;> (try split) <;> first | exact Or.inl rfl | exact Or.inr rfl
set_option maxHeartbeats 2000000 in
set_option maxRecDepth 40000 in
theorem law_c0 {K : KT} {b L k g cl sl : Nat} {xs : Nat → Int32} {A B : SI} {JA JB : SJ} {R : SR} (ok : OK K mL_law 1000) (sc : Sc K b L xs) (ro : RO R) (rm : RM R) (hk6 : k + 5 < L) (hx0 : H_X11_feed (xs (k + 1)) (xs (k + 2)) (xs (k + 3)) (xs (k + 4)) (xs (k + 5)) A JA) (hm0 : H_X12_feed (xs (k + 1)) (xs (k + 2)) (xs (k + 3)) (xs (k + 4)) (xs (k + 5)) B JB) (kk : WL K b cl sl 1381 [(1, .ref 0), (2, .ref 130), (3, .ref 178), (4, .int (nI k))] [] (mI (FI_X11_feed (xs (k + 1)) (xs (k + 2)) (xs (k + 3)) (xs (k + 4)) (xs (k + 5)) A JA) (FI_X12_feed (xs (k + 1)) (xs (k + 2)) (xs (k + 3)) (xs (k + 4)) (xs (k + 5)) B JB)) (mJ JA JB) R 179 g) : WL K b cl sl 208 [(1, .ref 0), (2, .ref 130), (3, .ref 178), (4, .int (nI k))] [] (mI A B) (mJ JA JB) R 179 g := by
  refine q_aload_n ok dL_law_208 0 rfl ?_
  refine q_sc (j := 1) ok sc dL_law_209 dL_law_210 dL_law_212 (by decide) dL_law_213 dL_law_214 3 rfl (by omega) ?_
  refine q_sc (j := 2) ok sc dL_law_215 dL_law_216 dL_law_218 (by decide) dL_law_219 dL_law_220 3 rfl (by omega) ?_
  refine q_sc (j := 3) ok sc dL_law_221 dL_law_222 dL_law_224 (by decide) dL_law_225 dL_law_226 3 rfl (by omega) ?_
  refine q_sc (j := 4) ok sc dL_law_227 dL_law_228 dL_law_230 (by decide) dL_law_231 dL_law_232 3 rfl (by omega) ?_
  refine q_sc (j := 5) ok sc dL_law_233 dL_law_234 dL_law_236 (by decide) dL_law_237 dL_law_238 3 rfl (by omega) ?_
  refine q_x (As := [.int (xs (k + 1)), .int (xs (k + 2)), .int (xs (k + 3)), .int (xs (k + 4)), .int (xs (k + 5))]) ok dL_law_239 iX11_feed (lL_21 rfl) (rcv cls11 (congrArg Prod.fst s_0)) (by decide) (c_X11_feed ro (by decide) rfl (xs (k + 1)) (xs (k + 2)) (xs (k + 3)) (xs (k + 4)) (xs (k + 5))  hx0) (by decide) rfl (Nat.le_of_ble_eq_true rfl) ?_
  show WL K b cl sl 242 [(1, .ref 0), (2, .ref 130), (3, .ref 178), (4, .int (nI k))] [.int (F_X11_feed (xs (k + 1)) (xs (k + 2)) (xs (k + 3)) (xs (k + 4)) (xs (k + 5)) A JA)] (mI (FI_X11_feed (xs (k + 1)) (xs (k + 2)) (xs (k + 3)) (xs (k + 4)) (xs (k + 5)) A JA) B) (mJ JA JB) R 179 g
  refine q_pop ok dL_law_242 rfl ?_
  refine q_aload_n ok dL_law_243 1 rfl ?_
  refine q_sc (j := 1) ok sc dL_law_244 dL_law_245 dL_law_247 (by decide) dL_law_248 dL_law_249 3 rfl (by omega) ?_
  refine q_sc (j := 2) ok sc dL_law_250 dL_law_251 dL_law_253 (by decide) dL_law_254 dL_law_255 3 rfl (by omega) ?_
  refine q_sc (j := 3) ok sc dL_law_256 dL_law_257 dL_law_259 (by decide) dL_law_260 dL_law_261 3 rfl (by omega) ?_
  refine q_sc (j := 4) ok sc dL_law_262 dL_law_263 dL_law_265 (by decide) dL_law_266 dL_law_267 3 rfl (by omega) ?_
  refine q_sc (j := 5) ok sc dL_law_268 dL_law_269 dL_law_271 (by decide) dL_law_272 dL_law_273 3 rfl (by omega) ?_
  refine q_m (As := [.int (xs (k + 1)), .int (xs (k + 2)), .int (xs (k + 3)), .int (xs (k + 4)), .int (xs (k + 5))]) ok dL_law_274 iX12_feed (lL_25 rfl) (rcv cls12 (congrArg Prod.fst s_130)) (by decide) (c_X12_feed rm (by decide) rfl (xs (k + 1)) (xs (k + 2)) (xs (k + 3)) (xs (k + 4)) (xs (k + 5))  hm0) (by decide) rfl (Nat.le_of_ble_eq_true rfl) ?_
  show WL K b cl sl 277 [(1, .ref 0), (2, .ref 130), (3, .ref 178), (4, .int (nI k))] [.int (F_X12_feed (xs (k + 1)) (xs (k + 2)) (xs (k + 3)) (xs (k + 4)) (xs (k + 5)) B JB)] (mI (FI_X11_feed (xs (k + 1)) (xs (k + 2)) (xs (k + 3)) (xs (k + 4)) (xs (k + 5)) A JA) (FI_X12_feed (xs (k + 1)) (xs (k + 2)) (xs (k + 3)) (xs (k + 4)) (xs (k + 5)) B JB)) (mJ JA JB) R 179 g
  refine q_pop ok dL_law_277 rfl ?_
  refine q_goto (tgt := 1381) ok dL_law_278 (by decide) ?_
  exact kk
set_option maxHeartbeats 2000000 in
set_option maxRecDepth 40000 in
theorem law_c1 {K : KT} {b L k g cl sl : Nat} {xs : Nat → Int32} {A B : SI} {JA JB : SJ} {R : SR} (ok : OK K mL_law 1000) (sc : Sc K b L xs) (ro : RO R) (rm : RM R) (hk6 : k + 5 < L) (hx0 : H_X11_text (xs (k + 1)) A JA) (hm0 : H_X12_text (xs (k + 1)) B JB) (kk : WL K b cl sl 1381 [(1, .ref 0), (2, .ref 130), (3, .ref 178), (4, .int (nI k))] [] (mI (FI_X11_text (xs (k + 1)) A JA) (FI_X12_text (xs (k + 1)) B JB)) (mJ (FJ_X11_text (xs (k + 1)) A JA) (FJ_X12_text (xs (k + 1)) B JB)) ((FR_X11_text (xs (k + 1)) A JA R)) 179 g) : WL K b cl sl 281 [(1, .ref 0), (2, .ref 130), (3, .ref 178), (4, .int (nI k))] [] (mI A B) (mJ JA JB) R 179 g := by
  refine q_aload_n ok dL_law_281 0 rfl ?_
  refine q_sc (j := 1) ok sc dL_law_282 dL_law_283 dL_law_285 (by decide) dL_law_286 dL_law_287 3 rfl (by omega) ?_
  refine q_x (As := [.int (xs (k + 1))]) ok dL_law_288 iX11_text (lL_26 rfl) (rcv cls11 (congrArg Prod.fst s_0)) (by decide) (c_X11_text ro (by decide) rfl (xs (k + 1))  hx0) (by decide) rfl (Nat.le_of_ble_eq_true rfl) ?_
  show WL K b cl sl 291 [(1, .ref 0), (2, .ref 130), (3, .ref 178), (4, .int (nI k))] [.int (F_X11_text (xs (k + 1)) A JA)] (mI (FI_X11_text (xs (k + 1)) A JA) B) (mJ (FJ_X11_text (xs (k + 1)) A JA) JB) ((FR_X11_text (xs (k + 1)) A JA R)) 179 g
  have rm1 : RM (FR_X11_text (xs (k + 1)) A JA R) := by rcases fr_text _ _ _ R with h | h <;> rw [h] <;> first | exact rm | exact rm_t rm
  refine q_pop ok dL_law_291 rfl ?_
  refine q_aload_n ok dL_law_292 1 rfl ?_
  refine q_sc (j := 1) ok sc dL_law_293 dL_law_294 dL_law_296 (by decide) dL_law_297 dL_law_298 3 rfl (by omega) ?_
  refine q_m (As := [.int (xs (k + 1))]) ok dL_law_299 iX12_text (lL_30 rfl) (rcv cls12 (congrArg Prod.fst s_130)) (by decide) (c_X12_text rm1 (by decide) rfl (xs (k + 1))  hm0) (by decide) rfl (Nat.le_of_ble_eq_true rfl) ?_
  show WL K b cl sl 302 [(1, .ref 0), (2, .ref 130), (3, .ref 178), (4, .int (nI k))] [.int (F_X12_text (xs (k + 1)) B JB)] (mI (FI_X11_text (xs (k + 1)) A JA) (FI_X12_text (xs (k + 1)) B JB)) (mJ (FJ_X11_text (xs (k + 1)) A JA) (FJ_X12_text (xs (k + 1)) B JB)) ((FR_X11_text (xs (k + 1)) A JA R)) 179 g
  refine q_pop ok dL_law_302 rfl ?_
  refine q_goto (tgt := 1381) ok dL_law_303 (by decide) ?_
  exact kk
set_option maxHeartbeats 2000000 in
set_option maxRecDepth 40000 in
theorem law_c2 {K : KT} {b L k g cl sl : Nat} {xs : Nat → Int32} {A B : SI} {JA JB : SJ} {R : SR} (ok : OK K mL_law 1000) (sc : Sc K b L xs) (ro : RO R) (rm : RM R) (hk6 : k + 5 < L)  (kk : WL K b cl sl 1381 [(1, .ref 0), (2, .ref 130), (3, .ref 178), (4, .int (nI k))] [] (mI A (FI_X12_fault (xs (k + 1)) B JB)) (mJ JA JB) R 179 g) : WL K b cl sl 306 [(1, .ref 0), (2, .ref 130), (3, .ref 178), (4, .int (nI k))] [] (mI A B) (mJ JA JB) R 179 g := by
  refine q_aload_n ok dL_law_306 0 rfl ?_
  refine q_sc (j := 1) ok sc dL_law_307 dL_law_308 dL_law_310 (by decide) dL_law_311 dL_law_312 3 rfl (by omega) ?_
  refine q_x (As := [.int (xs (k + 1))]) ok dL_law_313 iX11_fault (lL_31 rfl) (rcv cls11 (congrArg Prod.fst s_0)) (by decide) (c_X11_fault ro (by decide) rfl (xs (k + 1)) ) (by decide) rfl (Nat.le_of_ble_eq_true rfl) ?_
  show WL K b cl sl 316 [(1, .ref 0), (2, .ref 130), (3, .ref 178), (4, .int (nI k))] [.int (F_X11_fault (xs (k + 1)) A JA)] (mI A B) (mJ JA JB) R 179 g
  refine q_pop ok dL_law_316 rfl ?_
  refine q_aload_n ok dL_law_317 1 rfl ?_
  refine q_sc (j := 1) ok sc dL_law_318 dL_law_319 dL_law_321 (by decide) dL_law_322 dL_law_323 3 rfl (by omega) ?_
  refine q_m (As := [.int (xs (k + 1))]) ok dL_law_324 iX12_fault (lL_34 rfl) (rcv cls12 (congrArg Prod.fst s_130)) (by decide) (c_X12_fault rm (by decide) rfl (xs (k + 1)) ) (by decide) rfl (Nat.le_of_ble_eq_true rfl) ?_
  show WL K b cl sl 327 [(1, .ref 0), (2, .ref 130), (3, .ref 178), (4, .int (nI k))] [.int (F_X12_fault (xs (k + 1)) B JB)] (mI A (FI_X12_fault (xs (k + 1)) B JB)) (mJ JA JB) R 179 g
  refine q_pop ok dL_law_327 rfl ?_
  refine q_goto (tgt := 1381) ok dL_law_328 (by decide) ?_
  exact kk
set_option maxHeartbeats 2000000 in
set_option maxRecDepth 40000 in
theorem law_c3 {K : KT} {b L k g cl sl : Nat} {xs : Nat → Int32} {A B : SI} {JA JB : SJ} {R : SR} (ok : OK K mL_law 1000) (sc : Sc K b L xs) (ro : RO R) (rm : RM R) (hk6 : k + 5 < L) (hm0 : H_X12_named (xs (k + 1)) (xs (k + 2)) B JB) (kk : WL K b cl sl 1381 [(1, .ref 0), (2, .ref 130), (3, .ref 178), (4, .int (nI k))] [] (mI A (FI_X12_named (xs (k + 1)) (xs (k + 2)) B JB)) (mJ JA JB) R 179 g) : WL K b cl sl 331 [(1, .ref 0), (2, .ref 130), (3, .ref 178), (4, .int (nI k))] [] (mI A B) (mJ JA JB) R 179 g := by
  refine q_aload_n ok dL_law_331 0 rfl ?_
  refine q_sc (j := 1) ok sc dL_law_332 dL_law_333 dL_law_335 (by decide) dL_law_336 dL_law_337 3 rfl (by omega) ?_
  refine q_sc (j := 2) ok sc dL_law_338 dL_law_339 dL_law_341 (by decide) dL_law_342 dL_law_343 3 rfl (by omega) ?_
  refine q_x (As := [.int (xs (k + 1)), .int (xs (k + 2))]) ok dL_law_344 iX11_named (lL_35 rfl) (rcv cls11 (congrArg Prod.fst s_0)) (by decide) (c_X11_named ro (by decide) rfl (xs (k + 1)) (xs (k + 2)) ) (by decide) rfl (Nat.le_of_ble_eq_true rfl) ?_
  show WL K b cl sl 347 [(1, .ref 0), (2, .ref 130), (3, .ref 178), (4, .int (nI k))] [.int (F_X11_named (xs (k + 1)) (xs (k + 2)) A JA)] (mI A B) (mJ JA JB) R 179 g
  refine q_pop ok dL_law_347 rfl ?_
  refine q_aload_n ok dL_law_348 1 rfl ?_
  refine q_sc (j := 1) ok sc dL_law_349 dL_law_350 dL_law_352 (by decide) dL_law_353 dL_law_354 3 rfl (by omega) ?_
  refine q_sc (j := 2) ok sc dL_law_355 dL_law_356 dL_law_358 (by decide) dL_law_359 dL_law_360 3 rfl (by omega) ?_
  refine q_m (As := [.int (xs (k + 1)), .int (xs (k + 2))]) ok dL_law_361 iX12_named (lL_38 rfl) (rcv cls12 (congrArg Prod.fst s_130)) (by decide) (c_X12_named rm (by decide) rfl (xs (k + 1)) (xs (k + 2))  hm0) (by decide) rfl (Nat.le_of_ble_eq_true rfl) ?_
  show WL K b cl sl 364 [(1, .ref 0), (2, .ref 130), (3, .ref 178), (4, .int (nI k))] [.int (F_X12_named (xs (k + 1)) (xs (k + 2)) B JB)] (mI A (FI_X12_named (xs (k + 1)) (xs (k + 2)) B JB)) (mJ JA JB) R 179 g
  refine q_pop ok dL_law_364 rfl ?_
  refine q_goto (tgt := 1381) ok dL_law_365 (by decide) ?_
  exact kk
set_option maxHeartbeats 2000000 in
set_option maxRecDepth 40000 in
theorem law_c5 {K : KT} {b L k g cl sl : Nat} {xs : Nat → Int32} {A B : SI} {JA JB : SJ} {R : SR} (ok : OK K mL_law 1000) (sc : Sc K b L xs) (ro : RO R) (rm : RM R) (hk6 : k + 5 < L) (hm0 : H_X12_shot (xs (k + 1)) (xs (k + 2)) B JB) (kk : WL K b cl sl 1381 [(1, .ref 0), (2, .ref 130), (3, .ref 178), (4, .int (nI k))] [] (mI A (FI_X12_shot (xs (k + 1)) (xs (k + 2)) B JB)) (mJ JA JB) R 179 g) : WL K b cl sl 408 [(1, .ref 0), (2, .ref 130), (3, .ref 178), (4, .int (nI k))] [] (mI A B) (mJ JA JB) R 179 g := by
  refine q_aload_n ok dL_law_408 0 rfl ?_
  refine q_sc (j := 1) ok sc dL_law_409 dL_law_410 dL_law_412 (by decide) dL_law_413 dL_law_414 3 rfl (by omega) ?_
  refine q_sc (j := 2) ok sc dL_law_415 dL_law_416 dL_law_418 (by decide) dL_law_419 dL_law_420 3 rfl (by omega) ?_
  refine q_x (As := [.int (xs (k + 1)), .int (xs (k + 2))]) ok dL_law_421 iX11_shot (lL_45 rfl) (rcv cls11 (congrArg Prod.fst s_0)) (by decide) (c_X11_shot ro (by decide) rfl (xs (k + 1)) (xs (k + 2)) ) (by decide) rfl (Nat.le_of_ble_eq_true rfl) ?_
  show WL K b cl sl 424 [(1, .ref 0), (2, .ref 130), (3, .ref 178), (4, .int (nI k))] [.int (F_X11_shot (xs (k + 1)) (xs (k + 2)) A JA)] (mI A B) (mJ JA JB) R 179 g
  refine q_pop ok dL_law_424 rfl ?_
  refine q_aload_n ok dL_law_425 1 rfl ?_
  refine q_sc (j := 1) ok sc dL_law_426 dL_law_427 dL_law_429 (by decide) dL_law_430 dL_law_431 3 rfl (by omega) ?_
  refine q_sc (j := 2) ok sc dL_law_432 dL_law_433 dL_law_435 (by decide) dL_law_436 dL_law_437 3 rfl (by omega) ?_
  refine q_m (As := [.int (xs (k + 1)), .int (xs (k + 2))]) ok dL_law_438 iX12_shot (lL_48 rfl) (rcv cls12 (congrArg Prod.fst s_130)) (by decide) (c_X12_shot rm (by decide) rfl (xs (k + 1)) (xs (k + 2))  hm0) (by decide) rfl (Nat.le_of_ble_eq_true rfl) ?_
  show WL K b cl sl 441 [(1, .ref 0), (2, .ref 130), (3, .ref 178), (4, .int (nI k))] [.int (F_X12_shot (xs (k + 1)) (xs (k + 2)) B JB)] (mI A (FI_X12_shot (xs (k + 1)) (xs (k + 2)) B JB)) (mJ JA JB) R 179 g
  refine q_pop ok dL_law_441 rfl ?_
  refine q_goto (tgt := 1381) ok dL_law_442 (by decide) ?_
  exact kk
set_option maxHeartbeats 2000000 in
set_option maxRecDepth 40000 in
theorem law_c6 {K : KT} {b L k g cl sl : Nat} {xs : Nat → Int32} {A B : SI} {JA JB : SJ} {R : SR} (ok : OK K mL_law 1000) (sc : Sc K b L xs) (ro : RO R) (rm : RM R) (hk6 : k + 5 < L) (hm0 : H_X12_way (xs (k + 1)) (xs (k + 2)) B JB) (kk : WL K b cl sl 1381 [(1, .ref 0), (2, .ref 130), (3, .ref 178), (4, .int (nI k))] [] (mI A (FI_X12_way (xs (k + 1)) (xs (k + 2)) B JB)) (mJ JA JB) R 179 g) : WL K b cl sl 445 [(1, .ref 0), (2, .ref 130), (3, .ref 178), (4, .int (nI k))] [] (mI A B) (mJ JA JB) R 179 g := by
  refine q_aload_n ok dL_law_445 0 rfl ?_
  refine q_sc (j := 1) ok sc dL_law_446 dL_law_447 dL_law_449 (by decide) dL_law_450 dL_law_451 3 rfl (by omega) ?_
  refine q_sc (j := 2) ok sc dL_law_452 dL_law_453 dL_law_455 (by decide) dL_law_456 dL_law_457 3 rfl (by omega) ?_
  refine q_x (As := [.int (xs (k + 1)), .int (xs (k + 2))]) ok dL_law_458 iX11_way (lL_49 rfl) (rcv cls11 (congrArg Prod.fst s_0)) (by decide) (c_X11_way ro (by decide) rfl (xs (k + 1)) (xs (k + 2)) ) (by decide) rfl (Nat.le_of_ble_eq_true rfl) ?_
  show WL K b cl sl 461 [(1, .ref 0), (2, .ref 130), (3, .ref 178), (4, .int (nI k))] [.int (F_X11_way (xs (k + 1)) (xs (k + 2)) A JA)] (mI A B) (mJ JA JB) R 179 g
  refine q_pop ok dL_law_461 rfl ?_
  refine q_aload_n ok dL_law_462 1 rfl ?_
  refine q_sc (j := 1) ok sc dL_law_463 dL_law_464 dL_law_466 (by decide) dL_law_467 dL_law_468 3 rfl (by omega) ?_
  refine q_sc (j := 2) ok sc dL_law_469 dL_law_470 dL_law_472 (by decide) dL_law_473 dL_law_474 3 rfl (by omega) ?_
  refine q_m (As := [.int (xs (k + 1)), .int (xs (k + 2))]) ok dL_law_475 iX12_way (lL_52 rfl) (rcv cls12 (congrArg Prod.fst s_130)) (by decide) (c_X12_way rm (by decide) rfl (xs (k + 1)) (xs (k + 2))  hm0) (by decide) rfl (Nat.le_of_ble_eq_true rfl) ?_
  show WL K b cl sl 478 [(1, .ref 0), (2, .ref 130), (3, .ref 178), (4, .int (nI k))] [.int (F_X12_way (xs (k + 1)) (xs (k + 2)) B JB)] (mI A (FI_X12_way (xs (k + 1)) (xs (k + 2)) B JB)) (mJ JA JB) R 179 g
  refine q_pop ok dL_law_478 rfl ?_
  refine q_goto (tgt := 1381) ok dL_law_479 (by decide) ?_
  exact kk
set_option maxHeartbeats 2000000 in
set_option maxRecDepth 40000 in
theorem law_c7 {K : KT} {b L k g cl sl : Nat} {xs : Nat → Int32} {A B : SI} {JA JB : SJ} {R : SR} (ok : OK K mL_law 1000) (sc : Sc K b L xs) (ro : RO R) (rm : RM R) (hk6 : k + 5 < L) (hm0 : H_X12_party (xs (k + 1)) (xs (k + 2)) B JB) (kk : WL K b cl sl 1381 [(1, .ref 0), (2, .ref 130), (3, .ref 178), (4, .int (nI k))] [] (mI A (FI_X12_party (xs (k + 1)) (xs (k + 2)) B JB)) (mJ JA JB) R 179 g) : WL K b cl sl 482 [(1, .ref 0), (2, .ref 130), (3, .ref 178), (4, .int (nI k))] [] (mI A B) (mJ JA JB) R 179 g := by
  refine q_aload_n ok dL_law_482 0 rfl ?_
  refine q_sc (j := 1) ok sc dL_law_483 dL_law_484 dL_law_486 (by decide) dL_law_487 dL_law_488 3 rfl (by omega) ?_
  refine q_sc (j := 2) ok sc dL_law_489 dL_law_490 dL_law_492 (by decide) dL_law_493 dL_law_494 3 rfl (by omega) ?_
  refine q_x (As := [.int (xs (k + 1)), .int (xs (k + 2))]) ok dL_law_495 iX11_party (lL_53 rfl) (rcv cls11 (congrArg Prod.fst s_0)) (by decide) (c_X11_party ro (by decide) rfl (xs (k + 1)) (xs (k + 2)) ) (by decide) rfl (Nat.le_of_ble_eq_true rfl) ?_
  show WL K b cl sl 498 [(1, .ref 0), (2, .ref 130), (3, .ref 178), (4, .int (nI k))] [.int (F_X11_party (xs (k + 1)) (xs (k + 2)) A JA)] (mI A B) (mJ JA JB) R 179 g
  refine q_pop ok dL_law_498 rfl ?_
  refine q_aload_n ok dL_law_499 1 rfl ?_
  refine q_sc (j := 1) ok sc dL_law_500 dL_law_501 dL_law_503 (by decide) dL_law_504 dL_law_505 3 rfl (by omega) ?_
  refine q_sc (j := 2) ok sc dL_law_506 dL_law_507 dL_law_509 (by decide) dL_law_510 dL_law_511 3 rfl (by omega) ?_
  refine q_m (As := [.int (xs (k + 1)), .int (xs (k + 2))]) ok dL_law_512 iX12_party (lL_56 rfl) (rcv cls12 (congrArg Prod.fst s_130)) (by decide) (c_X12_party rm (by decide) rfl (xs (k + 1)) (xs (k + 2))  hm0) (by decide) rfl (Nat.le_of_ble_eq_true rfl) ?_
  show WL K b cl sl 515 [(1, .ref 0), (2, .ref 130), (3, .ref 178), (4, .int (nI k))] [.int (F_X12_party (xs (k + 1)) (xs (k + 2)) B JB)] (mI A (FI_X12_party (xs (k + 1)) (xs (k + 2)) B JB)) (mJ JA JB) R 179 g
  refine q_pop ok dL_law_515 rfl ?_
  refine q_goto (tgt := 1381) ok dL_law_516 (by decide) ?_
  exact kk
set_option maxHeartbeats 2000000 in
set_option maxRecDepth 40000 in
theorem law_c8 {K : KT} {b L k g cl sl : Nat} {xs : Nat → Int32} {A B : SI} {JA JB : SJ} {R : SR} (ok : OK K mL_law 1000) (sc : Sc K b L xs) (ro : RO R) (rm : RM R) (hk6 : k + 5 < L) (hm0 : H_X12_clerk (xs (k + 1)) B JB) (kk : WL K b cl sl 1381 [(1, .ref 0), (2, .ref 130), (3, .ref 178), (4, .int (nI k))] [] (mI A (FI_X12_clerk (xs (k + 1)) B JB)) (mJ JA JB) R 179 g) : WL K b cl sl 519 [(1, .ref 0), (2, .ref 130), (3, .ref 178), (4, .int (nI k))] [] (mI A B) (mJ JA JB) R 179 g := by
  refine q_aload_n ok dL_law_519 0 rfl ?_
  refine q_sc (j := 1) ok sc dL_law_520 dL_law_521 dL_law_523 (by decide) dL_law_524 dL_law_525 3 rfl (by omega) ?_
  refine q_x (As := [.int (xs (k + 1))]) ok dL_law_526 iX11_clerk (lL_57 rfl) (rcv cls11 (congrArg Prod.fst s_0)) (by decide) (c_X11_clerk ro (by decide) rfl (xs (k + 1)) ) (by decide) rfl (Nat.le_of_ble_eq_true rfl) ?_
  show WL K b cl sl 529 [(1, .ref 0), (2, .ref 130), (3, .ref 178), (4, .int (nI k))] [.int (F_X11_clerk (xs (k + 1)) A JA)] (mI A B) (mJ JA JB) R 179 g
  refine q_pop ok dL_law_529 rfl ?_
  refine q_aload_n ok dL_law_530 1 rfl ?_
  refine q_sc (j := 1) ok sc dL_law_531 dL_law_532 dL_law_534 (by decide) dL_law_535 dL_law_536 3 rfl (by omega) ?_
  refine q_m (As := [.int (xs (k + 1))]) ok dL_law_537 iX12_clerk (lL_60 rfl) (rcv cls12 (congrArg Prod.fst s_130)) (by decide) (c_X12_clerk rm (by decide) rfl (xs (k + 1))  hm0) (by decide) rfl (Nat.le_of_ble_eq_true rfl) ?_
  show WL K b cl sl 540 [(1, .ref 0), (2, .ref 130), (3, .ref 178), (4, .int (nI k))] [.int (F_X12_clerk (xs (k + 1)) B JB)] (mI A (FI_X12_clerk (xs (k + 1)) B JB)) (mJ JA JB) R 179 g
  refine q_pop ok dL_law_540 rfl ?_
  refine q_goto (tgt := 1381) ok dL_law_541 (by decide) ?_
  exact kk
set_option maxHeartbeats 2000000 in
set_option maxRecDepth 40000 in
theorem law_c9 {K : KT} {b L k g cl sl : Nat} {xs : Nat → Int32} {A B : SI} {JA JB : SJ} {R : SR} (ok : OK K mL_law 1000) (sc : Sc K b L xs) (ro : RO R) (rm : RM R) (hk6 : k + 5 < L) (hx0 : H_X11_law (xs (k + 1)) (xs (k + 2)) (xs (k + 3)) A JA) (hm0 : H_X12_law (xs (k + 1)) (xs (k + 2)) (xs (k + 3)) B JB) (kk : WL K b cl sl 1381 [(1, .ref 0), (2, .ref 130), (3, .ref 178), (4, .int (nI k))] [] (mI (FI_X11_law (xs (k + 1)) (xs (k + 2)) (xs (k + 3)) A JA) (FI_X12_law (xs (k + 1)) (xs (k + 2)) (xs (k + 3)) B JB)) (mJ (FJ_X11_law (xs (k + 1)) (xs (k + 2)) (xs (k + 3)) A JA) (FJ_X12_law (xs (k + 1)) (xs (k + 2)) (xs (k + 3)) B JB)) R 179 g) : WL K b cl sl 544 [(1, .ref 0), (2, .ref 130), (3, .ref 178), (4, .int (nI k))] [] (mI A B) (mJ JA JB) R 179 g := by
  refine q_aload_n ok dL_law_544 0 rfl ?_
  refine q_sc (j := 1) ok sc dL_law_545 dL_law_546 dL_law_548 (by decide) dL_law_549 dL_law_550 3 rfl (by omega) ?_
  refine q_sc (j := 2) ok sc dL_law_551 dL_law_552 dL_law_554 (by decide) dL_law_555 dL_law_556 3 rfl (by omega) ?_
  refine q_sc (j := 3) ok sc dL_law_557 dL_law_558 dL_law_560 (by decide) dL_law_561 dL_law_562 3 rfl (by omega) ?_
  refine q_x (As := [.int (xs (k + 1)), .int (xs (k + 2)), .int (xs (k + 3))]) ok dL_law_563 iX11_law (lL_61 rfl) (rcv cls11 (congrArg Prod.fst s_0)) (by decide) (c_X11_law ro (by decide) rfl (xs (k + 1)) (xs (k + 2)) (xs (k + 3))  hx0) (by decide) rfl (Nat.le_of_ble_eq_true rfl) ?_
  show WL K b cl sl 566 [(1, .ref 0), (2, .ref 130), (3, .ref 178), (4, .int (nI k))] [.long (F_X11_law (xs (k + 1)) (xs (k + 2)) (xs (k + 3)) A JA)] (mI (FI_X11_law (xs (k + 1)) (xs (k + 2)) (xs (k + 3)) A JA) B) (mJ (FJ_X11_law (xs (k + 1)) (xs (k + 2)) (xs (k + 3)) A JA) JB) R 179 g
  refine q_pop2 ok dL_law_566 rfl ?_
  refine q_aload_n ok dL_law_567 1 rfl ?_
  refine q_sc (j := 1) ok sc dL_law_568 dL_law_569 dL_law_571 (by decide) dL_law_572 dL_law_573 3 rfl (by omega) ?_
  refine q_sc (j := 2) ok sc dL_law_574 dL_law_575 dL_law_577 (by decide) dL_law_578 dL_law_579 3 rfl (by omega) ?_
  refine q_sc (j := 3) ok sc dL_law_580 dL_law_581 dL_law_583 (by decide) dL_law_584 dL_law_585 3 rfl (by omega) ?_
  refine q_m (As := [.int (xs (k + 1)), .int (xs (k + 2)), .int (xs (k + 3))]) ok dL_law_586 iX12_law (lL_65 rfl) (rcv cls12 (congrArg Prod.fst s_130)) (by decide) (c_X12_law rm (by decide) rfl (xs (k + 1)) (xs (k + 2)) (xs (k + 3))  hm0) (by decide) rfl (Nat.le_of_ble_eq_true rfl) ?_
  show WL K b cl sl 589 [(1, .ref 0), (2, .ref 130), (3, .ref 178), (4, .int (nI k))] [.long (F_X12_law (xs (k + 1)) (xs (k + 2)) (xs (k + 3)) B JB)] (mI (FI_X11_law (xs (k + 1)) (xs (k + 2)) (xs (k + 3)) A JA) (FI_X12_law (xs (k + 1)) (xs (k + 2)) (xs (k + 3)) B JB)) (mJ (FJ_X11_law (xs (k + 1)) (xs (k + 2)) (xs (k + 3)) A JA) (FJ_X12_law (xs (k + 1)) (xs (k + 2)) (xs (k + 3)) B JB)) R 179 g
  refine q_pop2 ok dL_law_589 rfl ?_
  refine q_goto (tgt := 1381) ok dL_law_590 (by decide) ?_
  exact kk
set_option maxHeartbeats 2000000 in
set_option maxRecDepth 40000 in
theorem law_c10 {K : KT} {b L k g cl sl : Nat} {xs : Nat → Int32} {A B : SI} {JA JB : SJ} {R : SR} (ok : OK K mL_law 1000) (sc : Sc K b L xs) (ro : RO R) (rm : RM R) (hk6 : k + 5 < L) (hm0 : H_X12_plums (xs (k + 1)) (xs (k + 2)) B JB) (kk : WL K b cl sl 1381 [(1, .ref 0), (2, .ref 130), (3, .ref 178), (4, .int (nI k))] [] (mI (FI_X11_plums (xs (k + 1)) (xs (k + 2)) A JA) (FI_X12_plums (xs (k + 1)) (xs (k + 2)) B JB)) (mJ JA JB) R 179 g) : WL K b cl sl 593 [(1, .ref 0), (2, .ref 130), (3, .ref 178), (4, .int (nI k))] [] (mI A B) (mJ JA JB) R 179 g := by
  refine q_aload_n ok dL_law_593 0 rfl ?_
  refine q_sc (j := 1) ok sc dL_law_594 dL_law_595 dL_law_597 (by decide) dL_law_598 dL_law_599 3 rfl (by omega) ?_
  refine q_sc (j := 2) ok sc dL_law_600 dL_law_601 dL_law_603 (by decide) dL_law_604 dL_law_605 3 rfl (by omega) ?_
  refine q_x (As := [.int (xs (k + 1)), .int (xs (k + 2))]) ok dL_law_606 iX11_plums (lL_66 rfl) (rcv cls11 (congrArg Prod.fst s_0)) (by decide) (c_X11_plums ro (by decide) rfl (xs (k + 1)) (xs (k + 2)) ) (by decide) rfl (Nat.le_of_ble_eq_true rfl) ?_
  show WL K b cl sl 609 [(1, .ref 0), (2, .ref 130), (3, .ref 178), (4, .int (nI k))] [.int (F_X11_plums (xs (k + 1)) (xs (k + 2)) A JA)] (mI (FI_X11_plums (xs (k + 1)) (xs (k + 2)) A JA) B) (mJ JA JB) R 179 g
  refine q_pop ok dL_law_609 rfl ?_
  refine q_aload_n ok dL_law_610 1 rfl ?_
  refine q_sc (j := 1) ok sc dL_law_611 dL_law_612 dL_law_614 (by decide) dL_law_615 dL_law_616 3 rfl (by omega) ?_
  refine q_sc (j := 2) ok sc dL_law_617 dL_law_618 dL_law_620 (by decide) dL_law_621 dL_law_622 3 rfl (by omega) ?_
  refine q_m (As := [.int (xs (k + 1)), .int (xs (k + 2))]) ok dL_law_623 iX12_plums (lL_69 rfl) (rcv cls12 (congrArg Prod.fst s_130)) (by decide) (c_X12_plums rm (by decide) rfl (xs (k + 1)) (xs (k + 2))  hm0) (by decide) rfl (Nat.le_of_ble_eq_true rfl) ?_
  show WL K b cl sl 626 [(1, .ref 0), (2, .ref 130), (3, .ref 178), (4, .int (nI k))] [.int (F_X12_plums (xs (k + 1)) (xs (k + 2)) B JB)] (mI (FI_X11_plums (xs (k + 1)) (xs (k + 2)) A JA) (FI_X12_plums (xs (k + 1)) (xs (k + 2)) B JB)) (mJ JA JB) R 179 g
  refine q_pop ok dL_law_626 rfl ?_
  refine q_goto (tgt := 1381) ok dL_law_627 (by decide) ?_
  exact kk
set_option maxHeartbeats 2000000 in
set_option maxRecDepth 40000 in
theorem law_c11 {K : KT} {b L k g cl sl : Nat} {xs : Nat → Int32} {A B : SI} {JA JB : SJ} {R : SR} (ok : OK K mL_law 1000) (sc : Sc K b L xs) (ro : RO R) (rm : RM R) (hk6 : k + 5 < L) (hm0 : H_X12_move (xs (k + 1)) (xs (k + 2)) B JB) (kk : WL K b cl sl 1381 [(1, .ref 0), (2, .ref 130), (3, .ref 178), (4, .int (nI k))] [] (mI (FI_X11_move (xs (k + 1)) (xs (k + 2)) A JA) (FI_X12_move (xs (k + 1)) (xs (k + 2)) B JB)) (mJ JA JB) R 179 g) : WL K b cl sl 630 [(1, .ref 0), (2, .ref 130), (3, .ref 178), (4, .int (nI k))] [] (mI A B) (mJ JA JB) R 179 g := by
  refine q_aload_n ok dL_law_630 0 rfl ?_
  refine q_sc (j := 1) ok sc dL_law_631 dL_law_632 dL_law_634 (by decide) dL_law_635 dL_law_636 3 rfl (by omega) ?_
  refine q_sc (j := 2) ok sc dL_law_637 dL_law_638 dL_law_640 (by decide) dL_law_641 dL_law_642 3 rfl (by omega) ?_
  refine q_x (As := [.int (xs (k + 1)), .int (xs (k + 2))]) ok dL_law_643 iX11_move (lL_70 rfl) (rcv cls11 (congrArg Prod.fst s_0)) (by decide) (c_X11_move ro (by decide) rfl (xs (k + 1)) (xs (k + 2)) ) (by decide) rfl (Nat.le_of_ble_eq_true rfl) ?_
  show WL K b cl sl 646 [(1, .ref 0), (2, .ref 130), (3, .ref 178), (4, .int (nI k))] [.int (F_X11_move (xs (k + 1)) (xs (k + 2)) A JA)] (mI (FI_X11_move (xs (k + 1)) (xs (k + 2)) A JA) B) (mJ JA JB) R 179 g
  refine q_pop ok dL_law_646 rfl ?_
  refine q_aload_n ok dL_law_647 1 rfl ?_
  refine q_sc (j := 1) ok sc dL_law_648 dL_law_649 dL_law_651 (by decide) dL_law_652 dL_law_653 3 rfl (by omega) ?_
  refine q_sc (j := 2) ok sc dL_law_654 dL_law_655 dL_law_657 (by decide) dL_law_658 dL_law_659 3 rfl (by omega) ?_
  refine q_m (As := [.int (xs (k + 1)), .int (xs (k + 2))]) ok dL_law_660 iX12_move (lL_74 rfl) (rcv cls12 (congrArg Prod.fst s_130)) (by decide) (c_X12_move rm (by decide) rfl (xs (k + 1)) (xs (k + 2))  hm0) (by decide) rfl (Nat.le_of_ble_eq_true rfl) ?_
  show WL K b cl sl 663 [(1, .ref 0), (2, .ref 130), (3, .ref 178), (4, .int (nI k))] [.int (F_X12_move (xs (k + 1)) (xs (k + 2)) B JB)] (mI (FI_X11_move (xs (k + 1)) (xs (k + 2)) A JA) (FI_X12_move (xs (k + 1)) (xs (k + 2)) B JB)) (mJ JA JB) R 179 g
  refine q_pop ok dL_law_663 rfl ?_
  refine q_goto (tgt := 1381) ok dL_law_664 (by decide) ?_
  exact kk
set_option maxHeartbeats 2000000 in
set_option maxRecDepth 40000 in
theorem law_c12 {K : KT} {b L k g cl sl : Nat} {xs : Nat → Int32} {A B : SI} {JA JB : SJ} {R : SR} (ok : OK K mL_law 1000) (sc : Sc K b L xs) (ro : RO R) (rm : RM R) (hk6 : k + 5 < L) (hx0 : H_X11_tell (xs (k + 1)) (xs (k + 2)) A JA) (hm0 : H_X12_tell (xs (k + 1)) (xs (k + 2)) B JB) (kk : WL K b cl sl 1381 [(1, .ref 0), (2, .ref 130), (3, .ref 178), (4, .int (nI k))] [] (mI (FI_X11_tell (xs (k + 1)) (xs (k + 2)) A JA) (FI_X12_tell (xs (k + 1)) (xs (k + 2)) B JB)) (mJ JA JB) R 179 g) : WL K b cl sl 667 [(1, .ref 0), (2, .ref 130), (3, .ref 178), (4, .int (nI k))] [] (mI A B) (mJ JA JB) R 179 g := by
  refine q_aload_n ok dL_law_667 0 rfl ?_
  refine q_sc (j := 1) ok sc dL_law_668 dL_law_669 dL_law_671 (by decide) dL_law_672 dL_law_673 3 rfl (by omega) ?_
  refine q_sc (j := 2) ok sc dL_law_674 dL_law_675 dL_law_677 (by decide) dL_law_678 dL_law_679 3 rfl (by omega) ?_
  refine q_x (As := [.int (xs (k + 1)), .int (xs (k + 2))]) ok dL_law_680 iX11_tell (lL_75 rfl) (rcv cls11 (congrArg Prod.fst s_0)) (by decide) (c_X11_tell ro (by decide) rfl (xs (k + 1)) (xs (k + 2))  hx0) (by decide) rfl (Nat.le_of_ble_eq_true rfl) ?_
  show WL K b cl sl 683 [(1, .ref 0), (2, .ref 130), (3, .ref 178), (4, .int (nI k))] [.int (F_X11_tell (xs (k + 1)) (xs (k + 2)) A JA)] (mI (FI_X11_tell (xs (k + 1)) (xs (k + 2)) A JA) B) (mJ JA JB) R 179 g
  refine q_pop ok dL_law_683 rfl ?_
  refine q_aload_n ok dL_law_684 1 rfl ?_
  refine q_sc (j := 1) ok sc dL_law_685 dL_law_686 dL_law_688 (by decide) dL_law_689 dL_law_690 3 rfl (by omega) ?_
  refine q_sc (j := 2) ok sc dL_law_691 dL_law_692 dL_law_694 (by decide) dL_law_695 dL_law_696 3 rfl (by omega) ?_
  refine q_m (As := [.int (xs (k + 1)), .int (xs (k + 2))]) ok dL_law_697 iX12_tell (lL_78 rfl) (rcv cls12 (congrArg Prod.fst s_130)) (by decide) (c_X12_tell rm (by decide) rfl (xs (k + 1)) (xs (k + 2))  hm0) (by decide) rfl (Nat.le_of_ble_eq_true rfl) ?_
  show WL K b cl sl 700 [(1, .ref 0), (2, .ref 130), (3, .ref 178), (4, .int (nI k))] [.int (F_X12_tell (xs (k + 1)) (xs (k + 2)) B JB)] (mI (FI_X11_tell (xs (k + 1)) (xs (k + 2)) A JA) (FI_X12_tell (xs (k + 1)) (xs (k + 2)) B JB)) (mJ JA JB) R 179 g
  refine q_pop ok dL_law_700 rfl ?_
  refine q_goto (tgt := 1381) ok dL_law_701 (by decide) ?_
  exact kk
set_option maxHeartbeats 2000000 in
set_option maxRecDepth 40000 in
theorem law_c13 {K : KT} {b L k g cl sl : Nat} {xs : Nat → Int32} {A B : SI} {JA JB : SJ} {R : SR} (ok : OK K mL_law 1000) (sc : Sc K b L xs) (ro : RO R) (rm : RM R) (hk6 : k + 5 < L) (hm0 : H_X12_forget (xs (k + 1)) B JB) (kk : WL K b cl sl 1381 [(1, .ref 0), (2, .ref 130), (3, .ref 178), (4, .int (nI k))] [] (mI (FI_X11_forget (xs (k + 1)) A JA) (FI_X12_forget (xs (k + 1)) B JB)) (mJ JA JB) R 179 g) : WL K b cl sl 704 [(1, .ref 0), (2, .ref 130), (3, .ref 178), (4, .int (nI k))] [] (mI A B) (mJ JA JB) R 179 g := by
  refine q_aload_n ok dL_law_704 0 rfl ?_
  refine q_sc (j := 1) ok sc dL_law_705 dL_law_706 dL_law_708 (by decide) dL_law_709 dL_law_710 3 rfl (by omega) ?_
  refine q_x (As := [.int (xs (k + 1))]) ok dL_law_711 iX11_forget (lL_79 rfl) (rcv cls11 (congrArg Prod.fst s_0)) (by decide) (c_X11_forget ro (by decide) rfl (xs (k + 1)) ) (by decide) rfl (Nat.le_of_ble_eq_true rfl) ?_
  show WL K b cl sl 714 [(1, .ref 0), (2, .ref 130), (3, .ref 178), (4, .int (nI k))] [.int (F_X11_forget (xs (k + 1)) A JA)] (mI (FI_X11_forget (xs (k + 1)) A JA) B) (mJ JA JB) R 179 g
  refine q_pop ok dL_law_714 rfl ?_
  refine q_aload_n ok dL_law_715 1 rfl ?_
  refine q_sc (j := 1) ok sc dL_law_716 dL_law_717 dL_law_719 (by decide) dL_law_720 dL_law_721 3 rfl (by omega) ?_
  refine q_m (As := [.int (xs (k + 1))]) ok dL_law_722 iX12_forget (lL_83 rfl) (rcv cls12 (congrArg Prod.fst s_130)) (by decide) (c_X12_forget rm (by decide) rfl (xs (k + 1))  hm0) (by decide) rfl (Nat.le_of_ble_eq_true rfl) ?_
  show WL K b cl sl 725 [(1, .ref 0), (2, .ref 130), (3, .ref 178), (4, .int (nI k))] [.int (F_X12_forget (xs (k + 1)) B JB)] (mI (FI_X11_forget (xs (k + 1)) A JA) (FI_X12_forget (xs (k + 1)) B JB)) (mJ JA JB) R 179 g
  refine q_pop ok dL_law_725 rfl ?_
  refine q_goto (tgt := 1381) ok dL_law_726 (by decide) ?_
  exact kk
set_option maxHeartbeats 2000000 in
set_option maxRecDepth 40000 in
theorem law_c14 {K : KT} {b L k g cl sl : Nat} {xs : Nat → Int32} {A B : SI} {JA JB : SJ} {R : SR} (ok : OK K mL_law 1000) (sc : Sc K b L xs) (ro : RO R) (rm : RM R) (hk6 : k + 5 < L) (hx0 : H_X11_go (xs (k + 1)) A JA) (hm0 : H_X12_go (xs (k + 1)) B JB) (kk : WL K b cl sl 1381 [(1, .ref 0), (2, .ref 130), (3, .ref 178), (4, .int (nI k))] [] (mI (FI_X11_go (xs (k + 1)) A JA) (FI_X12_go (xs (k + 1)) B JB)) (mJ (FJ_X11_go (xs (k + 1)) A JA) (FJ_X12_go (xs (k + 1)) B JB)) R 179 g) : WL K b cl sl 729 [(1, .ref 0), (2, .ref 130), (3, .ref 178), (4, .int (nI k))] [] (mI A B) (mJ JA JB) R 179 g := by
  refine q_aload_n ok dL_law_729 0 rfl ?_
  refine q_sc (j := 1) ok sc dL_law_730 dL_law_731 dL_law_733 (by decide) dL_law_734 dL_law_735 3 rfl (by omega) ?_
  refine q_x (As := [.int (xs (k + 1))]) ok dL_law_736 iX11_go (lL_84 rfl) (rcv cls11 (congrArg Prod.fst s_0)) (by decide) (c_X11_go ro (by decide) rfl (xs (k + 1))  hx0) (by decide) rfl (Nat.le_of_ble_eq_true rfl) ?_
  show WL K b cl sl 739 [(1, .ref 0), (2, .ref 130), (3, .ref 178), (4, .int (nI k))] [.int (F_X11_go (xs (k + 1)) A JA)] (mI (FI_X11_go (xs (k + 1)) A JA) B) (mJ (FJ_X11_go (xs (k + 1)) A JA) JB) R 179 g
  refine q_pop ok dL_law_739 rfl ?_
  refine q_aload_n ok dL_law_740 1 rfl ?_
  refine q_sc (j := 1) ok sc dL_law_741 dL_law_742 dL_law_744 (by decide) dL_law_745 dL_law_746 3 rfl (by omega) ?_
  refine q_m (As := [.int (xs (k + 1))]) ok dL_law_747 iX12_go (lL_87 rfl) (rcv cls12 (congrArg Prod.fst s_130)) (by decide) (c_X12_go rm (by decide) rfl (xs (k + 1))  hm0) (by decide) rfl (Nat.le_of_ble_eq_true rfl) ?_
  show WL K b cl sl 750 [(1, .ref 0), (2, .ref 130), (3, .ref 178), (4, .int (nI k))] [.int (F_X12_go (xs (k + 1)) B JB)] (mI (FI_X11_go (xs (k + 1)) A JA) (FI_X12_go (xs (k + 1)) B JB)) (mJ (FJ_X11_go (xs (k + 1)) A JA) (FJ_X12_go (xs (k + 1)) B JB)) R 179 g
  refine q_pop ok dL_law_750 rfl ?_
  refine q_goto (tgt := 1381) ok dL_law_751 (by decide) ?_
  exact kk
set_option maxHeartbeats 2000000 in
set_option maxRecDepth 40000 in
theorem law_c15 {K : KT} {b L k g cl sl : Nat} {xs : Nat → Int32} {A B : SI} {JA JB : SJ} {R : SR} (ok : OK K mL_law 1000) (sc : Sc K b L xs) (ro : RO R) (rm : RM R) (hk6 : k + 5 < L) (hx0 : H_X11_ahead (xs (k + 1)) (xs (k + 2)) A JA) (hm0 : H_X12_ahead (xs (k + 1)) (xs (k + 2)) B JB) (kk : WL K b cl sl 1381 [(1, .ref 0), (2, .ref 130), (3, .ref 178), (4, .int (nI k))] [] (mI (FI_X11_ahead (xs (k + 1)) (xs (k + 2)) A JA) (FI_X12_ahead (xs (k + 1)) (xs (k + 2)) B JB)) (mJ (FJ_X11_ahead (xs (k + 1)) (xs (k + 2)) A JA) (FJ_X12_ahead (xs (k + 1)) (xs (k + 2)) B JB)) R 179 g) : WL K b cl sl 754 [(1, .ref 0), (2, .ref 130), (3, .ref 178), (4, .int (nI k))] [] (mI A B) (mJ JA JB) R 179 g := by
  refine q_aload_n ok dL_law_754 0 rfl ?_
  refine q_sc (j := 1) ok sc dL_law_755 dL_law_756 dL_law_758 (by decide) dL_law_759 dL_law_760 3 rfl (by omega) ?_
  refine q_sc (j := 2) ok sc dL_law_761 dL_law_762 dL_law_764 (by decide) dL_law_765 dL_law_766 3 rfl (by omega) ?_
  refine q_x (As := [.int (xs (k + 1)), .int (xs (k + 2))]) ok dL_law_767 iX11_ahead (lL_88 rfl) (rcv cls11 (congrArg Prod.fst s_0)) (by decide) (c_X11_ahead ro (by decide) rfl (xs (k + 1)) (xs (k + 2))  hx0) (by decide) rfl (Nat.le_of_ble_eq_true rfl) ?_
  show WL K b cl sl 770 [(1, .ref 0), (2, .ref 130), (3, .ref 178), (4, .int (nI k))] [.int (F_X11_ahead (xs (k + 1)) (xs (k + 2)) A JA)] (mI (FI_X11_ahead (xs (k + 1)) (xs (k + 2)) A JA) B) (mJ (FJ_X11_ahead (xs (k + 1)) (xs (k + 2)) A JA) JB) R 179 g
  refine q_pop ok dL_law_770 rfl ?_
  refine q_aload_n ok dL_law_771 1 rfl ?_
  refine q_sc (j := 1) ok sc dL_law_772 dL_law_773 dL_law_775 (by decide) dL_law_776 dL_law_777 3 rfl (by omega) ?_
  refine q_sc (j := 2) ok sc dL_law_778 dL_law_779 dL_law_781 (by decide) dL_law_782 dL_law_783 3 rfl (by omega) ?_
  refine q_m (As := [.int (xs (k + 1)), .int (xs (k + 2))]) ok dL_law_784 iX12_ahead (lL_91 rfl) (rcv cls12 (congrArg Prod.fst s_130)) (by decide) (c_X12_ahead rm (by decide) rfl (xs (k + 1)) (xs (k + 2))  hm0) (by decide) rfl (Nat.le_of_ble_eq_true rfl) ?_
  show WL K b cl sl 787 [(1, .ref 0), (2, .ref 130), (3, .ref 178), (4, .int (nI k))] [.int (F_X12_ahead (xs (k + 1)) (xs (k + 2)) B JB)] (mI (FI_X11_ahead (xs (k + 1)) (xs (k + 2)) A JA) (FI_X12_ahead (xs (k + 1)) (xs (k + 2)) B JB)) (mJ (FJ_X11_ahead (xs (k + 1)) (xs (k + 2)) A JA) (FJ_X12_ahead (xs (k + 1)) (xs (k + 2)) B JB)) R 179 g
  refine q_pop ok dL_law_787 rfl ?_
  refine q_goto (tgt := 1381) ok dL_law_788 (by decide) ?_
  exact kk
set_option maxHeartbeats 2000000 in
set_option maxRecDepth 40000 in
theorem law_c16 {K : KT} {b L k g cl sl : Nat} {xs : Nat → Int32} {A B : SI} {JA JB : SJ} {R : SR} (ok : OK K mL_law 1000) (sc : Sc K b L xs) (ro : RO R) (rm : RM R) (hk6 : k + 5 < L) (hm0 : H_X12_breaks  B JB) (kk : WL K b cl sl 1381 [(1, .ref 0), (2, .ref 130), (3, .ref 178), (4, .int (nI k))] [] (mI A (FI_X12_breaks  B JB)) (mJ JA JB) R 179 g) : WL K b cl sl 791 [(1, .ref 0), (2, .ref 130), (3, .ref 178), (4, .int (nI k))] [] (mI A B) (mJ JA JB) R 179 g := by
  refine q_aload_n ok dL_law_791 0 rfl ?_
  refine q_x (As := []) ok dL_law_792 iX11_breaks (lL_92 rfl) (rcv cls11 (congrArg Prod.fst s_0)) (by decide) (c_X11_breaks ro (by decide) rfl  ) (by decide) rfl (Nat.le_of_ble_eq_true rfl) ?_
  show WL K b cl sl 795 [(1, .ref 0), (2, .ref 130), (3, .ref 178), (4, .int (nI k))] [.int (F_X11_breaks  A JA)] (mI A B) (mJ JA JB) R 179 g
  refine q_pop ok dL_law_795 rfl ?_
  refine q_aload_n ok dL_law_796 1 rfl ?_
  refine q_m (As := []) ok dL_law_797 iX12_breaks (lL_96 rfl) (rcv cls12 (congrArg Prod.fst s_130)) (by decide) (c_X12_breaks rm (by decide) rfl   hm0) (by decide) rfl (Nat.le_of_ble_eq_true rfl) ?_
  show WL K b cl sl 800 [(1, .ref 0), (2, .ref 130), (3, .ref 178), (4, .int (nI k))] [.int (F_X12_breaks  B JB)] (mI A (FI_X12_breaks  B JB)) (mJ JA JB) R 179 g
  refine q_pop ok dL_law_800 rfl ?_
  refine q_goto (tgt := 1381) ok dL_law_801 (by decide) ?_
  exact kk
set_option maxHeartbeats 2000000 in
set_option maxRecDepth 40000 in
theorem law_c17 {K : KT} {b L k g cl sl : Nat} {xs : Nat → Int32} {A B : SI} {JA JB : SJ} {R : SR} (ok : OK K mL_law 1000) (sc : Sc K b L xs) (ro : RO R) (rm : RM R) (hk6 : k + 5 < L) (hx0 : H_X11_agrees  A JA) (hm0 : H_X12_agrees  B JB) (kk : WL K b cl sl 1381 [(1, .ref 0), (2, .ref 130), (3, .ref 178), (4, .int (nI k))] [] (mI (FI_X11_agrees  A JA) (FI_X12_agrees  B JB)) (mJ (FJ_X11_agrees  A JA) (FJ_X12_agrees  B JB)) R 179 g) : WL K b cl sl 804 [(1, .ref 0), (2, .ref 130), (3, .ref 178), (4, .int (nI k))] [] (mI A B) (mJ JA JB) R 179 g := by
  refine q_aload_n ok dL_law_804 0 rfl ?_
  refine q_x (As := []) ok dL_law_805 iX11_agrees (lL_97 rfl) (rcv cls11 (congrArg Prod.fst s_0)) (by decide) (c_X11_agrees ro (by decide) rfl   hx0) (by decide) rfl (Nat.le_of_ble_eq_true rfl) ?_
  show WL K b cl sl 808 [(1, .ref 0), (2, .ref 130), (3, .ref 178), (4, .int (nI k))] [.int (F_X11_agrees  A JA)] (mI (FI_X11_agrees  A JA) B) (mJ (FJ_X11_agrees  A JA) JB) R 179 g
  refine q_pop ok dL_law_808 rfl ?_
  refine q_aload_n ok dL_law_809 1 rfl ?_
  refine q_m (As := []) ok dL_law_810 iX12_agrees (lL_100 rfl) (rcv cls12 (congrArg Prod.fst s_130)) (by decide) (c_X12_agrees rm (by decide) rfl   hm0) (by decide) rfl (Nat.le_of_ble_eq_true rfl) ?_
  show WL K b cl sl 813 [(1, .ref 0), (2, .ref 130), (3, .ref 178), (4, .int (nI k))] [.int (F_X12_agrees  B JB)] (mI (FI_X11_agrees  A JA) (FI_X12_agrees  B JB)) (mJ (FJ_X11_agrees  A JA) (FJ_X12_agrees  B JB)) R 179 g
  refine q_pop ok dL_law_813 rfl ?_
  refine q_goto (tgt := 1381) ok dL_law_814 (by decide) ?_
  exact kk
set_option maxHeartbeats 2000000 in
set_option maxRecDepth 40000 in
theorem law_c18 {K : KT} {b L k g cl sl : Nat} {xs : Nat → Int32} {A B : SI} {JA JB : SJ} {R : SR} (ok : OK K mL_law 1000) (sc : Sc K b L xs) (ro : RO R) (rm : RM R) (hk6 : k + 5 < L) (hx0 : H_X11_least (xs (k + 1)) A JA) (hm0 : H_X12_least (xs (k + 1)) B JB) (kk : WL K b cl sl 1381 [(1, .ref 0), (2, .ref 130), (3, .ref 178), (4, .int (nI k))] [] (mI (FI_X11_least (xs (k + 1)) A JA) (FI_X12_least (xs (k + 1)) B JB)) (mJ (FJ_X11_least (xs (k + 1)) A JA) (FJ_X12_least (xs (k + 1)) B JB)) R 179 g) : WL K b cl sl 817 [(1, .ref 0), (2, .ref 130), (3, .ref 178), (4, .int (nI k))] [] (mI A B) (mJ JA JB) R 179 g := by
  refine q_aload_n ok dL_law_817 0 rfl ?_
  refine q_sc (j := 1) ok sc dL_law_818 dL_law_819 dL_law_821 (by decide) dL_law_822 dL_law_823 3 rfl (by omega) ?_
  refine q_x (As := [.int (xs (k + 1))]) ok dL_law_824 iX11_least (lL_101 rfl) (rcv cls11 (congrArg Prod.fst s_0)) (by decide) (c_X11_least ro (by decide) rfl (xs (k + 1))  hx0) (by decide) rfl (Nat.le_of_ble_eq_true rfl) ?_
  show WL K b cl sl 827 [(1, .ref 0), (2, .ref 130), (3, .ref 178), (4, .int (nI k))] [.int (F_X11_least (xs (k + 1)) A JA)] (mI (FI_X11_least (xs (k + 1)) A JA) B) (mJ (FJ_X11_least (xs (k + 1)) A JA) JB) R 179 g
  refine q_pop ok dL_law_827 rfl ?_
  refine q_aload_n ok dL_law_828 1 rfl ?_
  refine q_sc (j := 1) ok sc dL_law_829 dL_law_830 dL_law_832 (by decide) dL_law_833 dL_law_834 3 rfl (by omega) ?_
  refine q_m (As := [.int (xs (k + 1))]) ok dL_law_835 iX12_least (lL_104 rfl) (rcv cls12 (congrArg Prod.fst s_130)) (by decide) (c_X12_least rm (by decide) rfl (xs (k + 1))  hm0) (by decide) rfl (Nat.le_of_ble_eq_true rfl) ?_
  show WL K b cl sl 838 [(1, .ref 0), (2, .ref 130), (3, .ref 178), (4, .int (nI k))] [.int (F_X12_least (xs (k + 1)) B JB)] (mI (FI_X11_least (xs (k + 1)) A JA) (FI_X12_least (xs (k + 1)) B JB)) (mJ (FJ_X11_least (xs (k + 1)) A JA) (FJ_X12_least (xs (k + 1)) B JB)) R 179 g
  refine q_pop ok dL_law_838 rfl ?_
  refine q_goto (tgt := 1381) ok dL_law_839 (by decide) ?_
  exact kk
set_option maxHeartbeats 2000000 in
set_option maxRecDepth 40000 in
theorem law_c19 {K : KT} {b L k g cl sl : Nat} {xs : Nat → Int32} {A B : SI} {JA JB : SJ} {R : SR} (ok : OK K mL_law 1000) (sc : Sc K b L xs) (ro : RO R) (rm : RM R) (hk6 : k + 5 < L) (hx0 : H_X11_order (xs (k + 1)) A JA) (hm0 : H_X12_order (xs (k + 1)) B JB) (kk : WL K b cl sl 1381 [(1, .ref 0), (2, .ref 130), (3, .ref 178), (4, .int (nI k))] [] (mI (FI_X11_order (xs (k + 1)) A JA) (FI_X12_order (xs (k + 1)) B JB)) (mJ (FJ_X11_order (xs (k + 1)) A JA) (FJ_X12_order (xs (k + 1)) B JB)) R 179 g) : WL K b cl sl 842 [(1, .ref 0), (2, .ref 130), (3, .ref 178), (4, .int (nI k))] [] (mI A B) (mJ JA JB) R 179 g := by
  refine q_aload_n ok dL_law_842 0 rfl ?_
  refine q_sc (j := 1) ok sc dL_law_843 dL_law_844 dL_law_846 (by decide) dL_law_847 dL_law_848 3 rfl (by omega) ?_
  refine q_x (As := [.int (xs (k + 1))]) ok dL_law_849 iX11_order (lL_105 rfl) (rcv cls11 (congrArg Prod.fst s_0)) (by decide) (c_X11_order ro (by decide) rfl (xs (k + 1))  hx0) (by decide) rfl (Nat.le_of_ble_eq_true rfl) ?_
  show WL K b cl sl 852 [(1, .ref 0), (2, .ref 130), (3, .ref 178), (4, .int (nI k))] [.int (F_X11_order (xs (k + 1)) A JA)] (mI (FI_X11_order (xs (k + 1)) A JA) B) (mJ (FJ_X11_order (xs (k + 1)) A JA) JB) R 179 g
  refine q_pop ok dL_law_852 rfl ?_
  refine q_aload_n ok dL_law_853 1 rfl ?_
  refine q_sc (j := 1) ok sc dL_law_854 dL_law_855 dL_law_857 (by decide) dL_law_858 dL_law_859 3 rfl (by omega) ?_
  refine q_m (As := [.int (xs (k + 1))]) ok dL_law_860 iX12_order (lL_108 rfl) (rcv cls12 (congrArg Prod.fst s_130)) (by decide) (c_X12_order rm (by decide) rfl (xs (k + 1))  hm0) (by decide) rfl (Nat.le_of_ble_eq_true rfl) ?_
  show WL K b cl sl 863 [(1, .ref 0), (2, .ref 130), (3, .ref 178), (4, .int (nI k))] [.int (F_X12_order (xs (k + 1)) B JB)] (mI (FI_X11_order (xs (k + 1)) A JA) (FI_X12_order (xs (k + 1)) B JB)) (mJ (FJ_X11_order (xs (k + 1)) A JA) (FJ_X12_order (xs (k + 1)) B JB)) R 179 g
  refine q_pop ok dL_law_863 rfl ?_
  refine q_goto (tgt := 1381) ok dL_law_864 (by decide) ?_
  exact kk
set_option maxHeartbeats 2000000 in
set_option maxRecDepth 40000 in
theorem law_c20 {K : KT} {b L k g cl sl : Nat} {xs : Nat → Int32} {A B : SI} {JA JB : SJ} {R : SR} (ok : OK K mL_law 1000) (sc : Sc K b L xs) (ro : RO R) (rm : RM R) (hk6 : k + 5 < L) (hm0 : H_X12_noted  B JB) (kk : WL K b cl sl 1381 [(1, .ref 0), (2, .ref 130), (3, .ref 178), (4, .int (nI k))] [] (mI A (FI_X12_noted  B JB)) (mJ JA JB) R 179 g) : WL K b cl sl 867 [(1, .ref 0), (2, .ref 130), (3, .ref 178), (4, .int (nI k))] [] (mI A B) (mJ JA JB) R 179 g := by
  refine q_aload_n ok dL_law_867 0 rfl ?_
  refine q_x (As := []) ok dL_law_868 iX11_noted (lL_109 rfl) (rcv cls11 (congrArg Prod.fst s_0)) (by decide) (c_X11_noted ro (by decide) rfl  ) (by decide) rfl (Nat.le_of_ble_eq_true rfl) ?_
  show WL K b cl sl 871 [(1, .ref 0), (2, .ref 130), (3, .ref 178), (4, .int (nI k))] [.int (F_X11_noted  A JA)] (mI A B) (mJ JA JB) R 179 g
  refine q_pop ok dL_law_871 rfl ?_
  refine q_aload_n ok dL_law_872 1 rfl ?_
  refine q_m (As := []) ok dL_law_873 iX12_noted (lL_112 rfl) (rcv cls12 (congrArg Prod.fst s_130)) (by decide) (c_X12_noted rm (by decide) rfl   hm0) (by decide) rfl (Nat.le_of_ble_eq_true rfl) ?_
  show WL K b cl sl 876 [(1, .ref 0), (2, .ref 130), (3, .ref 178), (4, .int (nI k))] [.int (F_X12_noted  B JB)] (mI A (FI_X12_noted  B JB)) (mJ JA JB) R 179 g
  refine q_pop ok dL_law_876 rfl ?_
  refine q_goto (tgt := 1381) ok dL_law_877 (by decide) ?_
  exact kk
set_option maxHeartbeats 2000000 in
set_option maxRecDepth 40000 in
theorem law_c21 {K : KT} {b L k g cl sl : Nat} {xs : Nat → Int32} {A B : SI} {JA JB : SJ} {R : SR} (ok : OK K mL_law 1000) (sc : Sc K b L xs) (ro : RO R) (rm : RM R) (hk6 : k + 5 < L) (hx0 : H_X11_bribe (xs (k + 1)) A JA) (hm0 : H_X12_bribe (xs (k + 1)) B JB) (kk : WL K b cl sl 1381 [(1, .ref 0), (2, .ref 130), (3, .ref 178), (4, .int (nI k))] [] (mI (FI_X11_bribe (xs (k + 1)) A JA) (FI_X12_bribe (xs (k + 1)) B JB)) (mJ (FJ_X11_bribe (xs (k + 1)) A JA) (FJ_X12_bribe (xs (k + 1)) B JB)) R 179 g) : WL K b cl sl 880 [(1, .ref 0), (2, .ref 130), (3, .ref 178), (4, .int (nI k))] [] (mI A B) (mJ JA JB) R 179 g := by
  refine q_aload_n ok dL_law_880 0 rfl ?_
  refine q_sc (j := 1) ok sc dL_law_881 dL_law_882 dL_law_884 (by decide) dL_law_885 dL_law_886 3 rfl (by omega) ?_
  refine q_x (As := [.int (xs (k + 1))]) ok dL_law_887 iX11_bribe (lL_113 rfl) (rcv cls11 (congrArg Prod.fst s_0)) (by decide) (c_X11_bribe ro (by decide) rfl (xs (k + 1))  hx0) (by decide) rfl (Nat.le_of_ble_eq_true rfl) ?_
  show WL K b cl sl 890 [(1, .ref 0), (2, .ref 130), (3, .ref 178), (4, .int (nI k))] [.int (F_X11_bribe (xs (k + 1)) A JA)] (mI (FI_X11_bribe (xs (k + 1)) A JA) B) (mJ (FJ_X11_bribe (xs (k + 1)) A JA) JB) R 179 g
  refine q_pop ok dL_law_890 rfl ?_
  refine q_aload_n ok dL_law_891 1 rfl ?_
  refine q_sc (j := 1) ok sc dL_law_892 dL_law_893 dL_law_895 (by decide) dL_law_896 dL_law_897 3 rfl (by omega) ?_
  refine q_m (As := [.int (xs (k + 1))]) ok dL_law_898 iX12_bribe (lL_116 rfl) (rcv cls12 (congrArg Prod.fst s_130)) (by decide) (c_X12_bribe rm (by decide) rfl (xs (k + 1))  hm0) (by decide) rfl (Nat.le_of_ble_eq_true rfl) ?_
  show WL K b cl sl 901 [(1, .ref 0), (2, .ref 130), (3, .ref 178), (4, .int (nI k))] [.int (F_X12_bribe (xs (k + 1)) B JB)] (mI (FI_X11_bribe (xs (k + 1)) A JA) (FI_X12_bribe (xs (k + 1)) B JB)) (mJ (FJ_X11_bribe (xs (k + 1)) A JA) (FJ_X12_bribe (xs (k + 1)) B JB)) R 179 g
  refine q_pop ok dL_law_901 rfl ?_
  refine q_goto (tgt := 1381) ok dL_law_902 (by decide) ?_
  exact kk
set_option maxHeartbeats 2000000 in
set_option maxRecDepth 40000 in
theorem law_c22 {K : KT} {b L k g cl sl : Nat} {xs : Nat → Int32} {A B : SI} {JA JB : SJ} {R : SR} (ok : OK K mL_law 1000) (sc : Sc K b L xs) (ro : RO R) (rm : RM R) (hk6 : k + 5 < L) (hm0 : H_X12_rests (xs (k + 1)) (xs (k + 2)) B JB) (kk : WL K b cl sl 1381 [(1, .ref 0), (2, .ref 130), (3, .ref 178), (4, .int (nI k))] [] (mI A (FI_X12_rests (xs (k + 1)) (xs (k + 2)) B JB)) (mJ JA JB) R 179 g) : WL K b cl sl 905 [(1, .ref 0), (2, .ref 130), (3, .ref 178), (4, .int (nI k))] [] (mI A B) (mJ JA JB) R 179 g := by
  refine q_aload_n ok dL_law_905 0 rfl ?_
  refine q_sc (j := 1) ok sc dL_law_906 dL_law_907 dL_law_909 (by decide) dL_law_910 dL_law_911 3 rfl (by omega) ?_
  refine q_sc (j := 2) ok sc dL_law_912 dL_law_913 dL_law_915 (by decide) dL_law_916 dL_law_917 3 rfl (by omega) ?_
  refine q_x (As := [.int (xs (k + 1)), .int (xs (k + 2))]) ok dL_law_918 iX11_rests (lL_117 rfl) (rcv cls11 (congrArg Prod.fst s_0)) (by decide) (c_X11_rests ro (by decide) rfl (xs (k + 1)) (xs (k + 2)) ) (by decide) rfl (Nat.le_of_ble_eq_true rfl) ?_
  show WL K b cl sl 921 [(1, .ref 0), (2, .ref 130), (3, .ref 178), (4, .int (nI k))] [.int (F_X11_rests (xs (k + 1)) (xs (k + 2)) A JA)] (mI A B) (mJ JA JB) R 179 g
  refine q_pop ok dL_law_921 rfl ?_
  refine q_aload_n ok dL_law_922 1 rfl ?_
  refine q_sc (j := 1) ok sc dL_law_923 dL_law_924 dL_law_926 (by decide) dL_law_927 dL_law_928 3 rfl (by omega) ?_
  refine q_sc (j := 2) ok sc dL_law_929 dL_law_930 dL_law_932 (by decide) dL_law_933 dL_law_934 3 rfl (by omega) ?_
  refine q_m (As := [.int (xs (k + 1)), .int (xs (k + 2))]) ok dL_law_935 iX12_rests (lL_120 rfl) (rcv cls12 (congrArg Prod.fst s_130)) (by decide) (c_X12_rests rm (by decide) rfl (xs (k + 1)) (xs (k + 2))  hm0) (by decide) rfl (Nat.le_of_ble_eq_true rfl) ?_
  show WL K b cl sl 938 [(1, .ref 0), (2, .ref 130), (3, .ref 178), (4, .int (nI k))] [.int (F_X12_rests (xs (k + 1)) (xs (k + 2)) B JB)] (mI A (FI_X12_rests (xs (k + 1)) (xs (k + 2)) B JB)) (mJ JA JB) R 179 g
  refine q_pop ok dL_law_938 rfl ?_
  refine q_goto (tgt := 1381) ok dL_law_939 (by decide) ?_
  exact kk
set_option maxHeartbeats 2000000 in
set_option maxRecDepth 40000 in
theorem law_c23 {K : KT} {b L k g cl sl : Nat} {xs : Nat → Int32} {A B : SI} {JA JB : SJ} {R : SR} (ok : OK K mL_law 1000) (sc : Sc K b L xs) (ro : RO R) (rm : RM R) (hk6 : k + 5 < L) (hm0 : H_X12_rest (xs (k + 1)) (xs (k + 2)) (xs (k + 3)) B JB) (kk : WL K b cl sl 1381 [(1, .ref 0), (2, .ref 130), (3, .ref 178), (4, .int (nI k))] [] (mI A (FI_X12_rest (xs (k + 1)) (xs (k + 2)) (xs (k + 3)) B JB)) (mJ JA JB) R 179 g) : WL K b cl sl 942 [(1, .ref 0), (2, .ref 130), (3, .ref 178), (4, .int (nI k))] [] (mI A B) (mJ JA JB) R 179 g := by
  refine q_aload_n ok dL_law_942 0 rfl ?_
  refine q_sc (j := 1) ok sc dL_law_943 dL_law_944 dL_law_946 (by decide) dL_law_947 dL_law_948 3 rfl (by omega) ?_
  refine q_sc (j := 2) ok sc dL_law_949 dL_law_950 dL_law_952 (by decide) dL_law_953 dL_law_954 3 rfl (by omega) ?_
  refine q_sc (j := 3) ok sc dL_law_955 dL_law_956 dL_law_958 (by decide) dL_law_959 dL_law_960 3 rfl (by omega) ?_
  refine q_x (As := [.int (xs (k + 1)), .int (xs (k + 2)), .int (xs (k + 3))]) ok dL_law_961 iX11_rest (lL_121 rfl) (rcv cls11 (congrArg Prod.fst s_0)) (by decide) (c_X11_rest ro (by decide) rfl (xs (k + 1)) (xs (k + 2)) (xs (k + 3)) ) (by decide) rfl (Nat.le_of_ble_eq_true rfl) ?_
  show WL K b cl sl 964 [(1, .ref 0), (2, .ref 130), (3, .ref 178), (4, .int (nI k))] [.int (F_X11_rest (xs (k + 1)) (xs (k + 2)) (xs (k + 3)) A JA)] (mI A B) (mJ JA JB) R 179 g
  refine q_pop ok dL_law_964 rfl ?_
  refine q_aload_n ok dL_law_965 1 rfl ?_
  refine q_sc (j := 1) ok sc dL_law_966 dL_law_967 dL_law_969 (by decide) dL_law_970 dL_law_971 3 rfl (by omega) ?_
  refine q_sc (j := 2) ok sc dL_law_972 dL_law_973 dL_law_975 (by decide) dL_law_976 dL_law_977 3 rfl (by omega) ?_
  refine q_sc (j := 3) ok sc dL_law_978 dL_law_979 dL_law_981 (by decide) dL_law_982 dL_law_983 3 rfl (by omega) ?_
  refine q_m (As := [.int (xs (k + 1)), .int (xs (k + 2)), .int (xs (k + 3))]) ok dL_law_984 iX12_rest (lL_125 rfl) (rcv cls12 (congrArg Prod.fst s_130)) (by decide) (c_X12_rest rm (by decide) rfl (xs (k + 1)) (xs (k + 2)) (xs (k + 3))  hm0) (by decide) rfl (Nat.le_of_ble_eq_true rfl) ?_
  show WL K b cl sl 987 [(1, .ref 0), (2, .ref 130), (3, .ref 178), (4, .int (nI k))] [.int (F_X12_rest (xs (k + 1)) (xs (k + 2)) (xs (k + 3)) B JB)] (mI A (FI_X12_rest (xs (k + 1)) (xs (k + 2)) (xs (k + 3)) B JB)) (mJ JA JB) R 179 g
  refine q_pop ok dL_law_987 rfl ?_
  refine q_goto (tgt := 1381) ok dL_law_988 (by decide) ?_
  exact kk
set_option maxHeartbeats 2000000 in
set_option maxRecDepth 40000 in
theorem law_c24 {K : KT} {b L k g cl sl : Nat} {xs : Nat → Int32} {A B : SI} {JA JB : SJ} {R : SR} (ok : OK K mL_law 1000) (sc : Sc K b L xs) (ro : RO R) (rm : RM R) (hk6 : k + 5 < L) (hx0 : H_X11_there (xs (k + 1)) (xs (k + 2)) A JA) (hm0 : H_X12_there (xs (k + 1)) (xs (k + 2)) B JB) (kk : WL K b cl sl 1381 [(1, .ref 0), (2, .ref 130), (3, .ref 178), (4, .int (nI k))] [] (mI A (FI_X12_there (xs (k + 1)) (xs (k + 2)) B JB)) (mJ JA JB) R 179 g) : WL K b cl sl 991 [(1, .ref 0), (2, .ref 130), (3, .ref 178), (4, .int (nI k))] [] (mI A B) (mJ JA JB) R 179 g := by
  refine q_aload_n ok dL_law_991 0 rfl ?_
  refine q_sc (j := 1) ok sc dL_law_992 dL_law_993 dL_law_995 (by decide) dL_law_996 dL_law_997 3 rfl (by omega) ?_
  refine q_sc (j := 2) ok sc dL_law_998 dL_law_999 dL_law_1001 (by decide) dL_law_1002 dL_law_1003 3 rfl (by omega) ?_
  refine q_x (As := [.int (xs (k + 1)), .int (xs (k + 2))]) ok dL_law_1004 iX11_there (lL_126 rfl) (rcv cls11 (congrArg Prod.fst s_0)) (by decide) (c_X11_there ro (by decide) rfl (xs (k + 1)) (xs (k + 2))  hx0) (by decide) rfl (Nat.le_of_ble_eq_true rfl) ?_
  show WL K b cl sl 1007 [(1, .ref 0), (2, .ref 130), (3, .ref 178), (4, .int (nI k))] [.long (F_X11_there (xs (k + 1)) (xs (k + 2)) A JA)] (mI A B) (mJ JA JB) R 179 g
  refine q_pop2 ok dL_law_1007 rfl ?_
  refine q_aload_n ok dL_law_1008 1 rfl ?_
  refine q_sc (j := 1) ok sc dL_law_1009 dL_law_1010 dL_law_1012 (by decide) dL_law_1013 dL_law_1014 3 rfl (by omega) ?_
  refine q_sc (j := 2) ok sc dL_law_1015 dL_law_1016 dL_law_1018 (by decide) dL_law_1019 dL_law_1020 3 rfl (by omega) ?_
  refine q_m (As := [.int (xs (k + 1)), .int (xs (k + 2))]) ok dL_law_1021 iX12_there (lL_130 rfl) (rcv cls12 (congrArg Prod.fst s_130)) (by decide) (c_X12_there rm (by decide) rfl (xs (k + 1)) (xs (k + 2))  hm0) (by decide) rfl (Nat.le_of_ble_eq_true rfl) ?_
  show WL K b cl sl 1024 [(1, .ref 0), (2, .ref 130), (3, .ref 178), (4, .int (nI k))] [.long (F_X12_there (xs (k + 1)) (xs (k + 2)) B JB)] (mI A (FI_X12_there (xs (k + 1)) (xs (k + 2)) B JB)) (mJ JA JB) R 179 g
  refine q_pop2 ok dL_law_1024 rfl ?_
  refine q_goto (tgt := 1381) ok dL_law_1025 (by decide) ?_
  exact kk
set_option maxHeartbeats 2000000 in
set_option maxRecDepth 40000 in
theorem law_c25 {K : KT} {b L k g cl sl : Nat} {xs : Nat → Int32} {A B : SI} {JA JB : SJ} {R : SR} (ok : OK K mL_law 1000) (sc : Sc K b L xs) (ro : RO R) (rm : RM R) (hk6 : k + 5 < L) (hx0 : H_X11_without (xs (k + 1)) A JA) (hm0 : H_X12_without (xs (k + 1)) B JB) (kk : WL K b cl sl 1381 [(1, .ref 0), (2, .ref 130), (3, .ref 178), (4, .int (nI k))] [] (mI (FI_X11_without (xs (k + 1)) A JA) (FI_X12_without (xs (k + 1)) B JB)) (mJ (FJ_X11_without (xs (k + 1)) A JA) (FJ_X12_without (xs (k + 1)) B JB)) R 179 g) : WL K b cl sl 1028 [(1, .ref 0), (2, .ref 130), (3, .ref 178), (4, .int (nI k))] [] (mI A B) (mJ JA JB) R 179 g := by
  refine q_aload_n ok dL_law_1028 0 rfl ?_
  refine q_sc (j := 1) ok sc dL_law_1029 dL_law_1030 dL_law_1032 (by decide) dL_law_1033 dL_law_1034 3 rfl (by omega) ?_
  refine q_x (As := [.int (xs (k + 1))]) ok dL_law_1035 iX11_without (lL_131 rfl) (rcv cls11 (congrArg Prod.fst s_0)) (by decide) (c_X11_without ro (by decide) rfl (xs (k + 1))  hx0) (by decide) rfl (Nat.le_of_ble_eq_true rfl) ?_
  show WL K b cl sl 1038 [(1, .ref 0), (2, .ref 130), (3, .ref 178), (4, .int (nI k))] [.int (F_X11_without (xs (k + 1)) A JA)] (mI (FI_X11_without (xs (k + 1)) A JA) B) (mJ (FJ_X11_without (xs (k + 1)) A JA) JB) R 179 g
  refine q_pop ok dL_law_1038 rfl ?_
  refine q_aload_n ok dL_law_1039 1 rfl ?_
  refine q_sc (j := 1) ok sc dL_law_1040 dL_law_1041 dL_law_1043 (by decide) dL_law_1044 dL_law_1045 3 rfl (by omega) ?_
  refine q_m (As := [.int (xs (k + 1))]) ok dL_law_1046 iX12_without (lL_134 rfl) (rcv cls12 (congrArg Prod.fst s_130)) (by decide) (c_X12_without rm (by decide) rfl (xs (k + 1))  hm0) (by decide) rfl (Nat.le_of_ble_eq_true rfl) ?_
  show WL K b cl sl 1049 [(1, .ref 0), (2, .ref 130), (3, .ref 178), (4, .int (nI k))] [.int (F_X12_without (xs (k + 1)) B JB)] (mI (FI_X11_without (xs (k + 1)) A JA) (FI_X12_without (xs (k + 1)) B JB)) (mJ (FJ_X11_without (xs (k + 1)) A JA) (FJ_X12_without (xs (k + 1)) B JB)) R 179 g
  refine q_pop ok dL_law_1049 rfl ?_
  refine q_goto (tgt := 1381) ok dL_law_1050 (by decide) ?_
  exact kk
set_option maxHeartbeats 2000000 in
set_option maxRecDepth 40000 in
theorem law_c26 {K : KT} {b L k g cl sl : Nat} {xs : Nat → Int32} {A B : SI} {JA JB : SJ} {R : SR} (ok : OK K mL_law 1000) (sc : Sc K b L xs) (ro : RO R) (rm : RM R) (hk6 : k + 5 < L) (hm0 : H_X12_run  B JB) (kk : WL K b cl sl 1381 [(1, .ref 0), (2, .ref 130), (3, .ref 178), (4, .int (nI k))] [] (mI A (FI_X12_run  B JB)) (mJ JA JB) R 179 g) : WL K b cl sl 1053 [(1, .ref 0), (2, .ref 130), (3, .ref 178), (4, .int (nI k))] [] (mI A B) (mJ JA JB) R 179 g := by
  refine q_aload_n ok dL_law_1053 0 rfl ?_
  refine q_x (As := []) ok dL_law_1054 iX11_run (lL_135 rfl) (rcv cls11 (congrArg Prod.fst s_0)) (by decide) (c_X11_run ro (by decide) rfl  ) (by decide) rfl (Nat.le_of_ble_eq_true rfl) ?_
  show WL K b cl sl 1057 [(1, .ref 0), (2, .ref 130), (3, .ref 178), (4, .int (nI k))] [.int (F_X11_run  A JA)] (mI A B) (mJ JA JB) R 179 g
  refine q_pop ok dL_law_1057 rfl ?_
  refine q_aload_n ok dL_law_1058 1 rfl ?_
  refine q_m (As := []) ok dL_law_1059 iX12_run (lL_138 rfl) (rcv cls12 (congrArg Prod.fst s_130)) (by decide) (c_X12_run rm (by decide) rfl   hm0) (by decide) rfl (Nat.le_of_ble_eq_true rfl) ?_
  show WL K b cl sl 1062 [(1, .ref 0), (2, .ref 130), (3, .ref 178), (4, .int (nI k))] [.int (F_X12_run  B JB)] (mI A (FI_X12_run  B JB)) (mJ JA JB) R 179 g
  refine q_pop ok dL_law_1062 rfl ?_
  refine q_goto (tgt := 1381) ok dL_law_1063 (by decide) ?_
  exact kk
set_option maxHeartbeats 2000000 in
set_option maxRecDepth 40000 in
theorem law_c27 {K : KT} {b L k g cl sl : Nat} {xs : Nat → Int32} {A B : SI} {JA JB : SJ} {R : SR} (ok : OK K mL_law 1000) (sc : Sc K b L xs) (ro : RO R) (rm : RM R) (hk6 : k + 5 < L) (hm0 : H_X12_believed  B JB) (kk : WL K b cl sl 1381 [(1, .ref 0), (2, .ref 130), (3, .ref 178), (4, .int (nI k))] [] (mI A (FI_X12_believed  B JB)) (mJ JA JB) R 179 g) : WL K b cl sl 1066 [(1, .ref 0), (2, .ref 130), (3, .ref 178), (4, .int (nI k))] [] (mI A B) (mJ JA JB) R 179 g := by
  refine q_aload_n ok dL_law_1066 0 rfl ?_
  refine q_x (As := []) ok dL_law_1067 iX11_believed (lL_139 rfl) (rcv cls11 (congrArg Prod.fst s_0)) (by decide) (c_X11_believed ro (by decide) rfl  ) (by decide) rfl (Nat.le_of_ble_eq_true rfl) ?_
  show WL K b cl sl 1070 [(1, .ref 0), (2, .ref 130), (3, .ref 178), (4, .int (nI k))] [.int (F_X11_believed  A JA)] (mI A B) (mJ JA JB) R 179 g
  refine q_pop ok dL_law_1070 rfl ?_
  refine q_aload_n ok dL_law_1071 1 rfl ?_
  refine q_m (As := []) ok dL_law_1072 iX12_believed (lL_142 rfl) (rcv cls12 (congrArg Prod.fst s_130)) (by decide) (c_X12_believed rm (by decide) rfl   hm0) (by decide) rfl (Nat.le_of_ble_eq_true rfl) ?_
  show WL K b cl sl 1075 [(1, .ref 0), (2, .ref 130), (3, .ref 178), (4, .int (nI k))] [.int (F_X12_believed  B JB)] (mI A (FI_X12_believed  B JB)) (mJ JA JB) R 179 g
  refine q_pop ok dL_law_1075 rfl ?_
  refine q_goto (tgt := 1381) ok dL_law_1076 (by decide) ?_
  exact kk
set_option maxHeartbeats 2000000 in
set_option maxRecDepth 40000 in
theorem law_c28 {K : KT} {b L k g cl sl : Nat} {xs : Nat → Int32} {A B : SI} {JA JB : SJ} {R : SR} (ok : OK K mL_law 1000) (sc : Sc K b L xs) (ro : RO R) (rm : RM R) (hk6 : k + 5 < L) (hm0 : H_X12_see (xs (k + 1)) (xs (k + 2)) (bz (xs (k + 3))) B JB) (kk : WL K b cl sl 1381 [(1, .ref 0), (2, .ref 130), (3, .ref 178), (4, .int (nI k))] [] (mI (FI_X11_see (xs (k + 1)) (xs (k + 2)) (bz (xs (k + 3))) A JA) (FI_X12_see (xs (k + 1)) (xs (k + 2)) (bz (xs (k + 3))) B JB)) (mJ JA JB) R 179 g) : WL K b cl sl 1079 [(1, .ref 0), (2, .ref 130), (3, .ref 178), (4, .int (nI k))] [] (mI A B) (mJ JA JB) R 179 g := by
  refine q_aload_n ok dL_law_1079 0 rfl ?_
  refine q_sc (j := 1) ok sc dL_law_1080 dL_law_1081 dL_law_1083 (by decide) dL_law_1084 dL_law_1085 3 rfl (by omega) ?_
  refine q_sc (j := 2) ok sc dL_law_1086 dL_law_1087 dL_law_1089 (by decide) dL_law_1090 dL_law_1091 3 rfl (by omega) ?_
  refine q_sc (j := 3) ok sc dL_law_1092 dL_law_1093 dL_law_1095 (by decide) dL_law_1096 dL_law_1097 3 rfl (by omega) ?_
  refine q_bz (pc' := 0) ok dL_law_1098 dL_law_1101 dL_law_1102 dL_law_1105 (by decide) (by decide) ?_
  refine q_x (As := [.int (xs (k + 1)), .int (xs (k + 2)), .int (bz (xs (k + 3)))]) ok dL_law_1106 iX11_see (lL_143 rfl) (rcv cls11 (congrArg Prod.fst s_0)) (by decide) (c_X11_see ro (by decide) rfl (xs (k + 1)) (xs (k + 2)) (bz (xs (k + 3))) ) (by decide) rfl (Nat.le_of_ble_eq_true rfl) ?_
  show WL K b cl sl 1109 [(1, .ref 0), (2, .ref 130), (3, .ref 178), (4, .int (nI k))] [.int (F_X11_see (xs (k + 1)) (xs (k + 2)) (bz (xs (k + 3))) A JA)] (mI (FI_X11_see (xs (k + 1)) (xs (k + 2)) (bz (xs (k + 3))) A JA) B) (mJ JA JB) R 179 g
  refine q_pop ok dL_law_1109 rfl ?_
  refine q_aload_n ok dL_law_1110 1 rfl ?_
  refine q_sc (j := 1) ok sc dL_law_1111 dL_law_1112 dL_law_1114 (by decide) dL_law_1115 dL_law_1116 3 rfl (by omega) ?_
  refine q_sc (j := 2) ok sc dL_law_1117 dL_law_1118 dL_law_1120 (by decide) dL_law_1121 dL_law_1122 3 rfl (by omega) ?_
  refine q_sc (j := 3) ok sc dL_law_1123 dL_law_1124 dL_law_1126 (by decide) dL_law_1127 dL_law_1128 3 rfl (by omega) ?_
  refine q_bz (pc' := 0) ok dL_law_1129 dL_law_1132 dL_law_1133 dL_law_1136 (by decide) (by decide) ?_
  refine q_m (As := [.int (xs (k + 1)), .int (xs (k + 2)), .int (bz (xs (k + 3)))]) ok dL_law_1137 iX12_see (lL_147 rfl) (rcv cls12 (congrArg Prod.fst s_130)) (by decide) (c_X12_see rm (by decide) rfl (xs (k + 1)) (xs (k + 2)) (bz (xs (k + 3)))  hm0) (by decide) rfl (Nat.le_of_ble_eq_true rfl) ?_
  show WL K b cl sl 1140 [(1, .ref 0), (2, .ref 130), (3, .ref 178), (4, .int (nI k))] [.int (F_X12_see (xs (k + 1)) (xs (k + 2)) (bz (xs (k + 3))) B JB)] (mI (FI_X11_see (xs (k + 1)) (xs (k + 2)) (bz (xs (k + 3))) A JA) (FI_X12_see (xs (k + 1)) (xs (k + 2)) (bz (xs (k + 3))) B JB)) (mJ JA JB) R 179 g
  refine q_pop ok dL_law_1140 rfl ?_
  refine q_goto (tgt := 1381) ok dL_law_1141 (by decide) ?_
  exact kk
set_option maxHeartbeats 2000000 in
set_option maxRecDepth 40000 in
theorem law_c29 {K : KT} {b L k g cl sl : Nat} {xs : Nat → Int32} {A B : SI} {JA JB : SJ} {R : SR} (ok : OK K mL_law 1000) (sc : Sc K b L xs) (ro : RO R) (rm : RM R) (hk6 : k + 5 < L) (hm0 : H_X12_out (xs (k + 1)) B JB) (kk : WL K b cl sl 1381 [(1, .ref 0), (2, .ref 130), (3, .ref 178), (4, .int (nI k))] [] (mI (FI_X11_out (xs (k + 1)) A JA) (FI_X12_out (xs (k + 1)) B JB)) (mJ JA JB) R 179 g) : WL K b cl sl 1144 [(1, .ref 0), (2, .ref 130), (3, .ref 178), (4, .int (nI k))] [] (mI A B) (mJ JA JB) R 179 g := by
  refine q_aload_n ok dL_law_1144 0 rfl ?_
  refine q_sc (j := 1) ok sc dL_law_1145 dL_law_1146 dL_law_1148 (by decide) dL_law_1149 dL_law_1150 3 rfl (by omega) ?_
  refine q_x (As := [.int (xs (k + 1))]) ok dL_law_1151 iX11_out (lL_148 rfl) (rcv cls11 (congrArg Prod.fst s_0)) (by decide) (c_X11_out ro (by decide) rfl (xs (k + 1)) ) (by decide) rfl (Nat.le_of_ble_eq_true rfl) ?_
  show WL K b cl sl 1154 [(1, .ref 0), (2, .ref 130), (3, .ref 178), (4, .int (nI k))] [.int (F_X11_out (xs (k + 1)) A JA)] (mI (FI_X11_out (xs (k + 1)) A JA) B) (mJ JA JB) R 179 g
  refine q_pop ok dL_law_1154 rfl ?_
  refine q_aload_n ok dL_law_1155 1 rfl ?_
  refine q_sc (j := 1) ok sc dL_law_1156 dL_law_1157 dL_law_1159 (by decide) dL_law_1160 dL_law_1161 3 rfl (by omega) ?_
  refine q_m (As := [.int (xs (k + 1))]) ok dL_law_1162 iX12_out (lL_151 rfl) (rcv cls12 (congrArg Prod.fst s_130)) (by decide) (c_X12_out rm (by decide) rfl (xs (k + 1))  hm0) (by decide) rfl (Nat.le_of_ble_eq_true rfl) ?_
  show WL K b cl sl 1165 [(1, .ref 0), (2, .ref 130), (3, .ref 178), (4, .int (nI k))] [.int (F_X12_out (xs (k + 1)) B JB)] (mI (FI_X11_out (xs (k + 1)) A JA) (FI_X12_out (xs (k + 1)) B JB)) (mJ JA JB) R 179 g
  refine q_pop ok dL_law_1165 rfl ?_
  refine q_goto (tgt := 1381) ok dL_law_1166 (by decide) ?_
  exact kk
set_option maxHeartbeats 2000000 in
set_option maxRecDepth 40000 in
theorem law_c30 {K : KT} {b L k g cl sl : Nat} {xs : Nat → Int32} {A B : SI} {JA JB : SJ} {R : SR} (ok : OK K mL_law 1000) (sc : Sc K b L xs) (ro : RO R) (rm : RM R) (hk6 : k + 5 < L)  (kk : WL K b cl sl 1381 [(1, .ref 0), (2, .ref 130), (3, .ref 178), (4, .int (nI k))] [] (mI (FI_X11_known (xs (k + 1)) A JA) (FI_X12_known (xs (k + 1)) B JB)) (mJ JA JB) R 179 g) : WL K b cl sl 1169 [(1, .ref 0), (2, .ref 130), (3, .ref 178), (4, .int (nI k))] [] (mI A B) (mJ JA JB) R 179 g := by
  refine q_aload_n ok dL_law_1169 0 rfl ?_
  refine q_sc (j := 1) ok sc dL_law_1170 dL_law_1171 dL_law_1173 (by decide) dL_law_1174 dL_law_1175 3 rfl (by omega) ?_
  refine q_x (As := [.int (xs (k + 1))]) ok dL_law_1176 iX11_known (lL_152 rfl) (rcv cls11 (congrArg Prod.fst s_0)) (by decide) (c_X11_known ro (by decide) rfl (xs (k + 1)) ) (by decide) rfl (Nat.le_of_ble_eq_true rfl) ?_
  show WL K b cl sl 1179 [(1, .ref 0), (2, .ref 130), (3, .ref 178), (4, .int (nI k))] [.int (F_X11_known (xs (k + 1)) A JA)] (mI (FI_X11_known (xs (k + 1)) A JA) B) (mJ JA JB) R 179 g
  refine q_pop ok dL_law_1179 rfl ?_
  refine q_aload_n ok dL_law_1180 1 rfl ?_
  refine q_sc (j := 1) ok sc dL_law_1181 dL_law_1182 dL_law_1184 (by decide) dL_law_1185 dL_law_1186 3 rfl (by omega) ?_
  refine q_m (As := [.int (xs (k + 1))]) ok dL_law_1187 iX12_known (lL_155 rfl) (rcv cls12 (congrArg Prod.fst s_130)) (by decide) (c_X12_known rm (by decide) rfl (xs (k + 1)) ) (by decide) rfl (Nat.le_of_ble_eq_true rfl) ?_
  show WL K b cl sl 1190 [(1, .ref 0), (2, .ref 130), (3, .ref 178), (4, .int (nI k))] [.int (F_X12_known (xs (k + 1)) B JB)] (mI (FI_X11_known (xs (k + 1)) A JA) (FI_X12_known (xs (k + 1)) B JB)) (mJ JA JB) R 179 g
  refine q_pop ok dL_law_1190 rfl ?_
  refine q_goto (tgt := 1381) ok dL_law_1191 (by decide) ?_
  exact kk
set_option maxHeartbeats 2000000 in
set_option maxRecDepth 40000 in
theorem law_c31 {K : KT} {b L k g cl sl : Nat} {xs : Nat → Int32} {A B : SI} {JA JB : SJ} {R : SR} (ok : OK K mL_law 1000) (sc : Sc K b L xs) (ro : RO R) (rm : RM R) (hk6 : k + 5 < L) (hx0 : H_X11_struckHow (xs (k + 1)) A JA) (hm0 : H_X12_struckHow (xs (k + 1)) B JB) (kk : WL K b cl sl 1381 [(1, .ref 0), (2, .ref 130), (3, .ref 178), (4, .int (nI k))] [] (mI (FI_X11_struckHow (xs (k + 1)) A JA) (FI_X12_struckHow (xs (k + 1)) B JB)) (mJ (FJ_X11_struckHow (xs (k + 1)) A JA) (FJ_X12_struckHow (xs (k + 1)) B JB)) R 179 g) : WL K b cl sl 1194 [(1, .ref 0), (2, .ref 130), (3, .ref 178), (4, .int (nI k))] [] (mI A B) (mJ JA JB) R 179 g := by
  refine q_aload_n ok dL_law_1194 0 rfl ?_
  refine q_sc (j := 1) ok sc dL_law_1195 dL_law_1196 dL_law_1198 (by decide) dL_law_1199 dL_law_1200 3 rfl (by omega) ?_
  refine q_x (As := [.int (xs (k + 1))]) ok dL_law_1201 iX11_struckHow (lL_156 rfl) (rcv cls11 (congrArg Prod.fst s_0)) (by decide) (c_X11_struckHow ro (by decide) rfl (xs (k + 1))  hx0) (by decide) rfl (Nat.le_of_ble_eq_true rfl) ?_
  show WL K b cl sl 1204 [(1, .ref 0), (2, .ref 130), (3, .ref 178), (4, .int (nI k))] [.int (F_X11_struckHow (xs (k + 1)) A JA)] (mI (FI_X11_struckHow (xs (k + 1)) A JA) B) (mJ (FJ_X11_struckHow (xs (k + 1)) A JA) JB) R 179 g
  refine q_pop ok dL_law_1204 rfl ?_
  refine q_aload_n ok dL_law_1205 1 rfl ?_
  refine q_sc (j := 1) ok sc dL_law_1206 dL_law_1207 dL_law_1209 (by decide) dL_law_1210 dL_law_1211 3 rfl (by omega) ?_
  refine q_m (As := [.int (xs (k + 1))]) ok dL_law_1212 iX12_struckHow (lL_159 rfl) (rcv cls12 (congrArg Prod.fst s_130)) (by decide) (c_X12_struckHow rm (by decide) rfl (xs (k + 1))  hm0) (by decide) rfl (Nat.le_of_ble_eq_true rfl) ?_
  show WL K b cl sl 1215 [(1, .ref 0), (2, .ref 130), (3, .ref 178), (4, .int (nI k))] [.int (F_X12_struckHow (xs (k + 1)) B JB)] (mI (FI_X11_struckHow (xs (k + 1)) A JA) (FI_X12_struckHow (xs (k + 1)) B JB)) (mJ (FJ_X11_struckHow (xs (k + 1)) A JA) (FJ_X12_struckHow (xs (k + 1)) B JB)) R 179 g
  refine q_pop ok dL_law_1215 rfl ?_
  refine q_goto (tgt := 1381) ok dL_law_1216 (by decide) ?_
  exact kk
set_option maxHeartbeats 2000000 in
set_option maxRecDepth 40000 in
theorem law_c32 {K : KT} {b L k g cl sl : Nat} {xs : Nat → Int32} {A B : SI} {JA JB : SJ} {R : SR} (ok : OK K mL_law 1000) (sc : Sc K b L xs) (ro : RO R) (rm : RM R) (hk6 : k + 5 < L) (hx0 : H_X11_chance (xs (k + 1)) (xs (k + 2)) (xs (k + 3)) A JA) (hm0 : H_X12_chance (xs (k + 1)) (xs (k + 2)) (xs (k + 3)) B JB) (kk : WL K b cl sl 1381 [(1, .ref 0), (2, .ref 130), (3, .ref 178), (4, .int (nI k))] [] (mI (FI_X11_chance (xs (k + 1)) (xs (k + 2)) (xs (k + 3)) A JA) (FI_X12_chance (xs (k + 1)) (xs (k + 2)) (xs (k + 3)) B JB)) (mJ (FJ_X11_chance (xs (k + 1)) (xs (k + 2)) (xs (k + 3)) A JA) (FJ_X12_chance (xs (k + 1)) (xs (k + 2)) (xs (k + 3)) B JB)) R 179 g) : WL K b cl sl 1219 [(1, .ref 0), (2, .ref 130), (3, .ref 178), (4, .int (nI k))] [] (mI A B) (mJ JA JB) R 179 g := by
  refine q_aload_n ok dL_law_1219 0 rfl ?_
  refine q_sc (j := 1) ok sc dL_law_1220 dL_law_1221 dL_law_1223 (by decide) dL_law_1224 dL_law_1225 3 rfl (by omega) ?_
  refine q_sc (j := 2) ok sc dL_law_1226 dL_law_1227 dL_law_1229 (by decide) dL_law_1230 dL_law_1231 3 rfl (by omega) ?_
  refine q_sc (j := 3) ok sc dL_law_1232 dL_law_1233 dL_law_1235 (by decide) dL_law_1236 dL_law_1237 3 rfl (by omega) ?_
  refine q_x (As := [.int (xs (k + 1)), .int (xs (k + 2)), .int (xs (k + 3))]) ok dL_law_1238 iX11_chance (lL_160 rfl) (rcv cls11 (congrArg Prod.fst s_0)) (by decide) (c_X11_chance ro (by decide) rfl (xs (k + 1)) (xs (k + 2)) (xs (k + 3))  hx0) (by decide) rfl (Nat.le_of_ble_eq_true rfl) ?_
  show WL K b cl sl 1241 [(1, .ref 0), (2, .ref 130), (3, .ref 178), (4, .int (nI k))] [.int (F_X11_chance (xs (k + 1)) (xs (k + 2)) (xs (k + 3)) A JA)] (mI (FI_X11_chance (xs (k + 1)) (xs (k + 2)) (xs (k + 3)) A JA) B) (mJ (FJ_X11_chance (xs (k + 1)) (xs (k + 2)) (xs (k + 3)) A JA) JB) R 179 g
  refine q_pop ok dL_law_1241 rfl ?_
  refine q_aload_n ok dL_law_1242 1 rfl ?_
  refine q_sc (j := 1) ok sc dL_law_1243 dL_law_1244 dL_law_1246 (by decide) dL_law_1247 dL_law_1248 3 rfl (by omega) ?_
  refine q_sc (j := 2) ok sc dL_law_1249 dL_law_1250 dL_law_1252 (by decide) dL_law_1253 dL_law_1254 3 rfl (by omega) ?_
  refine q_sc (j := 3) ok sc dL_law_1255 dL_law_1256 dL_law_1258 (by decide) dL_law_1259 dL_law_1260 3 rfl (by omega) ?_
  refine q_m (As := [.int (xs (k + 1)), .int (xs (k + 2)), .int (xs (k + 3))]) ok dL_law_1261 iX12_chance (lL_163 rfl) (rcv cls12 (congrArg Prod.fst s_130)) (by decide) (c_X12_chance rm (by decide) rfl (xs (k + 1)) (xs (k + 2)) (xs (k + 3))  hm0) (by decide) rfl (Nat.le_of_ble_eq_true rfl) ?_
  show WL K b cl sl 1264 [(1, .ref 0), (2, .ref 130), (3, .ref 178), (4, .int (nI k))] [.int (F_X12_chance (xs (k + 1)) (xs (k + 2)) (xs (k + 3)) B JB)] (mI (FI_X11_chance (xs (k + 1)) (xs (k + 2)) (xs (k + 3)) A JA) (FI_X12_chance (xs (k + 1)) (xs (k + 2)) (xs (k + 3)) B JB)) (mJ (FJ_X11_chance (xs (k + 1)) (xs (k + 2)) (xs (k + 3)) A JA) (FJ_X12_chance (xs (k + 1)) (xs (k + 2)) (xs (k + 3)) B JB)) R 179 g
  refine q_pop ok dL_law_1264 rfl ?_
  refine q_goto (tgt := 1381) ok dL_law_1265 (by decide) ?_
  exact kk
set_option maxHeartbeats 2000000 in
set_option maxRecDepth 40000 in
theorem law_c33 {K : KT} {b L k g cl sl : Nat} {xs : Nat → Int32} {A B : SI} {JA JB : SJ} {R : SR} (ok : OK K mL_law 1000) (sc : Sc K b L xs) (ro : RO R) (rm : RM R) (hk6 : k + 5 < L) (hx0 : H_X11_tried (xs (k + 1)) (xs (k + 2)) (xs (k + 3)) A JA) (hm0 : H_X12_tried (xs (k + 1)) (xs (k + 2)) (xs (k + 3)) B JB) (kk : WL K b cl sl 1381 [(1, .ref 0), (2, .ref 130), (3, .ref 178), (4, .int (nI k))] [] (mI (FI_X11_tried (xs (k + 1)) (xs (k + 2)) (xs (k + 3)) A JA) (FI_X12_tried (xs (k + 1)) (xs (k + 2)) (xs (k + 3)) B JB)) (mJ (FJ_X11_tried (xs (k + 1)) (xs (k + 2)) (xs (k + 3)) A JA) (FJ_X12_tried (xs (k + 1)) (xs (k + 2)) (xs (k + 3)) B JB)) R 179 g) : WL K b cl sl 1268 [(1, .ref 0), (2, .ref 130), (3, .ref 178), (4, .int (nI k))] [] (mI A B) (mJ JA JB) R 179 g := by
  refine q_aload_n ok dL_law_1268 0 rfl ?_
  refine q_sc (j := 1) ok sc dL_law_1269 dL_law_1270 dL_law_1272 (by decide) dL_law_1273 dL_law_1274 3 rfl (by omega) ?_
  refine q_sc (j := 2) ok sc dL_law_1275 dL_law_1276 dL_law_1278 (by decide) dL_law_1279 dL_law_1280 3 rfl (by omega) ?_
  refine q_sc (j := 3) ok sc dL_law_1281 dL_law_1282 dL_law_1284 (by decide) dL_law_1285 dL_law_1286 3 rfl (by omega) ?_
  refine q_x (As := [.int (xs (k + 1)), .int (xs (k + 2)), .int (xs (k + 3))]) ok dL_law_1287 iX11_tried (lL_164 rfl) (rcv cls11 (congrArg Prod.fst s_0)) (by decide) (c_X11_tried ro (by decide) rfl (xs (k + 1)) (xs (k + 2)) (xs (k + 3))  hx0) (by decide) rfl (Nat.le_of_ble_eq_true rfl) ?_
  show WL K b cl sl 1290 [(1, .ref 0), (2, .ref 130), (3, .ref 178), (4, .int (nI k))] [.int (F_X11_tried (xs (k + 1)) (xs (k + 2)) (xs (k + 3)) A JA)] (mI (FI_X11_tried (xs (k + 1)) (xs (k + 2)) (xs (k + 3)) A JA) B) (mJ (FJ_X11_tried (xs (k + 1)) (xs (k + 2)) (xs (k + 3)) A JA) JB) R 179 g
  refine q_pop ok dL_law_1290 rfl ?_
  refine q_aload_n ok dL_law_1291 1 rfl ?_
  refine q_sc (j := 1) ok sc dL_law_1292 dL_law_1293 dL_law_1295 (by decide) dL_law_1296 dL_law_1297 3 rfl (by omega) ?_
  refine q_sc (j := 2) ok sc dL_law_1298 dL_law_1299 dL_law_1301 (by decide) dL_law_1302 dL_law_1303 3 rfl (by omega) ?_
  refine q_sc (j := 3) ok sc dL_law_1304 dL_law_1305 dL_law_1307 (by decide) dL_law_1308 dL_law_1309 3 rfl (by omega) ?_
  refine q_m (As := [.int (xs (k + 1)), .int (xs (k + 2)), .int (xs (k + 3))]) ok dL_law_1310 iX12_tried (lL_167 rfl) (rcv cls12 (congrArg Prod.fst s_130)) (by decide) (c_X12_tried rm (by decide) rfl (xs (k + 1)) (xs (k + 2)) (xs (k + 3))  hm0) (by decide) rfl (Nat.le_of_ble_eq_true rfl) ?_
  show WL K b cl sl 1313 [(1, .ref 0), (2, .ref 130), (3, .ref 178), (4, .int (nI k))] [.int (F_X12_tried (xs (k + 1)) (xs (k + 2)) (xs (k + 3)) B JB)] (mI (FI_X11_tried (xs (k + 1)) (xs (k + 2)) (xs (k + 3)) A JA) (FI_X12_tried (xs (k + 1)) (xs (k + 2)) (xs (k + 3)) B JB)) (mJ (FJ_X11_tried (xs (k + 1)) (xs (k + 2)) (xs (k + 3)) A JA) (FJ_X12_tried (xs (k + 1)) (xs (k + 2)) (xs (k + 3)) B JB)) R 179 g
  refine q_pop ok dL_law_1313 rfl ?_
  refine q_goto (tgt := 1381) ok dL_law_1314 (by decide) ?_
  exact kk
set_option maxHeartbeats 2000000 in
set_option maxRecDepth 40000 in
theorem law_c34 {K : KT} {b L k g cl sl : Nat} {xs : Nat → Int32} {A B : SI} {JA JB : SJ} {R : SR} (ok : OK K mL_law 1000) (sc : Sc K b L xs) (ro : RO R) (rm : RM R) (hk6 : k + 5 < L) (hm0 : H_X12_undo  B JB) (kk : WL K b cl sl 1381 [(1, .ref 0), (2, .ref 130), (3, .ref 178), (4, .int (nI k))] [] (mI (FI_X11_undo  A JA) (FI_X12_undo  B JB)) (mJ JA JB) R 179 g) : WL K b cl sl 1317 [(1, .ref 0), (2, .ref 130), (3, .ref 178), (4, .int (nI k))] [] (mI A B) (mJ JA JB) R 179 g := by
  refine q_aload_n ok dL_law_1317 0 rfl ?_
  refine q_x (As := []) ok dL_law_1318 iX11_undo (lL_168 rfl) (rcv cls11 (congrArg Prod.fst s_0)) (by decide) (c_X11_undo ro (by decide) rfl  ) (by decide) rfl (Nat.le_of_ble_eq_true rfl) ?_
  show WL K b cl sl 1321 [(1, .ref 0), (2, .ref 130), (3, .ref 178), (4, .int (nI k))] [.int (F_X11_undo  A JA)] (mI (FI_X11_undo  A JA) B) (mJ JA JB) R 179 g
  refine q_pop ok dL_law_1321 rfl ?_
  refine q_aload_n ok dL_law_1322 1 rfl ?_
  refine q_m (As := []) ok dL_law_1323 iX12_undo (lL_171 rfl) (rcv cls12 (congrArg Prod.fst s_130)) (by decide) (c_X12_undo rm (by decide) rfl   hm0) (by decide) rfl (Nat.le_of_ble_eq_true rfl) ?_
  show WL K b cl sl 1326 [(1, .ref 0), (2, .ref 130), (3, .ref 178), (4, .int (nI k))] [.int (F_X12_undo  B JB)] (mI (FI_X11_undo  A JA) (FI_X12_undo  B JB)) (mJ JA JB) R 179 g
  refine q_pop ok dL_law_1326 rfl ?_
  refine q_goto (tgt := 1381) ok dL_law_1327 (by decide) ?_
  exact kk
set_option maxHeartbeats 2000000 in
set_option maxRecDepth 40000 in
theorem law_c35 {K : KT} {b L k g cl sl : Nat} {xs : Nat → Int32} {A B : SI} {JA JB : SJ} {R : SR} (ok : OK K mL_law 1000) (sc : Sc K b L xs) (ro : RO R) (rm : RM R) (hk6 : k + 5 < L) (hm0 : H_X12_keep  B JB) (kk : WL K b cl sl 1381 [(1, .ref 0), (2, .ref 130), (3, .ref 178), (4, .int (nI k))] [] (mI (FI_X11_keep  A JA) (FI_X12_keep  B JB)) (mJ (FJ_X11_keep  A JA) JB) R 179 g) : WL K b cl sl 1330 [(1, .ref 0), (2, .ref 130), (3, .ref 178), (4, .int (nI k))] [] (mI A B) (mJ JA JB) R 179 g := by
  refine q_aload_n ok dL_law_1330 0 rfl ?_
  refine q_x (As := []) ok dL_law_1331 iX11_keep (lL_172 rfl) (rcv cls11 (congrArg Prod.fst s_0)) (by decide) (c_X11_keep ro (by decide) rfl  ) (by decide) rfl (Nat.le_of_ble_eq_true rfl) ?_
  show WL K b cl sl 1334 [(1, .ref 0), (2, .ref 130), (3, .ref 178), (4, .int (nI k))] [.int (F_X11_keep  A JA)] (mI (FI_X11_keep  A JA) B) (mJ (FJ_X11_keep  A JA) JB) R 179 g
  refine q_pop ok dL_law_1334 rfl ?_
  refine q_aload_n ok dL_law_1335 1 rfl ?_
  refine q_m (As := []) ok dL_law_1336 iX12_keep (lL_175 rfl) (rcv cls12 (congrArg Prod.fst s_130)) (by decide) (c_X12_keep rm (by decide) rfl   hm0) (by decide) rfl (Nat.le_of_ble_eq_true rfl) ?_
  show WL K b cl sl 1339 [(1, .ref 0), (2, .ref 130), (3, .ref 178), (4, .int (nI k))] [.int (F_X12_keep  B JB)] (mI (FI_X11_keep  A JA) (FI_X12_keep  B JB)) (mJ (FJ_X11_keep  A JA) JB) R 179 g
  refine q_pop ok dL_law_1339 rfl ?_
  refine q_goto (tgt := 1381) ok dL_law_1340 (by decide) ?_
  exact kk
set_option maxHeartbeats 2000000 in
set_option maxRecDepth 40000 in
theorem law_c36 {K : KT} {b L k g cl sl : Nat} {xs : Nat → Int32} {A B : SI} {JA JB : SJ} {R : SR} (ok : OK K mL_law 1000) (sc : Sc K b L xs) (ro : RO R) (rm : RM R) (hk6 : k + 5 < L) (hm0 : H_X12_back  B JB) (kk : WL K b cl sl 1381 [(1, .ref 0), (2, .ref 130), (3, .ref 178), (4, .int (nI k))] [] (mI (FI_X11_back  A JA) (FI_X12_back  B JB)) (mJ (FJ_X11_back  A JA) JB) R 179 g) : WL K b cl sl 1343 [(1, .ref 0), (2, .ref 130), (3, .ref 178), (4, .int (nI k))] [] (mI A B) (mJ JA JB) R 179 g := by
  refine q_aload_n ok dL_law_1343 0 rfl ?_
  refine q_x (As := []) ok dL_law_1344 iX11_back (lL_176 rfl) (rcv cls11 (congrArg Prod.fst s_0)) (by decide) (c_X11_back ro (by decide) rfl  ) (by decide) rfl (Nat.le_of_ble_eq_true rfl) ?_
  show WL K b cl sl 1347 [(1, .ref 0), (2, .ref 130), (3, .ref 178), (4, .int (nI k))] [.int (F_X11_back  A JA)] (mI (FI_X11_back  A JA) B) (mJ (FJ_X11_back  A JA) JB) R 179 g
  refine q_pop ok dL_law_1347 rfl ?_
  refine q_aload_n ok dL_law_1348 1 rfl ?_
  refine q_m (As := []) ok dL_law_1349 iX12_back (lL_179 rfl) (rcv cls12 (congrArg Prod.fst s_130)) (by decide) (c_X12_back rm (by decide) rfl   hm0) (by decide) rfl (Nat.le_of_ble_eq_true rfl) ?_
  show WL K b cl sl 1352 [(1, .ref 0), (2, .ref 130), (3, .ref 178), (4, .int (nI k))] [.int (F_X12_back  B JB)] (mI (FI_X11_back  A JA) (FI_X12_back  B JB)) (mJ (FJ_X11_back  A JA) JB) R 179 g
  refine q_pop ok dL_law_1352 rfl ?_
  refine q_goto (tgt := 1381) ok dL_law_1353 (by decide) ?_
  exact kk
set_option maxHeartbeats 2000000 in
set_option maxRecDepth 40000 in
theorem law_c37 {K : KT} {b L k g cl sl : Nat} {xs : Nat → Int32} {A B : SI} {JA JB : SJ} {R : SR} (ok : OK K mL_law 1000) (sc : Sc K b L xs) (ro : RO R) (rm : RM R) (hk6 : k + 5 < L) (hm0 : H_X12_count (xs (k + 1)) B JB) (he : (F_X11_count (xs (k + 1)) A JA) = (F_X12_count (xs (k + 1)) B JB)) (kk : WL K b cl sl 1381 [(1, .ref 0), (2, .ref 130), (3, .ref 178), (4, .int (nI k))] [] (mI A (FI_X12_count (xs (k + 1)) B JB)) (mJ JA JB) R 179 g) : WL K b cl sl 1356 [(1, .ref 0), (2, .ref 130), (3, .ref 178), (4, .int (nI k))] [] (mI A B) (mJ JA JB) R 179 g := by
  refine q_aload_n ok dL_law_1356 0 rfl ?_
  refine q_sc (j := 1) ok sc dL_law_1357 dL_law_1358 dL_law_1360 (by decide) dL_law_1361 dL_law_1362 3 rfl (by omega) ?_
  refine q_x (As := [.int (xs (k + 1))]) ok dL_law_1363 iX11_count (lL_180 rfl) (rcv cls11 (congrArg Prod.fst s_0)) (by decide) (c_X11_count ro (by decide) rfl (xs (k + 1)) ) (by decide) rfl (Nat.le_of_ble_eq_true rfl) ?_
  show WL K b cl sl 1366 [(1, .ref 0), (2, .ref 130), (3, .ref 178), (4, .int (nI k))] [.int (F_X11_count (xs (k + 1)) A JA)] (mI A B) (mJ JA JB) R 179 g
  refine q_aload_n ok dL_law_1366 1 rfl ?_
  refine q_sc (j := 1) ok sc dL_law_1367 dL_law_1368 dL_law_1370 (by decide) dL_law_1371 dL_law_1372 3 rfl (by omega) ?_
  refine q_m (As := [.int (xs (k + 1))]) ok dL_law_1373 iX12_count (lL_183 rfl) (rcv cls12 (congrArg Prod.fst s_130)) (by decide) (c_X12_count rm (by decide) rfl (xs (k + 1))  hm0) (by decide) rfl (Nat.le_of_ble_eq_true rfl) ?_
  show WL K b cl sl 1376 [(1, .ref 0), (2, .ref 130), (3, .ref 178), (4, .int (nI k))] [.int (F_X12_count (xs (k + 1)) B JB), .int (F_X11_count (xs (k + 1)) A JA)] (mI A (FI_X12_count (xs (k + 1)) B JB)) (mJ JA JB) R 179 g
  refine q_icmp_eq (tgt := 1381) ok dL_law_1376 (by decide) (fun _ => ?_) (fun h => absurd he h)
  exact kk
