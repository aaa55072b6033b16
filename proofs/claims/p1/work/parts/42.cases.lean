/-! printed by wip/gen/gen_law.py: the law, case by case -/
theorem rm_t {R : SR} (h : RM R) : RM (tR R) := by
  intro q hq
  have e : ∀ q ∈ RML, ¬ (q.1 = 81 ∧ q.2.1 = 1) := by decide +kernel
  exact (u2_n R (some 1) (e q hq)).trans (h q hq)
theorem fr_text (a : Int32) (I : SI) (J : SJ) (R : SR) : FR_X11_text a I J R = R ∨ FR_X11_text a I J R = tR R := by
  unfold FR_X11_text
  split <;> (try split) <;> (try split) <;> first | exact Or.inl rfl | exact Or.inr rfl
set_option maxHeartbeats 2000000 in
set_option maxRecDepth 40000 in
theorem law_c0 {K : KT} {b L k g cl sl : Nat} {xs : Nat → Int32} {A B : SI} {JA JB : SJ} {R : SR} (ok : OK K mL_law 1000) (sc : Sc K b L xs) (ro : RO R) (rm : RM R) (hk6 : k + 5 < L) (hx0 : H_X11_feed (xs (k + 1)) (xs (k + 2)) (xs (k + 3)) (xs (k + 4)) (xs (k + 5)) A JA) (hm0 : H_X12_feed (xs (k + 1)) (xs (k + 2)) (xs (k + 3)) (xs (k + 4)) (xs (k + 5)) B JB) (he : (F_X11_feed (xs (k + 1)) (xs (k + 2)) (xs (k + 3)) (xs (k + 4)) (xs (k + 5)) A JA) = (F_X12_feed (xs (k + 1)) (xs (k + 2)) (xs (k + 3)) (xs (k + 4)) (xs (k + 5)) B JB)) (kk : WL K b cl sl 1411 [(1, .ref 0), (2, .ref 130), (3, .ref 178), (4, .int (nI k))] [] (mI (FI_X11_feed (xs (k + 1)) (xs (k + 2)) (xs (k + 3)) (xs (k + 4)) (xs (k + 5)) A JA) (FI_X12_feed (xs (k + 1)) (xs (k + 2)) (xs (k + 3)) (xs (k + 4)) (xs (k + 5)) B JB)) (mJ JA JB) R 179 g) : WL K b cl sl 208 [(1, .ref 0), (2, .ref 130), (3, .ref 178), (4, .int (nI k))] [] (mI A B) (mJ JA JB) R 179 g := by
  refine q_aload_n ok dL_law_208 0 rfl ?_
  refine q_sc (j := 1) ok sc dL_law_209 dL_law_210 dL_law_212 (by decide) dL_law_213 dL_law_214 3 rfl (by omega) ?_
  refine q_sc (j := 2) ok sc dL_law_215 dL_law_216 dL_law_218 (by decide) dL_law_219 dL_law_220 3 rfl (by omega) ?_
  refine q_sc (j := 3) ok sc dL_law_221 dL_law_222 dL_law_224 (by decide) dL_law_225 dL_law_226 3 rfl (by omega) ?_
  refine q_sc (j := 4) ok sc dL_law_227 dL_law_228 dL_law_230 (by decide) dL_law_231 dL_law_232 3 rfl (by omega) ?_
  refine q_sc (j := 5) ok sc dL_law_233 dL_law_234 dL_law_236 (by decide) dL_law_237 dL_law_238 3 rfl (by omega) ?_
  refine q_x (As := [.int (xs (k + 1)), .int (xs (k + 2)), .int (xs (k + 3)), .int (xs (k + 4)), .int (xs (k + 5))]) ok dL_law_239 iX11_feed (lL_21 rfl) (rcv cls11 (congrArg Prod.fst s_0)) (by decide) (c_X11_feed ro (by decide) rfl (xs (k + 1)) (xs (k + 2)) (xs (k + 3)) (xs (k + 4)) (xs (k + 5))  hx0) (by decide) rfl (Nat.le_of_ble_eq_true rfl) ?_
  show WL K b cl sl 242 [(1, .ref 0), (2, .ref 130), (3, .ref 178), (4, .int (nI k))] [.int (F_X11_feed (xs (k + 1)) (xs (k + 2)) (xs (k + 3)) (xs (k + 4)) (xs (k + 5)) A JA)] (mI (FI_X11_feed (xs (k + 1)) (xs (k + 2)) (xs (k + 3)) (xs (k + 4)) (xs (k + 5)) A JA) B) (mJ JA JB) R 179 g
  refine q_aload_n ok dL_law_242 1 rfl ?_
  refine q_sc (j := 1) ok sc dL_law_243 dL_law_244 dL_law_246 (by decide) dL_law_247 dL_law_248 3 rfl (by omega) ?_
  refine q_sc (j := 2) ok sc dL_law_249 dL_law_250 dL_law_252 (by decide) dL_law_253 dL_law_254 3 rfl (by omega) ?_
  refine q_sc (j := 3) ok sc dL_law_255 dL_law_256 dL_law_258 (by decide) dL_law_259 dL_law_260 3 rfl (by omega) ?_
  refine q_sc (j := 4) ok sc dL_law_261 dL_law_262 dL_law_264 (by decide) dL_law_265 dL_law_266 3 rfl (by omega) ?_
  refine q_sc (j := 5) ok sc dL_law_267 dL_law_268 dL_law_270 (by decide) dL_law_271 dL_law_272 3 rfl (by omega) ?_
  refine q_m (As := [.int (xs (k + 1)), .int (xs (k + 2)), .int (xs (k + 3)), .int (xs (k + 4)), .int (xs (k + 5))]) ok dL_law_273 iX12_feed (lL_25 rfl) (rcv cls12 (congrArg Prod.fst s_130)) (by decide) (c_X12_feed rm (by decide) rfl (xs (k + 1)) (xs (k + 2)) (xs (k + 3)) (xs (k + 4)) (xs (k + 5))  hm0) (by decide) rfl (Nat.le_of_ble_eq_true rfl) ?_
  show WL K b cl sl 276 [(1, .ref 0), (2, .ref 130), (3, .ref 178), (4, .int (nI k))] [.int (F_X12_feed (xs (k + 1)) (xs (k + 2)) (xs (k + 3)) (xs (k + 4)) (xs (k + 5)) B JB), .int (F_X11_feed (xs (k + 1)) (xs (k + 2)) (xs (k + 3)) (xs (k + 4)) (xs (k + 5)) A JA)] (mI (FI_X11_feed (xs (k + 1)) (xs (k + 2)) (xs (k + 3)) (xs (k + 4)) (xs (k + 5)) A JA) (FI_X12_feed (xs (k + 1)) (xs (k + 2)) (xs (k + 3)) (xs (k + 4)) (xs (k + 5)) B JB)) (mJ JA JB) R 179 g
  refine q_icmp_eq (tgt := 1411) ok dL_law_276 (by decide) (fun _ => ?_) (fun h => absurd he h)
  exact kk
set_option maxHeartbeats 2000000 in
set_option maxRecDepth 40000 in
theorem law_c1 {K : KT} {b L k g cl sl : Nat} {xs : Nat → Int32} {A B : SI} {JA JB : SJ} {R : SR} (ok : OK K mL_law 1000) (sc : Sc K b L xs) (ro : RO R) (rm : RM R) (hk6 : k + 5 < L) (hx0 : H_X11_text (xs (k + 1)) A JA) (hm0 : H_X12_text (xs (k + 1)) B JB) (he : (F_X11_text (xs (k + 1)) A JA) = (F_X12_text (xs (k + 1)) B JB)) (kk : WL K b cl sl 1411 [(1, .ref 0), (2, .ref 130), (3, .ref 178), (4, .int (nI k))] [] (mI (FI_X11_text (xs (k + 1)) A JA) (FI_X12_text (xs (k + 1)) B JB)) (mJ (FJ_X11_text (xs (k + 1)) A JA) (FJ_X12_text (xs (k + 1)) B JB)) ((FR_X11_text (xs (k + 1)) A JA R)) 179 g) : WL K b cl sl 281 [(1, .ref 0), (2, .ref 130), (3, .ref 178), (4, .int (nI k))] [] (mI A B) (mJ JA JB) R 179 g := by
  refine q_aload_n ok dL_law_281 0 rfl ?_
  refine q_sc (j := 1) ok sc dL_law_282 dL_law_283 dL_law_285 (by decide) dL_law_286 dL_law_287 3 rfl (by omega) ?_
  refine q_x (As := [.int (xs (k + 1))]) ok dL_law_288 iX11_text (lL_26 rfl) (rcv cls11 (congrArg Prod.fst s_0)) (by decide) (c_X11_text ro (by decide) rfl (xs (k + 1))  hx0) (by decide) rfl (Nat.le_of_ble_eq_true rfl) ?_
  show WL K b cl sl 291 [(1, .ref 0), (2, .ref 130), (3, .ref 178), (4, .int (nI k))] [.int (F_X11_text (xs (k + 1)) A JA)] (mI (FI_X11_text (xs (k + 1)) A JA) B) (mJ (FJ_X11_text (xs (k + 1)) A JA) JB) ((FR_X11_text (xs (k + 1)) A JA R)) 179 g
  have rm1 : RM (FR_X11_text (xs (k + 1)) A JA R) := by rcases fr_text _ _ _ R with h | h <;> rw [h] <;> first | exact rm | exact rm_t rm
  refine q_aload_n ok dL_law_291 1 rfl ?_
  refine q_sc (j := 1) ok sc dL_law_292 dL_law_293 dL_law_295 (by decide) dL_law_296 dL_law_297 3 rfl (by omega) ?_
  refine q_m (As := [.int (xs (k + 1))]) ok dL_law_298 iX12_text (lL_30 rfl) (rcv cls12 (congrArg Prod.fst s_130)) (by decide) (c_X12_text rm1 (by decide) rfl (xs (k + 1))  hm0) (by decide) rfl (Nat.le_of_ble_eq_true rfl) ?_
  show WL K b cl sl 301 [(1, .ref 0), (2, .ref 130), (3, .ref 178), (4, .int (nI k))] [.int (F_X12_text (xs (k + 1)) B JB), .int (F_X11_text (xs (k + 1)) A JA)] (mI (FI_X11_text (xs (k + 1)) A JA) (FI_X12_text (xs (k + 1)) B JB)) (mJ (FJ_X11_text (xs (k + 1)) A JA) (FJ_X12_text (xs (k + 1)) B JB)) ((FR_X11_text (xs (k + 1)) A JA R)) 179 g
  refine q_icmp_eq (tgt := 1411) ok dL_law_301 (by decide) (fun _ => ?_) (fun h => absurd he h)
  exact kk
set_option maxHeartbeats 2000000 in
set_option maxRecDepth 40000 in
theorem law_c2 {K : KT} {b L k g cl sl : Nat} {xs : Nat → Int32} {A B : SI} {JA JB : SJ} {R : SR} (ok : OK K mL_law 1000) (sc : Sc K b L xs) (ro : RO R) (rm : RM R) (hk6 : k + 5 < L) (he : (F_X11_fault (xs (k + 1)) A JA) = (F_X12_fault (xs (k + 1)) B JB)) (kk : WL K b cl sl 1411 [(1, .ref 0), (2, .ref 130), (3, .ref 178), (4, .int (nI k))] [] (mI A (FI_X12_fault (xs (k + 1)) B JB)) (mJ JA JB) R 179 g) : WL K b cl sl 306 [(1, .ref 0), (2, .ref 130), (3, .ref 178), (4, .int (nI k))] [] (mI A B) (mJ JA JB) R 179 g := by
  refine q_aload_n ok dL_law_306 0 rfl ?_
  refine q_sc (j := 1) ok sc dL_law_307 dL_law_308 dL_law_310 (by decide) dL_law_311 dL_law_312 3 rfl (by omega) ?_
  refine q_x (As := [.int (xs (k + 1))]) ok dL_law_313 iX11_fault (lL_31 rfl) (rcv cls11 (congrArg Prod.fst s_0)) (by decide) (c_X11_fault ro (by decide) rfl (xs (k + 1)) ) (by decide) rfl (Nat.le_of_ble_eq_true rfl) ?_
  show WL K b cl sl 316 [(1, .ref 0), (2, .ref 130), (3, .ref 178), (4, .int (nI k))] [.int (F_X11_fault (xs (k + 1)) A JA)] (mI A B) (mJ JA JB) R 179 g
  refine q_aload_n ok dL_law_316 1 rfl ?_
  refine q_sc (j := 1) ok sc dL_law_317 dL_law_318 dL_law_320 (by decide) dL_law_321 dL_law_322 3 rfl (by omega) ?_
  refine q_m (As := [.int (xs (k + 1))]) ok dL_law_323 iX12_fault (lL_34 rfl) (rcv cls12 (congrArg Prod.fst s_130)) (by decide) (c_X12_fault rm (by decide) rfl (xs (k + 1)) ) (by decide) rfl (Nat.le_of_ble_eq_true rfl) ?_
  show WL K b cl sl 326 [(1, .ref 0), (2, .ref 130), (3, .ref 178), (4, .int (nI k))] [.int (F_X12_fault (xs (k + 1)) B JB), .int (F_X11_fault (xs (k + 1)) A JA)] (mI A (FI_X12_fault (xs (k + 1)) B JB)) (mJ JA JB) R 179 g
  refine q_icmp_eq (tgt := 1411) ok dL_law_326 (by decide) (fun _ => ?_) (fun h => absurd he h)
  exact kk
set_option maxHeartbeats 2000000 in
set_option maxRecDepth 40000 in
theorem law_c3 {K : KT} {b L k g cl sl : Nat} {xs : Nat → Int32} {A B : SI} {JA JB : SJ} {R : SR} (ok : OK K mL_law 1000) (sc : Sc K b L xs) (ro : RO R) (rm : RM R) (hk6 : k + 5 < L) (hm0 : H_X12_named (xs (k + 1)) (xs (k + 2)) B JB) (he : (F_X11_named (xs (k + 1)) (xs (k + 2)) A JA) = (F_X12_named (xs (k + 1)) (xs (k + 2)) B JB)) (kk : WL K b cl sl 1411 [(1, .ref 0), (2, .ref 130), (3, .ref 178), (4, .int (nI k))] [] (mI A (FI_X12_named (xs (k + 1)) (xs (k + 2)) B JB)) (mJ JA JB) R 179 g) : WL K b cl sl 331 [(1, .ref 0), (2, .ref 130), (3, .ref 178), (4, .int (nI k))] [] (mI A B) (mJ JA JB) R 179 g := by
  refine q_aload_n ok dL_law_331 0 rfl ?_
  refine q_sc (j := 1) ok sc dL_law_332 dL_law_333 dL_law_335 (by decide) dL_law_336 dL_law_337 3 rfl (by omega) ?_
  refine q_sc (j := 2) ok sc dL_law_338 dL_law_339 dL_law_341 (by decide) dL_law_342 dL_law_343 3 rfl (by omega) ?_
  refine q_x (As := [.int (xs (k + 1)), .int (xs (k + 2))]) ok dL_law_344 iX11_named (lL_35 rfl) (rcv cls11 (congrArg Prod.fst s_0)) (by decide) (c_X11_named ro (by decide) rfl (xs (k + 1)) (xs (k + 2)) ) (by decide) rfl (Nat.le_of_ble_eq_true rfl) ?_
  show WL K b cl sl 347 [(1, .ref 0), (2, .ref 130), (3, .ref 178), (4, .int (nI k))] [.int (F_X11_named (xs (k + 1)) (xs (k + 2)) A JA)] (mI A B) (mJ JA JB) R 179 g
  refine q_aload_n ok dL_law_347 1 rfl ?_
  refine q_sc (j := 1) ok sc dL_law_348 dL_law_349 dL_law_351 (by decide) dL_law_352 dL_law_353 3 rfl (by omega) ?_
  refine q_sc (j := 2) ok sc dL_law_354 dL_law_355 dL_law_357 (by decide) dL_law_358 dL_law_359 3 rfl (by omega) ?_
  refine q_m (As := [.int (xs (k + 1)), .int (xs (k + 2))]) ok dL_law_360 iX12_named (lL_38 rfl) (rcv cls12 (congrArg Prod.fst s_130)) (by decide) (c_X12_named rm (by decide) rfl (xs (k + 1)) (xs (k + 2))  hm0) (by decide) rfl (Nat.le_of_ble_eq_true rfl) ?_
  show WL K b cl sl 363 [(1, .ref 0), (2, .ref 130), (3, .ref 178), (4, .int (nI k))] [.int (F_X12_named (xs (k + 1)) (xs (k + 2)) B JB), .int (F_X11_named (xs (k + 1)) (xs (k + 2)) A JA)] (mI A (FI_X12_named (xs (k + 1)) (xs (k + 2)) B JB)) (mJ JA JB) R 179 g
  refine q_icmp_eq (tgt := 1411) ok dL_law_363 (by decide) (fun _ => ?_) (fun h => absurd he h)
  exact kk
set_option maxHeartbeats 2000000 in
set_option maxRecDepth 40000 in
theorem law_c5 {K : KT} {b L k g cl sl : Nat} {xs : Nat → Int32} {A B : SI} {JA JB : SJ} {R : SR} (ok : OK K mL_law 1000) (sc : Sc K b L xs) (ro : RO R) (rm : RM R) (hk6 : k + 5 < L) (hm0 : H_X12_shot (xs (k + 1)) (xs (k + 2)) B JB) (he : (F_X11_shot (xs (k + 1)) (xs (k + 2)) A JA) = (F_X12_shot (xs (k + 1)) (xs (k + 2)) B JB)) (kk : WL K b cl sl 1411 [(1, .ref 0), (2, .ref 130), (3, .ref 178), (4, .int (nI k))] [] (mI A (FI_X12_shot (xs (k + 1)) (xs (k + 2)) B JB)) (mJ JA JB) R 179 g) : WL K b cl sl 436 [(1, .ref 0), (2, .ref 130), (3, .ref 178), (4, .int (nI k))] [] (mI A B) (mJ JA JB) R 179 g := by
  refine q_aload_n ok dL_law_436 0 rfl ?_
  refine q_sc (j := 1) ok sc dL_law_437 dL_law_438 dL_law_440 (by decide) dL_law_441 dL_law_442 3 rfl (by omega) ?_
  refine q_sc (j := 2) ok sc dL_law_443 dL_law_444 dL_law_446 (by decide) dL_law_447 dL_law_448 3 rfl (by omega) ?_
  refine q_x (As := [.int (xs (k + 1)), .int (xs (k + 2))]) ok dL_law_449 iX11_shot (lL_49 rfl) (rcv cls11 (congrArg Prod.fst s_0)) (by decide) (c_X11_shot ro (by decide) rfl (xs (k + 1)) (xs (k + 2)) ) (by decide) rfl (Nat.le_of_ble_eq_true rfl) ?_
  show WL K b cl sl 452 [(1, .ref 0), (2, .ref 130), (3, .ref 178), (4, .int (nI k))] [.int (F_X11_shot (xs (k + 1)) (xs (k + 2)) A JA)] (mI A B) (mJ JA JB) R 179 g
  refine q_aload_n ok dL_law_452 1 rfl ?_
  refine q_sc (j := 1) ok sc dL_law_453 dL_law_454 dL_law_456 (by decide) dL_law_457 dL_law_458 3 rfl (by omega) ?_
  refine q_sc (j := 2) ok sc dL_law_459 dL_law_460 dL_law_462 (by decide) dL_law_463 dL_law_464 3 rfl (by omega) ?_
  refine q_m (As := [.int (xs (k + 1)), .int (xs (k + 2))]) ok dL_law_465 iX12_shot (lL_52 rfl) (rcv cls12 (congrArg Prod.fst s_130)) (by decide) (c_X12_shot rm (by decide) rfl (xs (k + 1)) (xs (k + 2))  hm0) (by decide) rfl (Nat.le_of_ble_eq_true rfl) ?_
  show WL K b cl sl 468 [(1, .ref 0), (2, .ref 130), (3, .ref 178), (4, .int (nI k))] [.int (F_X12_shot (xs (k + 1)) (xs (k + 2)) B JB), .int (F_X11_shot (xs (k + 1)) (xs (k + 2)) A JA)] (mI A (FI_X12_shot (xs (k + 1)) (xs (k + 2)) B JB)) (mJ JA JB) R 179 g
  refine q_icmp_eq (tgt := 1411) ok dL_law_468 (by decide) (fun _ => ?_) (fun h => absurd he h)
  exact kk
set_option maxHeartbeats 2000000 in
set_option maxRecDepth 40000 in
theorem law_c6 {K : KT} {b L k g cl sl : Nat} {xs : Nat → Int32} {A B : SI} {JA JB : SJ} {R : SR} (ok : OK K mL_law 1000) (sc : Sc K b L xs) (ro : RO R) (rm : RM R) (hk6 : k + 5 < L) (hm0 : H_X12_way (xs (k + 1)) (xs (k + 2)) B JB) (he : (F_X11_way (xs (k + 1)) (xs (k + 2)) A JA) = (F_X12_way (xs (k + 1)) (xs (k + 2)) B JB)) (kk : WL K b cl sl 1411 [(1, .ref 0), (2, .ref 130), (3, .ref 178), (4, .int (nI k))] [] (mI A (FI_X12_way (xs (k + 1)) (xs (k + 2)) B JB)) (mJ JA JB) R 179 g) : WL K b cl sl 473 [(1, .ref 0), (2, .ref 130), (3, .ref 178), (4, .int (nI k))] [] (mI A B) (mJ JA JB) R 179 g := by
  refine q_aload_n ok dL_law_473 0 rfl ?_
  refine q_sc (j := 1) ok sc dL_law_474 dL_law_475 dL_law_477 (by decide) dL_law_478 dL_law_479 3 rfl (by omega) ?_
  refine q_sc (j := 2) ok sc dL_law_480 dL_law_481 dL_law_483 (by decide) dL_law_484 dL_law_485 3 rfl (by omega) ?_
  refine q_x (As := [.int (xs (k + 1)), .int (xs (k + 2))]) ok dL_law_486 iX11_way (lL_53 rfl) (rcv cls11 (congrArg Prod.fst s_0)) (by decide) (c_X11_way ro (by decide) rfl (xs (k + 1)) (xs (k + 2)) ) (by decide) rfl (Nat.le_of_ble_eq_true rfl) ?_
  show WL K b cl sl 489 [(1, .ref 0), (2, .ref 130), (3, .ref 178), (4, .int (nI k))] [.int (F_X11_way (xs (k + 1)) (xs (k + 2)) A JA)] (mI A B) (mJ JA JB) R 179 g
  refine q_aload_n ok dL_law_489 1 rfl ?_
  refine q_sc (j := 1) ok sc dL_law_490 dL_law_491 dL_law_493 (by decide) dL_law_494 dL_law_495 3 rfl (by omega) ?_
  refine q_sc (j := 2) ok sc dL_law_496 dL_law_497 dL_law_499 (by decide) dL_law_500 dL_law_501 3 rfl (by omega) ?_
  refine q_m (As := [.int (xs (k + 1)), .int (xs (k + 2))]) ok dL_law_502 iX12_way (lL_56 rfl) (rcv cls12 (congrArg Prod.fst s_130)) (by decide) (c_X12_way rm (by decide) rfl (xs (k + 1)) (xs (k + 2))  hm0) (by decide) rfl (Nat.le_of_ble_eq_true rfl) ?_
  show WL K b cl sl 505 [(1, .ref 0), (2, .ref 130), (3, .ref 178), (4, .int (nI k))] [.int (F_X12_way (xs (k + 1)) (xs (k + 2)) B JB), .int (F_X11_way (xs (k + 1)) (xs (k + 2)) A JA)] (mI A (FI_X12_way (xs (k + 1)) (xs (k + 2)) B JB)) (mJ JA JB) R 179 g
  refine q_icmp_eq (tgt := 1411) ok dL_law_505 (by decide) (fun _ => ?_) (fun h => absurd he h)
  exact kk
set_option maxHeartbeats 2000000 in
set_option maxRecDepth 40000 in
theorem law_c7 {K : KT} {b L k g cl sl : Nat} {xs : Nat → Int32} {A B : SI} {JA JB : SJ} {R : SR} (ok : OK K mL_law 1000) (sc : Sc K b L xs) (ro : RO R) (rm : RM R) (hk6 : k + 5 < L) (hm0 : H_X12_party (xs (k + 1)) (xs (k + 2)) B JB) (he : (F_X11_party (xs (k + 1)) (xs (k + 2)) A JA) = (F_X12_party (xs (k + 1)) (xs (k + 2)) B JB)) (kk : WL K b cl sl 1411 [(1, .ref 0), (2, .ref 130), (3, .ref 178), (4, .int (nI k))] [] (mI A (FI_X12_party (xs (k + 1)) (xs (k + 2)) B JB)) (mJ JA JB) R 179 g) : WL K b cl sl 510 [(1, .ref 0), (2, .ref 130), (3, .ref 178), (4, .int (nI k))] [] (mI A B) (mJ JA JB) R 179 g := by
  refine q_aload_n ok dL_law_510 0 rfl ?_
  refine q_sc (j := 1) ok sc dL_law_511 dL_law_512 dL_law_514 (by decide) dL_law_515 dL_law_516 3 rfl (by omega) ?_
  refine q_sc (j := 2) ok sc dL_law_517 dL_law_518 dL_law_520 (by decide) dL_law_521 dL_law_522 3 rfl (by omega) ?_
  refine q_x (As := [.int (xs (k + 1)), .int (xs (k + 2))]) ok dL_law_523 iX11_party (lL_57 rfl) (rcv cls11 (congrArg Prod.fst s_0)) (by decide) (c_X11_party ro (by decide) rfl (xs (k + 1)) (xs (k + 2)) ) (by decide) rfl (Nat.le_of_ble_eq_true rfl) ?_
  show WL K b cl sl 526 [(1, .ref 0), (2, .ref 130), (3, .ref 178), (4, .int (nI k))] [.int (F_X11_party (xs (k + 1)) (xs (k + 2)) A JA)] (mI A B) (mJ JA JB) R 179 g
  refine q_aload_n ok dL_law_526 1 rfl ?_
  refine q_sc (j := 1) ok sc dL_law_527 dL_law_528 dL_law_530 (by decide) dL_law_531 dL_law_532 3 rfl (by omega) ?_
  refine q_sc (j := 2) ok sc dL_law_533 dL_law_534 dL_law_536 (by decide) dL_law_537 dL_law_538 3 rfl (by omega) ?_
  refine q_m (As := [.int (xs (k + 1)), .int (xs (k + 2))]) ok dL_law_539 iX12_party (lL_60 rfl) (rcv cls12 (congrArg Prod.fst s_130)) (by decide) (c_X12_party rm (by decide) rfl (xs (k + 1)) (xs (k + 2))  hm0) (by decide) rfl (Nat.le_of_ble_eq_true rfl) ?_
  show WL K b cl sl 542 [(1, .ref 0), (2, .ref 130), (3, .ref 178), (4, .int (nI k))] [.int (F_X12_party (xs (k + 1)) (xs (k + 2)) B JB), .int (F_X11_party (xs (k + 1)) (xs (k + 2)) A JA)] (mI A (FI_X12_party (xs (k + 1)) (xs (k + 2)) B JB)) (mJ JA JB) R 179 g
  refine q_icmp_eq (tgt := 1411) ok dL_law_542 (by decide) (fun _ => ?_) (fun h => absurd he h)
  exact kk
set_option maxHeartbeats 2000000 in
set_option maxRecDepth 40000 in
theorem law_c8 {K : KT} {b L k g cl sl : Nat} {xs : Nat → Int32} {A B : SI} {JA JB : SJ} {R : SR} (ok : OK K mL_law 1000) (sc : Sc K b L xs) (ro : RO R) (rm : RM R) (hk6 : k + 5 < L) (hm0 : H_X12_clerk (xs (k + 1)) B JB) (he : (F_X11_clerk (xs (k + 1)) A JA) = (F_X12_clerk (xs (k + 1)) B JB)) (kk : WL K b cl sl 1411 [(1, .ref 0), (2, .ref 130), (3, .ref 178), (4, .int (nI k))] [] (mI A (FI_X12_clerk (xs (k + 1)) B JB)) (mJ JA JB) R 179 g) : WL K b cl sl 547 [(1, .ref 0), (2, .ref 130), (3, .ref 178), (4, .int (nI k))] [] (mI A B) (mJ JA JB) R 179 g := by
  refine q_aload_n ok dL_law_547 0 rfl ?_
  refine q_sc (j := 1) ok sc dL_law_548 dL_law_549 dL_law_551 (by decide) dL_law_552 dL_law_553 3 rfl (by omega) ?_
  refine q_x (As := [.int (xs (k + 1))]) ok dL_law_554 iX11_clerk (lL_61 rfl) (rcv cls11 (congrArg Prod.fst s_0)) (by decide) (c_X11_clerk ro (by decide) rfl (xs (k + 1)) ) (by decide) rfl (Nat.le_of_ble_eq_true rfl) ?_
  show WL K b cl sl 557 [(1, .ref 0), (2, .ref 130), (3, .ref 178), (4, .int (nI k))] [.int (F_X11_clerk (xs (k + 1)) A JA)] (mI A B) (mJ JA JB) R 179 g
  refine q_aload_n ok dL_law_557 1 rfl ?_
  refine q_sc (j := 1) ok sc dL_law_558 dL_law_559 dL_law_561 (by decide) dL_law_562 dL_law_563 3 rfl (by omega) ?_
  refine q_m (As := [.int (xs (k + 1))]) ok dL_law_564 iX12_clerk (lL_64 rfl) (rcv cls12 (congrArg Prod.fst s_130)) (by decide) (c_X12_clerk rm (by decide) rfl (xs (k + 1))  hm0) (by decide) rfl (Nat.le_of_ble_eq_true rfl) ?_
  show WL K b cl sl 567 [(1, .ref 0), (2, .ref 130), (3, .ref 178), (4, .int (nI k))] [.int (F_X12_clerk (xs (k + 1)) B JB), .int (F_X11_clerk (xs (k + 1)) A JA)] (mI A (FI_X12_clerk (xs (k + 1)) B JB)) (mJ JA JB) R 179 g
  refine q_icmp_eq (tgt := 1411) ok dL_law_567 (by decide) (fun _ => ?_) (fun h => absurd he h)
  exact kk
set_option maxHeartbeats 2000000 in
set_option maxRecDepth 40000 in
theorem law_c9 {K : KT} {b L k g cl sl : Nat} {xs : Nat → Int32} {A B : SI} {JA JB : SJ} {R : SR} (ok : OK K mL_law 1000) (sc : Sc K b L xs) (ro : RO R) (rm : RM R) (hk6 : k + 5 < L) (hx0 : H_X11_law (xs (k + 1)) (xs (k + 2)) (xs (k + 3)) A JA) (hm0 : H_X12_law (xs (k + 1)) (xs (k + 2)) (xs (k + 3)) B JB) (he : (F_X11_law (xs (k + 1)) (xs (k + 2)) (xs (k + 3)) A JA) = (F_X12_law (xs (k + 1)) (xs (k + 2)) (xs (k + 3)) B JB)) (kk : WL K b cl sl 1411 [(1, .ref 0), (2, .ref 130), (3, .ref 178), (4, .int (nI k))] [] (mI (FI_X11_law (xs (k + 1)) (xs (k + 2)) (xs (k + 3)) A JA) (FI_X12_law (xs (k + 1)) (xs (k + 2)) (xs (k + 3)) B JB)) (mJ (FJ_X11_law (xs (k + 1)) (xs (k + 2)) (xs (k + 3)) A JA) (FJ_X12_law (xs (k + 1)) (xs (k + 2)) (xs (k + 3)) B JB)) R 179 g) : WL K b cl sl 572 [(1, .ref 0), (2, .ref 130), (3, .ref 178), (4, .int (nI k))] [] (mI A B) (mJ JA JB) R 179 g := by
  refine q_aload_n ok dL_law_572 0 rfl ?_
  refine q_sc (j := 1) ok sc dL_law_573 dL_law_574 dL_law_576 (by decide) dL_law_577 dL_law_578 3 rfl (by omega) ?_
  refine q_sc (j := 2) ok sc dL_law_579 dL_law_580 dL_law_582 (by decide) dL_law_583 dL_law_584 3 rfl (by omega) ?_
  refine q_sc (j := 3) ok sc dL_law_585 dL_law_586 dL_law_588 (by decide) dL_law_589 dL_law_590 3 rfl (by omega) ?_
  refine q_x (As := [.int (xs (k + 1)), .int (xs (k + 2)), .int (xs (k + 3))]) ok dL_law_591 iX11_law (lL_65 rfl) (rcv cls11 (congrArg Prod.fst s_0)) (by decide) (c_X11_law ro (by decide) rfl (xs (k + 1)) (xs (k + 2)) (xs (k + 3))  hx0) (by decide) rfl (Nat.le_of_ble_eq_true rfl) ?_
  show WL K b cl sl 594 [(1, .ref 0), (2, .ref 130), (3, .ref 178), (4, .int (nI k))] [.long (F_X11_law (xs (k + 1)) (xs (k + 2)) (xs (k + 3)) A JA)] (mI (FI_X11_law (xs (k + 1)) (xs (k + 2)) (xs (k + 3)) A JA) B) (mJ (FJ_X11_law (xs (k + 1)) (xs (k + 2)) (xs (k + 3)) A JA) JB) R 179 g
  refine q_aload_n ok dL_law_594 1 rfl ?_
  refine q_sc (j := 1) ok sc dL_law_595 dL_law_596 dL_law_598 (by decide) dL_law_599 dL_law_600 3 rfl (by omega) ?_
  refine q_sc (j := 2) ok sc dL_law_601 dL_law_602 dL_law_604 (by decide) dL_law_605 dL_law_606 3 rfl (by omega) ?_
  refine q_sc (j := 3) ok sc dL_law_607 dL_law_608 dL_law_610 (by decide) dL_law_611 dL_law_612 3 rfl (by omega) ?_
  refine q_m (As := [.int (xs (k + 1)), .int (xs (k + 2)), .int (xs (k + 3))]) ok dL_law_613 iX12_law (lL_69 rfl) (rcv cls12 (congrArg Prod.fst s_130)) (by decide) (c_X12_law rm (by decide) rfl (xs (k + 1)) (xs (k + 2)) (xs (k + 3))  hm0) (by decide) rfl (Nat.le_of_ble_eq_true rfl) ?_
  show WL K b cl sl 616 [(1, .ref 0), (2, .ref 130), (3, .ref 178), (4, .int (nI k))] [.long (F_X12_law (xs (k + 1)) (xs (k + 2)) (xs (k + 3)) B JB), .long (F_X11_law (xs (k + 1)) (xs (k + 2)) (xs (k + 3)) A JA)] (mI (FI_X11_law (xs (k + 1)) (xs (k + 2)) (xs (k + 3)) A JA) (FI_X12_law (xs (k + 1)) (xs (k + 2)) (xs (k + 3)) B JB)) (mJ (FJ_X11_law (xs (k + 1)) (xs (k + 2)) (xs (k + 3)) A JA) (FJ_X12_law (xs (k + 1)) (xs (k + 2)) (xs (k + 3)) B JB)) R 179 g
  refine q_lcmp ok dL_law_616 ?_
  refine q_if_eq (tgt := 1411) ok dL_law_617 (by decide) (fun _ => ?_) (fun h => absurd (cmp0 he) h)
  exact kk
set_option maxHeartbeats 2000000 in
set_option maxRecDepth 40000 in
theorem law_c10 {K : KT} {b L k g cl sl : Nat} {xs : Nat → Int32} {A B : SI} {JA JB : SJ} {R : SR} (ok : OK K mL_law 1000) (sc : Sc K b L xs) (ro : RO R) (rm : RM R) (hk6 : k + 5 < L) (hm0 : H_X12_plums (xs (k + 1)) (xs (k + 2)) B JB) (he : (F_X11_plums (xs (k + 1)) (xs (k + 2)) A JA) = (F_X12_plums (xs (k + 1)) (xs (k + 2)) B JB)) (kk : WL K b cl sl 1411 [(1, .ref 0), (2, .ref 130), (3, .ref 178), (4, .int (nI k))] [] (mI (FI_X11_plums (xs (k + 1)) (xs (k + 2)) A JA) (FI_X12_plums (xs (k + 1)) (xs (k + 2)) B JB)) (mJ JA JB) R 179 g) : WL K b cl sl 622 [(1, .ref 0), (2, .ref 130), (3, .ref 178), (4, .int (nI k))] [] (mI A B) (mJ JA JB) R 179 g := by
  refine q_aload_n ok dL_law_622 0 rfl ?_
  refine q_sc (j := 1) ok sc dL_law_623 dL_law_624 dL_law_626 (by decide) dL_law_627 dL_law_628 3 rfl (by omega) ?_
  refine q_sc (j := 2) ok sc dL_law_629 dL_law_630 dL_law_632 (by decide) dL_law_633 dL_law_634 3 rfl (by omega) ?_
  refine q_x (As := [.int (xs (k + 1)), .int (xs (k + 2))]) ok dL_law_635 iX11_plums (lL_70 rfl) (rcv cls11 (congrArg Prod.fst s_0)) (by decide) (c_X11_plums ro (by decide) rfl (xs (k + 1)) (xs (k + 2)) ) (by decide) rfl (Nat.le_of_ble_eq_true rfl) ?_
  show WL K b cl sl 638 [(1, .ref 0), (2, .ref 130), (3, .ref 178), (4, .int (nI k))] [.int (F_X11_plums (xs (k + 1)) (xs (k + 2)) A JA)] (mI (FI_X11_plums (xs (k + 1)) (xs (k + 2)) A JA) B) (mJ JA JB) R 179 g
  refine q_aload_n ok dL_law_638 1 rfl ?_
  refine q_sc (j := 1) ok sc dL_law_639 dL_law_640 dL_law_642 (by decide) dL_law_643 dL_law_644 3 rfl (by omega) ?_
  refine q_sc (j := 2) ok sc dL_law_645 dL_law_646 dL_law_648 (by decide) dL_law_649 dL_law_650 3 rfl (by omega) ?_
  refine q_m (As := [.int (xs (k + 1)), .int (xs (k + 2))]) ok dL_law_651 iX12_plums (lL_73 rfl) (rcv cls12 (congrArg Prod.fst s_130)) (by decide) (c_X12_plums rm (by decide) rfl (xs (k + 1)) (xs (k + 2))  hm0) (by decide) rfl (Nat.le_of_ble_eq_true rfl) ?_
  show WL K b cl sl 654 [(1, .ref 0), (2, .ref 130), (3, .ref 178), (4, .int (nI k))] [.int (F_X12_plums (xs (k + 1)) (xs (k + 2)) B JB), .int (F_X11_plums (xs (k + 1)) (xs (k + 2)) A JA)] (mI (FI_X11_plums (xs (k + 1)) (xs (k + 2)) A JA) (FI_X12_plums (xs (k + 1)) (xs (k + 2)) B JB)) (mJ JA JB) R 179 g
  refine q_icmp_eq (tgt := 1411) ok dL_law_654 (by decide) (fun _ => ?_) (fun h => absurd he h)
  exact kk
set_option maxHeartbeats 2000000 in
set_option maxRecDepth 40000 in
theorem law_c11 {K : KT} {b L k g cl sl : Nat} {xs : Nat → Int32} {A B : SI} {JA JB : SJ} {R : SR} (ok : OK K mL_law 1000) (sc : Sc K b L xs) (ro : RO R) (rm : RM R) (hk6 : k + 5 < L) (hm0 : H_X12_move (xs (k + 1)) (xs (k + 2)) B JB) (he : (F_X11_move (xs (k + 1)) (xs (k + 2)) A JA) = (F_X12_move (xs (k + 1)) (xs (k + 2)) B JB)) (kk : WL K b cl sl 1411 [(1, .ref 0), (2, .ref 130), (3, .ref 178), (4, .int (nI k))] [] (mI (FI_X11_move (xs (k + 1)) (xs (k + 2)) A JA) (FI_X12_move (xs (k + 1)) (xs (k + 2)) B JB)) (mJ JA JB) R 179 g) : WL K b cl sl 659 [(1, .ref 0), (2, .ref 130), (3, .ref 178), (4, .int (nI k))] [] (mI A B) (mJ JA JB) R 179 g := by
  refine q_aload_n ok dL_law_659 0 rfl ?_
  refine q_sc (j := 1) ok sc dL_law_660 dL_law_661 dL_law_663 (by decide) dL_law_664 dL_law_665 3 rfl (by omega) ?_
  refine q_sc (j := 2) ok sc dL_law_666 dL_law_667 dL_law_669 (by decide) dL_law_670 dL_law_671 3 rfl (by omega) ?_
  refine q_x (As := [.int (xs (k + 1)), .int (xs (k + 2))]) ok dL_law_672 iX11_move (lL_74 rfl) (rcv cls11 (congrArg Prod.fst s_0)) (by decide) (c_X11_move ro (by decide) rfl (xs (k + 1)) (xs (k + 2)) ) (by decide) rfl (Nat.le_of_ble_eq_true rfl) ?_
  show WL K b cl sl 675 [(1, .ref 0), (2, .ref 130), (3, .ref 178), (4, .int (nI k))] [.int (F_X11_move (xs (k + 1)) (xs (k + 2)) A JA)] (mI (FI_X11_move (xs (k + 1)) (xs (k + 2)) A JA) B) (mJ JA JB) R 179 g
  refine q_aload_n ok dL_law_675 1 rfl ?_
  refine q_sc (j := 1) ok sc dL_law_676 dL_law_677 dL_law_679 (by decide) dL_law_680 dL_law_681 3 rfl (by omega) ?_
  refine q_sc (j := 2) ok sc dL_law_682 dL_law_683 dL_law_685 (by decide) dL_law_686 dL_law_687 3 rfl (by omega) ?_
  refine q_m (As := [.int (xs (k + 1)), .int (xs (k + 2))]) ok dL_law_688 iX12_move (lL_78 rfl) (rcv cls12 (congrArg Prod.fst s_130)) (by decide) (c_X12_move rm (by decide) rfl (xs (k + 1)) (xs (k + 2))  hm0) (by decide) rfl (Nat.le_of_ble_eq_true rfl) ?_
  show WL K b cl sl 691 [(1, .ref 0), (2, .ref 130), (3, .ref 178), (4, .int (nI k))] [.int (F_X12_move (xs (k + 1)) (xs (k + 2)) B JB), .int (F_X11_move (xs (k + 1)) (xs (k + 2)) A JA)] (mI (FI_X11_move (xs (k + 1)) (xs (k + 2)) A JA) (FI_X12_move (xs (k + 1)) (xs (k + 2)) B JB)) (mJ JA JB) R 179 g
  refine q_icmp_eq (tgt := 1411) ok dL_law_691 (by decide) (fun _ => ?_) (fun h => absurd he h)
  exact kk
set_option maxHeartbeats 2000000 in
set_option maxRecDepth 40000 in
theorem law_c12 {K : KT} {b L k g cl sl : Nat} {xs : Nat → Int32} {A B : SI} {JA JB : SJ} {R : SR} (ok : OK K mL_law 1000) (sc : Sc K b L xs) (ro : RO R) (rm : RM R) (hk6 : k + 5 < L) (hx0 : H_X11_tell (xs (k + 1)) (xs (k + 2)) A JA) (hm0 : H_X12_tell (xs (k + 1)) (xs (k + 2)) B JB) (he : (F_X11_tell (xs (k + 1)) (xs (k + 2)) A JA) = (F_X12_tell (xs (k + 1)) (xs (k + 2)) B JB)) (kk : WL K b cl sl 1411 [(1, .ref 0), (2, .ref 130), (3, .ref 178), (4, .int (nI k))] [] (mI (FI_X11_tell (xs (k + 1)) (xs (k + 2)) A JA) (FI_X12_tell (xs (k + 1)) (xs (k + 2)) B JB)) (mJ JA JB) R 179 g) : WL K b cl sl 696 [(1, .ref 0), (2, .ref 130), (3, .ref 178), (4, .int (nI k))] [] (mI A B) (mJ JA JB) R 179 g := by
  refine q_aload_n ok dL_law_696 0 rfl ?_
  refine q_sc (j := 1) ok sc dL_law_697 dL_law_698 dL_law_700 (by decide) dL_law_701 dL_law_702 3 rfl (by omega) ?_
  refine q_sc (j := 2) ok sc dL_law_703 dL_law_704 dL_law_706 (by decide) dL_law_707 dL_law_708 3 rfl (by omega) ?_
  refine q_x (As := [.int (xs (k + 1)), .int (xs (k + 2))]) ok dL_law_709 iX11_tell (lL_79 rfl) (rcv cls11 (congrArg Prod.fst s_0)) (by decide) (c_X11_tell ro (by decide) rfl (xs (k + 1)) (xs (k + 2))  hx0) (by decide) rfl (Nat.le_of_ble_eq_true rfl) ?_
  show WL K b cl sl 712 [(1, .ref 0), (2, .ref 130), (3, .ref 178), (4, .int (nI k))] [.int (F_X11_tell (xs (k + 1)) (xs (k + 2)) A JA)] (mI (FI_X11_tell (xs (k + 1)) (xs (k + 2)) A JA) B) (mJ JA JB) R 179 g
  refine q_aload_n ok dL_law_712 1 rfl ?_
  refine q_sc (j := 1) ok sc dL_law_713 dL_law_714 dL_law_716 (by decide) dL_law_717 dL_law_718 3 rfl (by omega) ?_
  refine q_sc (j := 2) ok sc dL_law_719 dL_law_720 dL_law_722 (by decide) dL_law_723 dL_law_724 3 rfl (by omega) ?_
  refine q_m (As := [.int (xs (k + 1)), .int (xs (k + 2))]) ok dL_law_725 iX12_tell (lL_82 rfl) (rcv cls12 (congrArg Prod.fst s_130)) (by decide) (c_X12_tell rm (by decide) rfl (xs (k + 1)) (xs (k + 2))  hm0) (by decide) rfl (Nat.le_of_ble_eq_true rfl) ?_
  show WL K b cl sl 728 [(1, .ref 0), (2, .ref 130), (3, .ref 178), (4, .int (nI k))] [.int (F_X12_tell (xs (k + 1)) (xs (k + 2)) B JB), .int (F_X11_tell (xs (k + 1)) (xs (k + 2)) A JA)] (mI (FI_X11_tell (xs (k + 1)) (xs (k + 2)) A JA) (FI_X12_tell (xs (k + 1)) (xs (k + 2)) B JB)) (mJ JA JB) R 179 g
  refine q_icmp_eq (tgt := 1411) ok dL_law_728 (by decide) (fun _ => ?_) (fun h => absurd he h)
  exact kk
set_option maxHeartbeats 2000000 in
set_option maxRecDepth 40000 in
theorem law_c13 {K : KT} {b L k g cl sl : Nat} {xs : Nat → Int32} {A B : SI} {JA JB : SJ} {R : SR} (ok : OK K mL_law 1000) (sc : Sc K b L xs) (ro : RO R) (rm : RM R) (hk6 : k + 5 < L) (hm0 : H_X12_forget (xs (k + 1)) B JB) (he : (F_X11_forget (xs (k + 1)) A JA) = (F_X12_forget (xs (k + 1)) B JB)) (kk : WL K b cl sl 1411 [(1, .ref 0), (2, .ref 130), (3, .ref 178), (4, .int (nI k))] [] (mI (FI_X11_forget (xs (k + 1)) A JA) (FI_X12_forget (xs (k + 1)) B JB)) (mJ JA JB) R 179 g) : WL K b cl sl 733 [(1, .ref 0), (2, .ref 130), (3, .ref 178), (4, .int (nI k))] [] (mI A B) (mJ JA JB) R 179 g := by
  refine q_aload_n ok dL_law_733 0 rfl ?_
  refine q_sc (j := 1) ok sc dL_law_734 dL_law_735 dL_law_737 (by decide) dL_law_738 dL_law_739 3 rfl (by omega) ?_
  refine q_x (As := [.int (xs (k + 1))]) ok dL_law_740 iX11_forget (lL_83 rfl) (rcv cls11 (congrArg Prod.fst s_0)) (by decide) (c_X11_forget ro (by decide) rfl (xs (k + 1)) ) (by decide) rfl (Nat.le_of_ble_eq_true rfl) ?_
  show WL K b cl sl 743 [(1, .ref 0), (2, .ref 130), (3, .ref 178), (4, .int (nI k))] [.int (F_X11_forget (xs (k + 1)) A JA)] (mI (FI_X11_forget (xs (k + 1)) A JA) B) (mJ JA JB) R 179 g
  refine q_aload_n ok dL_law_743 1 rfl ?_
  refine q_sc (j := 1) ok sc dL_law_744 dL_law_745 dL_law_747 (by decide) dL_law_748 dL_law_749 3 rfl (by omega) ?_
  refine q_m (As := [.int (xs (k + 1))]) ok dL_law_750 iX12_forget (lL_87 rfl) (rcv cls12 (congrArg Prod.fst s_130)) (by decide) (c_X12_forget rm (by decide) rfl (xs (k + 1))  hm0) (by decide) rfl (Nat.le_of_ble_eq_true rfl) ?_
  show WL K b cl sl 753 [(1, .ref 0), (2, .ref 130), (3, .ref 178), (4, .int (nI k))] [.int (F_X12_forget (xs (k + 1)) B JB), .int (F_X11_forget (xs (k + 1)) A JA)] (mI (FI_X11_forget (xs (k + 1)) A JA) (FI_X12_forget (xs (k + 1)) B JB)) (mJ JA JB) R 179 g
  refine q_icmp_eq (tgt := 1411) ok dL_law_753 (by decide) (fun _ => ?_) (fun h => absurd he h)
  exact kk
set_option maxHeartbeats 2000000 in
set_option maxRecDepth 40000 in
theorem law_c14 {K : KT} {b L k g cl sl : Nat} {xs : Nat → Int32} {A B : SI} {JA JB : SJ} {R : SR} (ok : OK K mL_law 1000) (sc : Sc K b L xs) (ro : RO R) (rm : RM R) (hk6 : k + 5 < L) (hx0 : H_X11_go (xs (k + 1)) A JA) (hm0 : H_X12_go (xs (k + 1)) B JB) (he : (F_X11_go (xs (k + 1)) A JA) = (F_X12_go (xs (k + 1)) B JB)) (kk : WL K b cl sl 1411 [(1, .ref 0), (2, .ref 130), (3, .ref 178), (4, .int (nI k))] [] (mI (FI_X11_go (xs (k + 1)) A JA) (FI_X12_go (xs (k + 1)) B JB)) (mJ (FJ_X11_go (xs (k + 1)) A JA) (FJ_X12_go (xs (k + 1)) B JB)) R 179 g) : WL K b cl sl 758 [(1, .ref 0), (2, .ref 130), (3, .ref 178), (4, .int (nI k))] [] (mI A B) (mJ JA JB) R 179 g := by
  refine q_aload_n ok dL_law_758 0 rfl ?_
  refine q_sc (j := 1) ok sc dL_law_759 dL_law_760 dL_law_762 (by decide) dL_law_763 dL_law_764 3 rfl (by omega) ?_
  refine q_x (As := [.int (xs (k + 1))]) ok dL_law_765 iX11_go (lL_88 rfl) (rcv cls11 (congrArg Prod.fst s_0)) (by decide) (c_X11_go ro (by decide) rfl (xs (k + 1))  hx0) (by decide) rfl (Nat.le_of_ble_eq_true rfl) ?_
  show WL K b cl sl 768 [(1, .ref 0), (2, .ref 130), (3, .ref 178), (4, .int (nI k))] [.int (F_X11_go (xs (k + 1)) A JA)] (mI (FI_X11_go (xs (k + 1)) A JA) B) (mJ (FJ_X11_go (xs (k + 1)) A JA) JB) R 179 g
  refine q_aload_n ok dL_law_768 1 rfl ?_
  refine q_sc (j := 1) ok sc dL_law_769 dL_law_770 dL_law_772 (by decide) dL_law_773 dL_law_774 3 rfl (by omega) ?_
  refine q_m (As := [.int (xs (k + 1))]) ok dL_law_775 iX12_go (lL_91 rfl) (rcv cls12 (congrArg Prod.fst s_130)) (by decide) (c_X12_go rm (by decide) rfl (xs (k + 1))  hm0) (by decide) rfl (Nat.le_of_ble_eq_true rfl) ?_
  show WL K b cl sl 778 [(1, .ref 0), (2, .ref 130), (3, .ref 178), (4, .int (nI k))] [.int (F_X12_go (xs (k + 1)) B JB), .int (F_X11_go (xs (k + 1)) A JA)] (mI (FI_X11_go (xs (k + 1)) A JA) (FI_X12_go (xs (k + 1)) B JB)) (mJ (FJ_X11_go (xs (k + 1)) A JA) (FJ_X12_go (xs (k + 1)) B JB)) R 179 g
  refine q_icmp_eq (tgt := 1411) ok dL_law_778 (by decide) (fun _ => ?_) (fun h => absurd he h)
  exact kk
set_option maxHeartbeats 2000000 in
set_option maxRecDepth 40000 in
theorem law_c15 {K : KT} {b L k g cl sl : Nat} {xs : Nat → Int32} {A B : SI} {JA JB : SJ} {R : SR} (ok : OK K mL_law 1000) (sc : Sc K b L xs) (ro : RO R) (rm : RM R) (hk6 : k + 5 < L) (hx0 : H_X11_ahead (xs (k + 1)) (xs (k + 2)) A JA) (hm0 : H_X12_ahead (xs (k + 1)) (xs (k + 2)) B JB) (he : (F_X11_ahead (xs (k + 1)) (xs (k + 2)) A JA) = (F_X12_ahead (xs (k + 1)) (xs (k + 2)) B JB)) (kk : WL K b cl sl 1411 [(1, .ref 0), (2, .ref 130), (3, .ref 178), (4, .int (nI k))] [] (mI (FI_X11_ahead (xs (k + 1)) (xs (k + 2)) A JA) (FI_X12_ahead (xs (k + 1)) (xs (k + 2)) B JB)) (mJ (FJ_X11_ahead (xs (k + 1)) (xs (k + 2)) A JA) (FJ_X12_ahead (xs (k + 1)) (xs (k + 2)) B JB)) R 179 g) : WL K b cl sl 783 [(1, .ref 0), (2, .ref 130), (3, .ref 178), (4, .int (nI k))] [] (mI A B) (mJ JA JB) R 179 g := by
  refine q_aload_n ok dL_law_783 0 rfl ?_
  refine q_sc (j := 1) ok sc dL_law_784 dL_law_785 dL_law_787 (by decide) dL_law_788 dL_law_789 3 rfl (by omega) ?_
  refine q_sc (j := 2) ok sc dL_law_790 dL_law_791 dL_law_793 (by decide) dL_law_794 dL_law_795 3 rfl (by omega) ?_
  refine q_x (As := [.int (xs (k + 1)), .int (xs (k + 2))]) ok dL_law_796 iX11_ahead (lL_92 rfl) (rcv cls11 (congrArg Prod.fst s_0)) (by decide) (c_X11_ahead ro (by decide) rfl (xs (k + 1)) (xs (k + 2))  hx0) (by decide) rfl (Nat.le_of_ble_eq_true rfl) ?_
  show WL K b cl sl 799 [(1, .ref 0), (2, .ref 130), (3, .ref 178), (4, .int (nI k))] [.int (F_X11_ahead (xs (k + 1)) (xs (k + 2)) A JA)] (mI (FI_X11_ahead (xs (k + 1)) (xs (k + 2)) A JA) B) (mJ (FJ_X11_ahead (xs (k + 1)) (xs (k + 2)) A JA) JB) R 179 g
  refine q_aload_n ok dL_law_799 1 rfl ?_
  refine q_sc (j := 1) ok sc dL_law_800 dL_law_801 dL_law_803 (by decide) dL_law_804 dL_law_805 3 rfl (by omega) ?_
  refine q_sc (j := 2) ok sc dL_law_806 dL_law_807 dL_law_809 (by decide) dL_law_810 dL_law_811 3 rfl (by omega) ?_
  refine q_m (As := [.int (xs (k + 1)), .int (xs (k + 2))]) ok dL_law_812 iX12_ahead (lL_95 rfl) (rcv cls12 (congrArg Prod.fst s_130)) (by decide) (c_X12_ahead rm (by decide) rfl (xs (k + 1)) (xs (k + 2))  hm0) (by decide) rfl (Nat.le_of_ble_eq_true rfl) ?_
  show WL K b cl sl 815 [(1, .ref 0), (2, .ref 130), (3, .ref 178), (4, .int (nI k))] [.int (F_X12_ahead (xs (k + 1)) (xs (k + 2)) B JB), .int (F_X11_ahead (xs (k + 1)) (xs (k + 2)) A JA)] (mI (FI_X11_ahead (xs (k + 1)) (xs (k + 2)) A JA) (FI_X12_ahead (xs (k + 1)) (xs (k + 2)) B JB)) (mJ (FJ_X11_ahead (xs (k + 1)) (xs (k + 2)) A JA) (FJ_X12_ahead (xs (k + 1)) (xs (k + 2)) B JB)) R 179 g
  refine q_icmp_eq (tgt := 1411) ok dL_law_815 (by decide) (fun _ => ?_) (fun h => absurd he h)
  exact kk
set_option maxHeartbeats 2000000 in
set_option maxRecDepth 40000 in
theorem law_c16 {K : KT} {b L k g cl sl : Nat} {xs : Nat → Int32} {A B : SI} {JA JB : SJ} {R : SR} (ok : OK K mL_law 1000) (sc : Sc K b L xs) (ro : RO R) (rm : RM R) (hk6 : k + 5 < L) (hm0 : H_X12_breaks  B JB) (he : (F_X11_breaks  A JA) = (F_X12_breaks  B JB)) (kk : WL K b cl sl 1411 [(1, .ref 0), (2, .ref 130), (3, .ref 178), (4, .int (nI k))] [] (mI A (FI_X12_breaks  B JB)) (mJ JA JB) R 179 g) : WL K b cl sl 820 [(1, .ref 0), (2, .ref 130), (3, .ref 178), (4, .int (nI k))] [] (mI A B) (mJ JA JB) R 179 g := by
  refine q_aload_n ok dL_law_820 0 rfl ?_
  refine q_x (As := []) ok dL_law_821 iX11_breaks (lL_96 rfl) (rcv cls11 (congrArg Prod.fst s_0)) (by decide) (c_X11_breaks ro (by decide) rfl  ) (by decide) rfl (Nat.le_of_ble_eq_true rfl) ?_
  show WL K b cl sl 824 [(1, .ref 0), (2, .ref 130), (3, .ref 178), (4, .int (nI k))] [.int (F_X11_breaks  A JA)] (mI A B) (mJ JA JB) R 179 g
  refine q_aload_n ok dL_law_824 1 rfl ?_
  refine q_m (As := []) ok dL_law_825 iX12_breaks (lL_99 rfl) (rcv cls12 (congrArg Prod.fst s_130)) (by decide) (c_X12_breaks rm (by decide) rfl   hm0) (by decide) rfl (Nat.le_of_ble_eq_true rfl) ?_
  show WL K b cl sl 828 [(1, .ref 0), (2, .ref 130), (3, .ref 178), (4, .int (nI k))] [.int (F_X12_breaks  B JB), .int (F_X11_breaks  A JA)] (mI A (FI_X12_breaks  B JB)) (mJ JA JB) R 179 g
  refine q_icmp_eq (tgt := 1411) ok dL_law_828 (by decide) (fun _ => ?_) (fun h => absurd he h)
  exact kk
set_option maxHeartbeats 2000000 in
set_option maxRecDepth 40000 in
theorem law_c17 {K : KT} {b L k g cl sl : Nat} {xs : Nat → Int32} {A B : SI} {JA JB : SJ} {R : SR} (ok : OK K mL_law 1000) (sc : Sc K b L xs) (ro : RO R) (rm : RM R) (hk6 : k + 5 < L) (hx0 : H_X11_agrees  A JA) (hm0 : H_X12_agrees  B JB) (he : (F_X11_agrees  A JA) = (F_X12_agrees  B JB)) (kk : WL K b cl sl 1411 [(1, .ref 0), (2, .ref 130), (3, .ref 178), (4, .int (nI k))] [] (mI (FI_X11_agrees  A JA) (FI_X12_agrees  B JB)) (mJ (FJ_X11_agrees  A JA) (FJ_X12_agrees  B JB)) R 179 g) : WL K b cl sl 833 [(1, .ref 0), (2, .ref 130), (3, .ref 178), (4, .int (nI k))] [] (mI A B) (mJ JA JB) R 179 g := by
  refine q_aload_n ok dL_law_833 0 rfl ?_
  refine q_x (As := []) ok dL_law_834 iX11_agrees (lL_100 rfl) (rcv cls11 (congrArg Prod.fst s_0)) (by decide) (c_X11_agrees ro (by decide) rfl   hx0) (by decide) rfl (Nat.le_of_ble_eq_true rfl) ?_
  show WL K b cl sl 837 [(1, .ref 0), (2, .ref 130), (3, .ref 178), (4, .int (nI k))] [.int (F_X11_agrees  A JA)] (mI (FI_X11_agrees  A JA) B) (mJ (FJ_X11_agrees  A JA) JB) R 179 g
  refine q_aload_n ok dL_law_837 1 rfl ?_
  refine q_m (As := []) ok dL_law_838 iX12_agrees (lL_103 rfl) (rcv cls12 (congrArg Prod.fst s_130)) (by decide) (c_X12_agrees rm (by decide) rfl   hm0) (by decide) rfl (Nat.le_of_ble_eq_true rfl) ?_
  show WL K b cl sl 841 [(1, .ref 0), (2, .ref 130), (3, .ref 178), (4, .int (nI k))] [.int (F_X12_agrees  B JB), .int (F_X11_agrees  A JA)] (mI (FI_X11_agrees  A JA) (FI_X12_agrees  B JB)) (mJ (FJ_X11_agrees  A JA) (FJ_X12_agrees  B JB)) R 179 g
  refine q_icmp_eq (tgt := 1411) ok dL_law_841 (by decide) (fun _ => ?_) (fun h => absurd he h)
  exact kk
set_option maxHeartbeats 2000000 in
set_option maxRecDepth 40000 in
theorem law_c18 {K : KT} {b L k g cl sl : Nat} {xs : Nat → Int32} {A B : SI} {JA JB : SJ} {R : SR} (ok : OK K mL_law 1000) (sc : Sc K b L xs) (ro : RO R) (rm : RM R) (hk6 : k + 5 < L) (hx0 : H_X11_least (xs (k + 1)) A JA) (hm0 : H_X12_least (xs (k + 1)) B JB) (he : (F_X11_least (xs (k + 1)) A JA) = (F_X12_least (xs (k + 1)) B JB)) (kk : WL K b cl sl 1411 [(1, .ref 0), (2, .ref 130), (3, .ref 178), (4, .int (nI k))] [] (mI (FI_X11_least (xs (k + 1)) A JA) (FI_X12_least (xs (k + 1)) B JB)) (mJ (FJ_X11_least (xs (k + 1)) A JA) (FJ_X12_least (xs (k + 1)) B JB)) R 179 g) : WL K b cl sl 846 [(1, .ref 0), (2, .ref 130), (3, .ref 178), (4, .int (nI k))] [] (mI A B) (mJ JA JB) R 179 g := by
  refine q_aload_n ok dL_law_846 0 rfl ?_
  refine q_sc (j := 1) ok sc dL_law_847 dL_law_848 dL_law_850 (by decide) dL_law_851 dL_law_852 3 rfl (by omega) ?_
  refine q_x (As := [.int (xs (k + 1))]) ok dL_law_853 iX11_least (lL_104 rfl) (rcv cls11 (congrArg Prod.fst s_0)) (by decide) (c_X11_least ro (by decide) rfl (xs (k + 1))  hx0) (by decide) rfl (Nat.le_of_ble_eq_true rfl) ?_
  show WL K b cl sl 856 [(1, .ref 0), (2, .ref 130), (3, .ref 178), (4, .int (nI k))] [.int (F_X11_least (xs (k + 1)) A JA)] (mI (FI_X11_least (xs (k + 1)) A JA) B) (mJ (FJ_X11_least (xs (k + 1)) A JA) JB) R 179 g
  refine q_aload_n ok dL_law_856 1 rfl ?_
  refine q_sc (j := 1) ok sc dL_law_857 dL_law_858 dL_law_860 (by decide) dL_law_861 dL_law_862 3 rfl (by omega) ?_
  refine q_m (As := [.int (xs (k + 1))]) ok dL_law_863 iX12_least (lL_107 rfl) (rcv cls12 (congrArg Prod.fst s_130)) (by decide) (c_X12_least rm (by decide) rfl (xs (k + 1))  hm0) (by decide) rfl (Nat.le_of_ble_eq_true rfl) ?_
  show WL K b cl sl 866 [(1, .ref 0), (2, .ref 130), (3, .ref 178), (4, .int (nI k))] [.int (F_X12_least (xs (k + 1)) B JB), .int (F_X11_least (xs (k + 1)) A JA)] (mI (FI_X11_least (xs (k + 1)) A JA) (FI_X12_least (xs (k + 1)) B JB)) (mJ (FJ_X11_least (xs (k + 1)) A JA) (FJ_X12_least (xs (k + 1)) B JB)) R 179 g
  refine q_icmp_eq (tgt := 1411) ok dL_law_866 (by decide) (fun _ => ?_) (fun h => absurd he h)
  exact kk
set_option maxHeartbeats 2000000 in
set_option maxRecDepth 40000 in
theorem law_c19 {K : KT} {b L k g cl sl : Nat} {xs : Nat → Int32} {A B : SI} {JA JB : SJ} {R : SR} (ok : OK K mL_law 1000) (sc : Sc K b L xs) (ro : RO R) (rm : RM R) (hk6 : k + 5 < L) (hx0 : H_X11_order (xs (k + 1)) A JA) (hm0 : H_X12_order (xs (k + 1)) B JB) (he : (F_X11_order (xs (k + 1)) A JA) = (F_X12_order (xs (k + 1)) B JB)) (kk : WL K b cl sl 1411 [(1, .ref 0), (2, .ref 130), (3, .ref 178), (4, .int (nI k))] [] (mI (FI_X11_order (xs (k + 1)) A JA) (FI_X12_order (xs (k + 1)) B JB)) (mJ (FJ_X11_order (xs (k + 1)) A JA) (FJ_X12_order (xs (k + 1)) B JB)) R 179 g) : WL K b cl sl 871 [(1, .ref 0), (2, .ref 130), (3, .ref 178), (4, .int (nI k))] [] (mI A B) (mJ JA JB) R 179 g := by
  refine q_aload_n ok dL_law_871 0 rfl ?_
  refine q_sc (j := 1) ok sc dL_law_872 dL_law_873 dL_law_875 (by decide) dL_law_876 dL_law_877 3 rfl (by omega) ?_
  refine q_x (As := [.int (xs (k + 1))]) ok dL_law_878 iX11_order (lL_108 rfl) (rcv cls11 (congrArg Prod.fst s_0)) (by decide) (c_X11_order ro (by decide) rfl (xs (k + 1))  hx0) (by decide) rfl (Nat.le_of_ble_eq_true rfl) ?_
  show WL K b cl sl 881 [(1, .ref 0), (2, .ref 130), (3, .ref 178), (4, .int (nI k))] [.int (F_X11_order (xs (k + 1)) A JA)] (mI (FI_X11_order (xs (k + 1)) A JA) B) (mJ (FJ_X11_order (xs (k + 1)) A JA) JB) R 179 g
  refine q_aload_n ok dL_law_881 1 rfl ?_
  refine q_sc (j := 1) ok sc dL_law_882 dL_law_883 dL_law_885 (by decide) dL_law_886 dL_law_887 3 rfl (by omega) ?_
  refine q_m (As := [.int (xs (k + 1))]) ok dL_law_888 iX12_order (lL_111 rfl) (rcv cls12 (congrArg Prod.fst s_130)) (by decide) (c_X12_order rm (by decide) rfl (xs (k + 1))  hm0) (by decide) rfl (Nat.le_of_ble_eq_true rfl) ?_
  show WL K b cl sl 891 [(1, .ref 0), (2, .ref 130), (3, .ref 178), (4, .int (nI k))] [.int (F_X12_order (xs (k + 1)) B JB), .int (F_X11_order (xs (k + 1)) A JA)] (mI (FI_X11_order (xs (k + 1)) A JA) (FI_X12_order (xs (k + 1)) B JB)) (mJ (FJ_X11_order (xs (k + 1)) A JA) (FJ_X12_order (xs (k + 1)) B JB)) R 179 g
  refine q_icmp_eq (tgt := 1411) ok dL_law_891 (by decide) (fun _ => ?_) (fun h => absurd he h)
  exact kk
set_option maxHeartbeats 2000000 in
set_option maxRecDepth 40000 in
theorem law_c20 {K : KT} {b L k g cl sl : Nat} {xs : Nat → Int32} {A B : SI} {JA JB : SJ} {R : SR} (ok : OK K mL_law 1000) (sc : Sc K b L xs) (ro : RO R) (rm : RM R) (hk6 : k + 5 < L) (hm0 : H_X12_noted  B JB) (he : (F_X11_noted  A JA) = (F_X12_noted  B JB)) (kk : WL K b cl sl 1411 [(1, .ref 0), (2, .ref 130), (3, .ref 178), (4, .int (nI k))] [] (mI A (FI_X12_noted  B JB)) (mJ JA JB) R 179 g) : WL K b cl sl 896 [(1, .ref 0), (2, .ref 130), (3, .ref 178), (4, .int (nI k))] [] (mI A B) (mJ JA JB) R 179 g := by
  refine q_aload_n ok dL_law_896 0 rfl ?_
  refine q_x (As := []) ok dL_law_897 iX11_noted (lL_112 rfl) (rcv cls11 (congrArg Prod.fst s_0)) (by decide) (c_X11_noted ro (by decide) rfl  ) (by decide) rfl (Nat.le_of_ble_eq_true rfl) ?_
  show WL K b cl sl 900 [(1, .ref 0), (2, .ref 130), (3, .ref 178), (4, .int (nI k))] [.int (F_X11_noted  A JA)] (mI A B) (mJ JA JB) R 179 g
  refine q_aload_n ok dL_law_900 1 rfl ?_
  refine q_m (As := []) ok dL_law_901 iX12_noted (lL_115 rfl) (rcv cls12 (congrArg Prod.fst s_130)) (by decide) (c_X12_noted rm (by decide) rfl   hm0) (by decide) rfl (Nat.le_of_ble_eq_true rfl) ?_
  show WL K b cl sl 904 [(1, .ref 0), (2, .ref 130), (3, .ref 178), (4, .int (nI k))] [.int (F_X12_noted  B JB), .int (F_X11_noted  A JA)] (mI A (FI_X12_noted  B JB)) (mJ JA JB) R 179 g
  refine q_icmp_eq (tgt := 1411) ok dL_law_904 (by decide) (fun _ => ?_) (fun h => absurd he h)
  exact kk
set_option maxHeartbeats 2000000 in
set_option maxRecDepth 40000 in
theorem law_c21 {K : KT} {b L k g cl sl : Nat} {xs : Nat → Int32} {A B : SI} {JA JB : SJ} {R : SR} (ok : OK K mL_law 1000) (sc : Sc K b L xs) (ro : RO R) (rm : RM R) (hk6 : k + 5 < L) (hx0 : H_X11_bribe (xs (k + 1)) A JA) (hm0 : H_X12_bribe (xs (k + 1)) B JB) (he : (F_X11_bribe (xs (k + 1)) A JA) = (F_X12_bribe (xs (k + 1)) B JB)) (kk : WL K b cl sl 1411 [(1, .ref 0), (2, .ref 130), (3, .ref 178), (4, .int (nI k))] [] (mI (FI_X11_bribe (xs (k + 1)) A JA) (FI_X12_bribe (xs (k + 1)) B JB)) (mJ (FJ_X11_bribe (xs (k + 1)) A JA) (FJ_X12_bribe (xs (k + 1)) B JB)) R 179 g) : WL K b cl sl 909 [(1, .ref 0), (2, .ref 130), (3, .ref 178), (4, .int (nI k))] [] (mI A B) (mJ JA JB) R 179 g := by
  refine q_aload_n ok dL_law_909 0 rfl ?_
  refine q_sc (j := 1) ok sc dL_law_910 dL_law_911 dL_law_913 (by decide) dL_law_914 dL_law_915 3 rfl (by omega) ?_
  refine q_x (As := [.int (xs (k + 1))]) ok dL_law_916 iX11_bribe (lL_116 rfl) (rcv cls11 (congrArg Prod.fst s_0)) (by decide) (c_X11_bribe ro (by decide) rfl (xs (k + 1))  hx0) (by decide) rfl (Nat.le_of_ble_eq_true rfl) ?_
  show WL K b cl sl 919 [(1, .ref 0), (2, .ref 130), (3, .ref 178), (4, .int (nI k))] [.int (F_X11_bribe (xs (k + 1)) A JA)] (mI (FI_X11_bribe (xs (k + 1)) A JA) B) (mJ (FJ_X11_bribe (xs (k + 1)) A JA) JB) R 179 g
  refine q_aload_n ok dL_law_919 1 rfl ?_
  refine q_sc (j := 1) ok sc dL_law_920 dL_law_921 dL_law_923 (by decide) dL_law_924 dL_law_925 3 rfl (by omega) ?_
  refine q_m (As := [.int (xs (k + 1))]) ok dL_law_926 iX12_bribe (lL_119 rfl) (rcv cls12 (congrArg Prod.fst s_130)) (by decide) (c_X12_bribe rm (by decide) rfl (xs (k + 1))  hm0) (by decide) rfl (Nat.le_of_ble_eq_true rfl) ?_
  show WL K b cl sl 929 [(1, .ref 0), (2, .ref 130), (3, .ref 178), (4, .int (nI k))] [.int (F_X12_bribe (xs (k + 1)) B JB), .int (F_X11_bribe (xs (k + 1)) A JA)] (mI (FI_X11_bribe (xs (k + 1)) A JA) (FI_X12_bribe (xs (k + 1)) B JB)) (mJ (FJ_X11_bribe (xs (k + 1)) A JA) (FJ_X12_bribe (xs (k + 1)) B JB)) R 179 g
  refine q_icmp_eq (tgt := 1411) ok dL_law_929 (by decide) (fun _ => ?_) (fun h => absurd he h)
  exact kk
set_option maxHeartbeats 2000000 in
set_option maxRecDepth 40000 in
theorem law_c22 {K : KT} {b L k g cl sl : Nat} {xs : Nat → Int32} {A B : SI} {JA JB : SJ} {R : SR} (ok : OK K mL_law 1000) (sc : Sc K b L xs) (ro : RO R) (rm : RM R) (hk6 : k + 5 < L) (hm0 : H_X12_rests (xs (k + 1)) (xs (k + 2)) B JB) (he : (F_X11_rests (xs (k + 1)) (xs (k + 2)) A JA) = (F_X12_rests (xs (k + 1)) (xs (k + 2)) B JB)) (kk : WL K b cl sl 1411 [(1, .ref 0), (2, .ref 130), (3, .ref 178), (4, .int (nI k))] [] (mI A (FI_X12_rests (xs (k + 1)) (xs (k + 2)) B JB)) (mJ JA JB) R 179 g) : WL K b cl sl 934 [(1, .ref 0), (2, .ref 130), (3, .ref 178), (4, .int (nI k))] [] (mI A B) (mJ JA JB) R 179 g := by
  refine q_aload_n ok dL_law_934 0 rfl ?_
  refine q_sc (j := 1) ok sc dL_law_935 dL_law_936 dL_law_938 (by decide) dL_law_939 dL_law_940 3 rfl (by omega) ?_
  refine q_sc (j := 2) ok sc dL_law_941 dL_law_942 dL_law_944 (by decide) dL_law_945 dL_law_946 3 rfl (by omega) ?_
  refine q_x (As := [.int (xs (k + 1)), .int (xs (k + 2))]) ok dL_law_947 iX11_rests (lL_120 rfl) (rcv cls11 (congrArg Prod.fst s_0)) (by decide) (c_X11_rests ro (by decide) rfl (xs (k + 1)) (xs (k + 2)) ) (by decide) rfl (Nat.le_of_ble_eq_true rfl) ?_
  show WL K b cl sl 950 [(1, .ref 0), (2, .ref 130), (3, .ref 178), (4, .int (nI k))] [.int (F_X11_rests (xs (k + 1)) (xs (k + 2)) A JA)] (mI A B) (mJ JA JB) R 179 g
  refine q_aload_n ok dL_law_950 1 rfl ?_
  refine q_sc (j := 1) ok sc dL_law_951 dL_law_952 dL_law_954 (by decide) dL_law_955 dL_law_956 3 rfl (by omega) ?_
  refine q_sc (j := 2) ok sc dL_law_957 dL_law_958 dL_law_960 (by decide) dL_law_961 dL_law_962 3 rfl (by omega) ?_
  refine q_m (As := [.int (xs (k + 1)), .int (xs (k + 2))]) ok dL_law_963 iX12_rests (lL_123 rfl) (rcv cls12 (congrArg Prod.fst s_130)) (by decide) (c_X12_rests rm (by decide) rfl (xs (k + 1)) (xs (k + 2))  hm0) (by decide) rfl (Nat.le_of_ble_eq_true rfl) ?_
  show WL K b cl sl 966 [(1, .ref 0), (2, .ref 130), (3, .ref 178), (4, .int (nI k))] [.int (F_X12_rests (xs (k + 1)) (xs (k + 2)) B JB), .int (F_X11_rests (xs (k + 1)) (xs (k + 2)) A JA)] (mI A (FI_X12_rests (xs (k + 1)) (xs (k + 2)) B JB)) (mJ JA JB) R 179 g
  refine q_icmp_eq (tgt := 1411) ok dL_law_966 (by decide) (fun _ => ?_) (fun h => absurd he h)
  exact kk
set_option maxHeartbeats 2000000 in
set_option maxRecDepth 40000 in
theorem law_c23 {K : KT} {b L k g cl sl : Nat} {xs : Nat → Int32} {A B : SI} {JA JB : SJ} {R : SR} (ok : OK K mL_law 1000) (sc : Sc K b L xs) (ro : RO R) (rm : RM R) (hk6 : k + 5 < L) (hm0 : H_X12_rest (xs (k + 1)) (xs (k + 2)) (xs (k + 3)) B JB) (he : (F_X11_rest (xs (k + 1)) (xs (k + 2)) (xs (k + 3)) A JA) = (F_X12_rest (xs (k + 1)) (xs (k + 2)) (xs (k + 3)) B JB)) (kk : WL K b cl sl 1411 [(1, .ref 0), (2, .ref 130), (3, .ref 178), (4, .int (nI k))] [] (mI A (FI_X12_rest (xs (k + 1)) (xs (k + 2)) (xs (k + 3)) B JB)) (mJ JA JB) R 179 g) : WL K b cl sl 971 [(1, .ref 0), (2, .ref 130), (3, .ref 178), (4, .int (nI k))] [] (mI A B) (mJ JA JB) R 179 g := by
  refine q_aload_n ok dL_law_971 0 rfl ?_
  refine q_sc (j := 1) ok sc dL_law_972 dL_law_973 dL_law_975 (by decide) dL_law_976 dL_law_977 3 rfl (by omega) ?_
  refine q_sc (j := 2) ok sc dL_law_978 dL_law_979 dL_law_981 (by decide) dL_law_982 dL_law_983 3 rfl (by omega) ?_
  refine q_sc (j := 3) ok sc dL_law_984 dL_law_985 dL_law_987 (by decide) dL_law_988 dL_law_989 3 rfl (by omega) ?_
  refine q_x (As := [.int (xs (k + 1)), .int (xs (k + 2)), .int (xs (k + 3))]) ok dL_law_990 iX11_rest (lL_124 rfl) (rcv cls11 (congrArg Prod.fst s_0)) (by decide) (c_X11_rest ro (by decide) rfl (xs (k + 1)) (xs (k + 2)) (xs (k + 3)) ) (by decide) rfl (Nat.le_of_ble_eq_true rfl) ?_
  show WL K b cl sl 993 [(1, .ref 0), (2, .ref 130), (3, .ref 178), (4, .int (nI k))] [.int (F_X11_rest (xs (k + 1)) (xs (k + 2)) (xs (k + 3)) A JA)] (mI A B) (mJ JA JB) R 179 g
  refine q_aload_n ok dL_law_993 1 rfl ?_
  refine q_sc (j := 1) ok sc dL_law_994 dL_law_995 dL_law_997 (by decide) dL_law_998 dL_law_999 3 rfl (by omega) ?_
  refine q_sc (j := 2) ok sc dL_law_1000 dL_law_1001 dL_law_1003 (by decide) dL_law_1004 dL_law_1005 3 rfl (by omega) ?_
  refine q_sc (j := 3) ok sc dL_law_1006 dL_law_1007 dL_law_1009 (by decide) dL_law_1010 dL_law_1011 3 rfl (by omega) ?_
  refine q_m (As := [.int (xs (k + 1)), .int (xs (k + 2)), .int (xs (k + 3))]) ok dL_law_1012 iX12_rest (lL_128 rfl) (rcv cls12 (congrArg Prod.fst s_130)) (by decide) (c_X12_rest rm (by decide) rfl (xs (k + 1)) (xs (k + 2)) (xs (k + 3))  hm0) (by decide) rfl (Nat.le_of_ble_eq_true rfl) ?_
  show WL K b cl sl 1015 [(1, .ref 0), (2, .ref 130), (3, .ref 178), (4, .int (nI k))] [.int (F_X12_rest (xs (k + 1)) (xs (k + 2)) (xs (k + 3)) B JB), .int (F_X11_rest (xs (k + 1)) (xs (k + 2)) (xs (k + 3)) A JA)] (mI A (FI_X12_rest (xs (k + 1)) (xs (k + 2)) (xs (k + 3)) B JB)) (mJ JA JB) R 179 g
  refine q_icmp_eq (tgt := 1411) ok dL_law_1015 (by decide) (fun _ => ?_) (fun h => absurd he h)
  exact kk
set_option maxHeartbeats 2000000 in
set_option maxRecDepth 40000 in
theorem law_c24 {K : KT} {b L k g cl sl : Nat} {xs : Nat → Int32} {A B : SI} {JA JB : SJ} {R : SR} (ok : OK K mL_law 1000) (sc : Sc K b L xs) (ro : RO R) (rm : RM R) (hk6 : k + 5 < L) (hx0 : H_X11_there (xs (k + 1)) (xs (k + 2)) A JA) (hm0 : H_X12_there (xs (k + 1)) (xs (k + 2)) B JB) (he : (F_X11_there (xs (k + 1)) (xs (k + 2)) A JA) = (F_X12_there (xs (k + 1)) (xs (k + 2)) B JB)) (kk : WL K b cl sl 1411 [(1, .ref 0), (2, .ref 130), (3, .ref 178), (4, .int (nI k))] [] (mI A (FI_X12_there (xs (k + 1)) (xs (k + 2)) B JB)) (mJ JA JB) R 179 g) : WL K b cl sl 1020 [(1, .ref 0), (2, .ref 130), (3, .ref 178), (4, .int (nI k))] [] (mI A B) (mJ JA JB) R 179 g := by
  refine q_aload_n ok dL_law_1020 0 rfl ?_
  refine q_sc (j := 1) ok sc dL_law_1021 dL_law_1022 dL_law_1024 (by decide) dL_law_1025 dL_law_1026 3 rfl (by omega) ?_
  refine q_sc (j := 2) ok sc dL_law_1027 dL_law_1028 dL_law_1030 (by decide) dL_law_1031 dL_law_1032 3 rfl (by omega) ?_
  refine q_x (As := [.int (xs (k + 1)), .int (xs (k + 2))]) ok dL_law_1033 iX11_there (lL_129 rfl) (rcv cls11 (congrArg Prod.fst s_0)) (by decide) (c_X11_there ro (by decide) rfl (xs (k + 1)) (xs (k + 2))  hx0) (by decide) rfl (Nat.le_of_ble_eq_true rfl) ?_
  show WL K b cl sl 1036 [(1, .ref 0), (2, .ref 130), (3, .ref 178), (4, .int (nI k))] [.long (F_X11_there (xs (k + 1)) (xs (k + 2)) A JA)] (mI A B) (mJ JA JB) R 179 g
  refine q_aload_n ok dL_law_1036 1 rfl ?_
  refine q_sc (j := 1) ok sc dL_law_1037 dL_law_1038 dL_law_1040 (by decide) dL_law_1041 dL_law_1042 3 rfl (by omega) ?_
  refine q_sc (j := 2) ok sc dL_law_1043 dL_law_1044 dL_law_1046 (by decide) dL_law_1047 dL_law_1048 3 rfl (by omega) ?_
  refine q_m (As := [.int (xs (k + 1)), .int (xs (k + 2))]) ok dL_law_1049 iX12_there (lL_133 rfl) (rcv cls12 (congrArg Prod.fst s_130)) (by decide) (c_X12_there rm (by decide) rfl (xs (k + 1)) (xs (k + 2))  hm0) (by decide) rfl (Nat.le_of_ble_eq_true rfl) ?_
  show WL K b cl sl 1052 [(1, .ref 0), (2, .ref 130), (3, .ref 178), (4, .int (nI k))] [.long (F_X12_there (xs (k + 1)) (xs (k + 2)) B JB), .long (F_X11_there (xs (k + 1)) (xs (k + 2)) A JA)] (mI A (FI_X12_there (xs (k + 1)) (xs (k + 2)) B JB)) (mJ JA JB) R 179 g
  refine q_lcmp ok dL_law_1052 ?_
  refine q_if_eq (tgt := 1411) ok dL_law_1053 (by decide) (fun _ => ?_) (fun h => absurd (cmp0 he) h)
  exact kk
set_option maxHeartbeats 2000000 in
set_option maxRecDepth 40000 in
theorem law_c25 {K : KT} {b L k g cl sl : Nat} {xs : Nat → Int32} {A B : SI} {JA JB : SJ} {R : SR} (ok : OK K mL_law 1000) (sc : Sc K b L xs) (ro : RO R) (rm : RM R) (hk6 : k + 5 < L) (hx0 : H_X11_without (xs (k + 1)) A JA) (hm0 : H_X12_without (xs (k + 1)) B JB) (he : (F_X11_without (xs (k + 1)) A JA) = (F_X12_without (xs (k + 1)) B JB)) (kk : WL K b cl sl 1411 [(1, .ref 0), (2, .ref 130), (3, .ref 178), (4, .int (nI k))] [] (mI (FI_X11_without (xs (k + 1)) A JA) (FI_X12_without (xs (k + 1)) B JB)) (mJ (FJ_X11_without (xs (k + 1)) A JA) (FJ_X12_without (xs (k + 1)) B JB)) R 179 g) : WL K b cl sl 1058 [(1, .ref 0), (2, .ref 130), (3, .ref 178), (4, .int (nI k))] [] (mI A B) (mJ JA JB) R 179 g := by
  refine q_aload_n ok dL_law_1058 0 rfl ?_
  refine q_sc (j := 1) ok sc dL_law_1059 dL_law_1060 dL_law_1062 (by decide) dL_law_1063 dL_law_1064 3 rfl (by omega) ?_
  refine q_x (As := [.int (xs (k + 1))]) ok dL_law_1065 iX11_without (lL_134 rfl) (rcv cls11 (congrArg Prod.fst s_0)) (by decide) (c_X11_without ro (by decide) rfl (xs (k + 1))  hx0) (by decide) rfl (Nat.le_of_ble_eq_true rfl) ?_
  show WL K b cl sl 1068 [(1, .ref 0), (2, .ref 130), (3, .ref 178), (4, .int (nI k))] [.int (F_X11_without (xs (k + 1)) A JA)] (mI (FI_X11_without (xs (k + 1)) A JA) B) (mJ (FJ_X11_without (xs (k + 1)) A JA) JB) R 179 g
  refine q_aload_n ok dL_law_1068 1 rfl ?_
  refine q_sc (j := 1) ok sc dL_law_1069 dL_law_1070 dL_law_1072 (by decide) dL_law_1073 dL_law_1074 3 rfl (by omega) ?_
  refine q_m (As := [.int (xs (k + 1))]) ok dL_law_1075 iX12_without (lL_137 rfl) (rcv cls12 (congrArg Prod.fst s_130)) (by decide) (c_X12_without rm (by decide) rfl (xs (k + 1))  hm0) (by decide) rfl (Nat.le_of_ble_eq_true rfl) ?_
  show WL K b cl sl 1078 [(1, .ref 0), (2, .ref 130), (3, .ref 178), (4, .int (nI k))] [.int (F_X12_without (xs (k + 1)) B JB), .int (F_X11_without (xs (k + 1)) A JA)] (mI (FI_X11_without (xs (k + 1)) A JA) (FI_X12_without (xs (k + 1)) B JB)) (mJ (FJ_X11_without (xs (k + 1)) A JA) (FJ_X12_without (xs (k + 1)) B JB)) R 179 g
  refine q_icmp_eq (tgt := 1411) ok dL_law_1078 (by decide) (fun _ => ?_) (fun h => absurd he h)
  exact kk
set_option maxHeartbeats 2000000 in
set_option maxRecDepth 40000 in
theorem law_c26 {K : KT} {b L k g cl sl : Nat} {xs : Nat → Int32} {A B : SI} {JA JB : SJ} {R : SR} (ok : OK K mL_law 1000) (sc : Sc K b L xs) (ro : RO R) (rm : RM R) (hk6 : k + 5 < L) (hm0 : H_X12_run  B JB) (he : (F_X11_run  A JA) = (F_X12_run  B JB)) (kk : WL K b cl sl 1411 [(1, .ref 0), (2, .ref 130), (3, .ref 178), (4, .int (nI k))] [] (mI A (FI_X12_run  B JB)) (mJ JA JB) R 179 g) : WL K b cl sl 1083 [(1, .ref 0), (2, .ref 130), (3, .ref 178), (4, .int (nI k))] [] (mI A B) (mJ JA JB) R 179 g := by
  refine q_aload_n ok dL_law_1083 0 rfl ?_
  refine q_x (As := []) ok dL_law_1084 iX11_run (lL_138 rfl) (rcv cls11 (congrArg Prod.fst s_0)) (by decide) (c_X11_run ro (by decide) rfl  ) (by decide) rfl (Nat.le_of_ble_eq_true rfl) ?_
  show WL K b cl sl 1087 [(1, .ref 0), (2, .ref 130), (3, .ref 178), (4, .int (nI k))] [.int (F_X11_run  A JA)] (mI A B) (mJ JA JB) R 179 g
  refine q_aload_n ok dL_law_1087 1 rfl ?_
  refine q_m (As := []) ok dL_law_1088 iX12_run (lL_141 rfl) (rcv cls12 (congrArg Prod.fst s_130)) (by decide) (c_X12_run rm (by decide) rfl   hm0) (by decide) rfl (Nat.le_of_ble_eq_true rfl) ?_
  show WL K b cl sl 1091 [(1, .ref 0), (2, .ref 130), (3, .ref 178), (4, .int (nI k))] [.int (F_X12_run  B JB), .int (F_X11_run  A JA)] (mI A (FI_X12_run  B JB)) (mJ JA JB) R 179 g
  refine q_icmp_eq (tgt := 1411) ok dL_law_1091 (by decide) (fun _ => ?_) (fun h => absurd he h)
  exact kk
set_option maxHeartbeats 2000000 in
set_option maxRecDepth 40000 in
theorem law_c27 {K : KT} {b L k g cl sl : Nat} {xs : Nat → Int32} {A B : SI} {JA JB : SJ} {R : SR} (ok : OK K mL_law 1000) (sc : Sc K b L xs) (ro : RO R) (rm : RM R) (hk6 : k + 5 < L) (hm0 : H_X12_believed  B JB) (he : (F_X11_believed  A JA) = (F_X12_believed  B JB)) (kk : WL K b cl sl 1411 [(1, .ref 0), (2, .ref 130), (3, .ref 178), (4, .int (nI k))] [] (mI A (FI_X12_believed  B JB)) (mJ JA JB) R 179 g) : WL K b cl sl 1096 [(1, .ref 0), (2, .ref 130), (3, .ref 178), (4, .int (nI k))] [] (mI A B) (mJ JA JB) R 179 g := by
  refine q_aload_n ok dL_law_1096 0 rfl ?_
  refine q_x (As := []) ok dL_law_1097 iX11_believed (lL_142 rfl) (rcv cls11 (congrArg Prod.fst s_0)) (by decide) (c_X11_believed ro (by decide) rfl  ) (by decide) rfl (Nat.le_of_ble_eq_true rfl) ?_
  show WL K b cl sl 1100 [(1, .ref 0), (2, .ref 130), (3, .ref 178), (4, .int (nI k))] [.int (F_X11_believed  A JA)] (mI A B) (mJ JA JB) R 179 g
  refine q_aload_n ok dL_law_1100 1 rfl ?_
  refine q_m (As := []) ok dL_law_1101 iX12_believed (lL_145 rfl) (rcv cls12 (congrArg Prod.fst s_130)) (by decide) (c_X12_believed rm (by decide) rfl   hm0) (by decide) rfl (Nat.le_of_ble_eq_true rfl) ?_
  show WL K b cl sl 1104 [(1, .ref 0), (2, .ref 130), (3, .ref 178), (4, .int (nI k))] [.int (F_X12_believed  B JB), .int (F_X11_believed  A JA)] (mI A (FI_X12_believed  B JB)) (mJ JA JB) R 179 g
  refine q_icmp_eq (tgt := 1411) ok dL_law_1104 (by decide) (fun _ => ?_) (fun h => absurd he h)
  exact kk
set_option maxHeartbeats 2000000 in
set_option maxRecDepth 40000 in
theorem law_c28 {K : KT} {b L k g cl sl : Nat} {xs : Nat → Int32} {A B : SI} {JA JB : SJ} {R : SR} (ok : OK K mL_law 1000) (sc : Sc K b L xs) (ro : RO R) (rm : RM R) (hk6 : k + 5 < L) (hm0 : H_X12_see (xs (k + 1)) (xs (k + 2)) (bz (xs (k + 3))) B JB) (he : (F_X11_see (xs (k + 1)) (xs (k + 2)) (bz (xs (k + 3))) A JA) = (F_X12_see (xs (k + 1)) (xs (k + 2)) (bz (xs (k + 3))) B JB)) (kk : WL K b cl sl 1411 [(1, .ref 0), (2, .ref 130), (3, .ref 178), (4, .int (nI k))] [] (mI (FI_X11_see (xs (k + 1)) (xs (k + 2)) (bz (xs (k + 3))) A JA) (FI_X12_see (xs (k + 1)) (xs (k + 2)) (bz (xs (k + 3))) B JB)) (mJ JA JB) R 179 g) : WL K b cl sl 1109 [(1, .ref 0), (2, .ref 130), (3, .ref 178), (4, .int (nI k))] [] (mI A B) (mJ JA JB) R 179 g := by
  refine q_aload_n ok dL_law_1109 0 rfl ?_
  refine q_sc (j := 1) ok sc dL_law_1110 dL_law_1111 dL_law_1113 (by decide) dL_law_1114 dL_law_1115 3 rfl (by omega) ?_
  refine q_sc (j := 2) ok sc dL_law_1116 dL_law_1117 dL_law_1119 (by decide) dL_law_1120 dL_law_1121 3 rfl (by omega) ?_
  refine q_sc (j := 3) ok sc dL_law_1122 dL_law_1123 dL_law_1125 (by decide) dL_law_1126 dL_law_1127 3 rfl (by omega) ?_
  refine q_bz (pc' := 0) ok dL_law_1128 dL_law_1131 dL_law_1132 dL_law_1135 (by decide) (by decide) ?_
  refine q_x (As := [.int (xs (k + 1)), .int (xs (k + 2)), .int (bz (xs (k + 3)))]) ok dL_law_1136 iX11_see (lL_146 rfl) (rcv cls11 (congrArg Prod.fst s_0)) (by decide) (c_X11_see ro (by decide) rfl (xs (k + 1)) (xs (k + 2)) (bz (xs (k + 3))) ) (by decide) rfl (Nat.le_of_ble_eq_true rfl) ?_
  show WL K b cl sl 1139 [(1, .ref 0), (2, .ref 130), (3, .ref 178), (4, .int (nI k))] [.int (F_X11_see (xs (k + 1)) (xs (k + 2)) (bz (xs (k + 3))) A JA)] (mI (FI_X11_see (xs (k + 1)) (xs (k + 2)) (bz (xs (k + 3))) A JA) B) (mJ JA JB) R 179 g
  refine q_aload_n ok dL_law_1139 1 rfl ?_
  refine q_sc (j := 1) ok sc dL_law_1140 dL_law_1141 dL_law_1143 (by decide) dL_law_1144 dL_law_1145 3 rfl (by omega) ?_
  refine q_sc (j := 2) ok sc dL_law_1146 dL_law_1147 dL_law_1149 (by decide) dL_law_1150 dL_law_1151 3 rfl (by omega) ?_
  refine q_sc (j := 3) ok sc dL_law_1152 dL_law_1153 dL_law_1155 (by decide) dL_law_1156 dL_law_1157 3 rfl (by omega) ?_
  refine q_bz (pc' := 0) ok dL_law_1158 dL_law_1161 dL_law_1162 dL_law_1165 (by decide) (by decide) ?_
  refine q_m (As := [.int (xs (k + 1)), .int (xs (k + 2)), .int (bz (xs (k + 3)))]) ok dL_law_1166 iX12_see (lL_150 rfl) (rcv cls12 (congrArg Prod.fst s_130)) (by decide) (c_X12_see rm (by decide) rfl (xs (k + 1)) (xs (k + 2)) (bz (xs (k + 3)))  hm0) (by decide) rfl (Nat.le_of_ble_eq_true rfl) ?_
  show WL K b cl sl 1169 [(1, .ref 0), (2, .ref 130), (3, .ref 178), (4, .int (nI k))] [.int (F_X12_see (xs (k + 1)) (xs (k + 2)) (bz (xs (k + 3))) B JB), .int (F_X11_see (xs (k + 1)) (xs (k + 2)) (bz (xs (k + 3))) A JA)] (mI (FI_X11_see (xs (k + 1)) (xs (k + 2)) (bz (xs (k + 3))) A JA) (FI_X12_see (xs (k + 1)) (xs (k + 2)) (bz (xs (k + 3))) B JB)) (mJ JA JB) R 179 g
  refine q_icmp_eq (tgt := 1411) ok dL_law_1169 (by decide) (fun _ => ?_) (fun h => absurd he h)
  exact kk
set_option maxHeartbeats 2000000 in
set_option maxRecDepth 40000 in
theorem law_c29 {K : KT} {b L k g cl sl : Nat} {xs : Nat → Int32} {A B : SI} {JA JB : SJ} {R : SR} (ok : OK K mL_law 1000) (sc : Sc K b L xs) (ro : RO R) (rm : RM R) (hk6 : k + 5 < L) (hm0 : H_X12_out (xs (k + 1)) B JB) (he : (F_X11_out (xs (k + 1)) A JA) = (F_X12_out (xs (k + 1)) B JB)) (kk : WL K b cl sl 1411 [(1, .ref 0), (2, .ref 130), (3, .ref 178), (4, .int (nI k))] [] (mI (FI_X11_out (xs (k + 1)) A JA) (FI_X12_out (xs (k + 1)) B JB)) (mJ JA JB) R 179 g) : WL K b cl sl 1174 [(1, .ref 0), (2, .ref 130), (3, .ref 178), (4, .int (nI k))] [] (mI A B) (mJ JA JB) R 179 g := by
  refine q_aload_n ok dL_law_1174 0 rfl ?_
  refine q_sc (j := 1) ok sc dL_law_1175 dL_law_1176 dL_law_1178 (by decide) dL_law_1179 dL_law_1180 3 rfl (by omega) ?_
  refine q_x (As := [.int (xs (k + 1))]) ok dL_law_1181 iX11_out (lL_151 rfl) (rcv cls11 (congrArg Prod.fst s_0)) (by decide) (c_X11_out ro (by decide) rfl (xs (k + 1)) ) (by decide) rfl (Nat.le_of_ble_eq_true rfl) ?_
  show WL K b cl sl 1184 [(1, .ref 0), (2, .ref 130), (3, .ref 178), (4, .int (nI k))] [.int (F_X11_out (xs (k + 1)) A JA)] (mI (FI_X11_out (xs (k + 1)) A JA) B) (mJ JA JB) R 179 g
  refine q_aload_n ok dL_law_1184 1 rfl ?_
  refine q_sc (j := 1) ok sc dL_law_1185 dL_law_1186 dL_law_1188 (by decide) dL_law_1189 dL_law_1190 3 rfl (by omega) ?_
  refine q_m (As := [.int (xs (k + 1))]) ok dL_law_1191 iX12_out (lL_154 rfl) (rcv cls12 (congrArg Prod.fst s_130)) (by decide) (c_X12_out rm (by decide) rfl (xs (k + 1))  hm0) (by decide) rfl (Nat.le_of_ble_eq_true rfl) ?_
  show WL K b cl sl 1194 [(1, .ref 0), (2, .ref 130), (3, .ref 178), (4, .int (nI k))] [.int (F_X12_out (xs (k + 1)) B JB), .int (F_X11_out (xs (k + 1)) A JA)] (mI (FI_X11_out (xs (k + 1)) A JA) (FI_X12_out (xs (k + 1)) B JB)) (mJ JA JB) R 179 g
  refine q_icmp_eq (tgt := 1411) ok dL_law_1194 (by decide) (fun _ => ?_) (fun h => absurd he h)
  exact kk
set_option maxHeartbeats 2000000 in
set_option maxRecDepth 40000 in
theorem law_c30 {K : KT} {b L k g cl sl : Nat} {xs : Nat → Int32} {A B : SI} {JA JB : SJ} {R : SR} (ok : OK K mL_law 1000) (sc : Sc K b L xs) (ro : RO R) (rm : RM R) (hk6 : k + 5 < L) (he : (F_X11_known (xs (k + 1)) A JA) = (F_X12_known (xs (k + 1)) B JB)) (kk : WL K b cl sl 1411 [(1, .ref 0), (2, .ref 130), (3, .ref 178), (4, .int (nI k))] [] (mI (FI_X11_known (xs (k + 1)) A JA) (FI_X12_known (xs (k + 1)) B JB)) (mJ JA JB) R 179 g) : WL K b cl sl 1199 [(1, .ref 0), (2, .ref 130), (3, .ref 178), (4, .int (nI k))] [] (mI A B) (mJ JA JB) R 179 g := by
  refine q_aload_n ok dL_law_1199 0 rfl ?_
  refine q_sc (j := 1) ok sc dL_law_1200 dL_law_1201 dL_law_1203 (by decide) dL_law_1204 dL_law_1205 3 rfl (by omega) ?_
  refine q_x (As := [.int (xs (k + 1))]) ok dL_law_1206 iX11_known (lL_155 rfl) (rcv cls11 (congrArg Prod.fst s_0)) (by decide) (c_X11_known ro (by decide) rfl (xs (k + 1)) ) (by decide) rfl (Nat.le_of_ble_eq_true rfl) ?_
  show WL K b cl sl 1209 [(1, .ref 0), (2, .ref 130), (3, .ref 178), (4, .int (nI k))] [.int (F_X11_known (xs (k + 1)) A JA)] (mI (FI_X11_known (xs (k + 1)) A JA) B) (mJ JA JB) R 179 g
  refine q_aload_n ok dL_law_1209 1 rfl ?_
  refine q_sc (j := 1) ok sc dL_law_1210 dL_law_1211 dL_law_1213 (by decide) dL_law_1214 dL_law_1215 3 rfl (by omega) ?_
  refine q_m (As := [.int (xs (k + 1))]) ok dL_law_1216 iX12_known (lL_158 rfl) (rcv cls12 (congrArg Prod.fst s_130)) (by decide) (c_X12_known rm (by decide) rfl (xs (k + 1)) ) (by decide) rfl (Nat.le_of_ble_eq_true rfl) ?_
  show WL K b cl sl 1219 [(1, .ref 0), (2, .ref 130), (3, .ref 178), (4, .int (nI k))] [.int (F_X12_known (xs (k + 1)) B JB), .int (F_X11_known (xs (k + 1)) A JA)] (mI (FI_X11_known (xs (k + 1)) A JA) (FI_X12_known (xs (k + 1)) B JB)) (mJ JA JB) R 179 g
  refine q_icmp_eq (tgt := 1411) ok dL_law_1219 (by decide) (fun _ => ?_) (fun h => absurd he h)
  exact kk
set_option maxHeartbeats 2000000 in
set_option maxRecDepth 40000 in
theorem law_c31 {K : KT} {b L k g cl sl : Nat} {xs : Nat → Int32} {A B : SI} {JA JB : SJ} {R : SR} (ok : OK K mL_law 1000) (sc : Sc K b L xs) (ro : RO R) (rm : RM R) (hk6 : k + 5 < L) (hx0 : H_X11_struckHow (xs (k + 1)) A JA) (hm0 : H_X12_struckHow (xs (k + 1)) B JB) (he : (F_X11_struckHow (xs (k + 1)) A JA) = (F_X12_struckHow (xs (k + 1)) B JB)) (kk : WL K b cl sl 1411 [(1, .ref 0), (2, .ref 130), (3, .ref 178), (4, .int (nI k))] [] (mI (FI_X11_struckHow (xs (k + 1)) A JA) (FI_X12_struckHow (xs (k + 1)) B JB)) (mJ (FJ_X11_struckHow (xs (k + 1)) A JA) (FJ_X12_struckHow (xs (k + 1)) B JB)) R 179 g) : WL K b cl sl 1224 [(1, .ref 0), (2, .ref 130), (3, .ref 178), (4, .int (nI k))] [] (mI A B) (mJ JA JB) R 179 g := by
  refine q_aload_n ok dL_law_1224 0 rfl ?_
  refine q_sc (j := 1) ok sc dL_law_1225 dL_law_1226 dL_law_1228 (by decide) dL_law_1229 dL_law_1230 3 rfl (by omega) ?_
  refine q_x (As := [.int (xs (k + 1))]) ok dL_law_1231 iX11_struckHow (lL_159 rfl) (rcv cls11 (congrArg Prod.fst s_0)) (by decide) (c_X11_struckHow ro (by decide) rfl (xs (k + 1))  hx0) (by decide) rfl (Nat.le_of_ble_eq_true rfl) ?_
  show WL K b cl sl 1234 [(1, .ref 0), (2, .ref 130), (3, .ref 178), (4, .int (nI k))] [.int (F_X11_struckHow (xs (k + 1)) A JA)] (mI (FI_X11_struckHow (xs (k + 1)) A JA) B) (mJ (FJ_X11_struckHow (xs (k + 1)) A JA) JB) R 179 g
  refine q_aload_n ok dL_law_1234 1 rfl ?_
  refine q_sc (j := 1) ok sc dL_law_1235 dL_law_1236 dL_law_1238 (by decide) dL_law_1239 dL_law_1240 3 rfl (by omega) ?_
  refine q_m (As := [.int (xs (k + 1))]) ok dL_law_1241 iX12_struckHow (lL_162 rfl) (rcv cls12 (congrArg Prod.fst s_130)) (by decide) (c_X12_struckHow rm (by decide) rfl (xs (k + 1))  hm0) (by decide) rfl (Nat.le_of_ble_eq_true rfl) ?_
  show WL K b cl sl 1244 [(1, .ref 0), (2, .ref 130), (3, .ref 178), (4, .int (nI k))] [.int (F_X12_struckHow (xs (k + 1)) B JB), .int (F_X11_struckHow (xs (k + 1)) A JA)] (mI (FI_X11_struckHow (xs (k + 1)) A JA) (FI_X12_struckHow (xs (k + 1)) B JB)) (mJ (FJ_X11_struckHow (xs (k + 1)) A JA) (FJ_X12_struckHow (xs (k + 1)) B JB)) R 179 g
  refine q_icmp_eq (tgt := 1411) ok dL_law_1244 (by decide) (fun _ => ?_) (fun h => absurd he h)
  exact kk
set_option maxHeartbeats 2000000 in
set_option maxRecDepth 40000 in
theorem law_c32 {K : KT} {b L k g cl sl : Nat} {xs : Nat → Int32} {A B : SI} {JA JB : SJ} {R : SR} (ok : OK K mL_law 1000) (sc : Sc K b L xs) (ro : RO R) (rm : RM R) (hk6 : k + 5 < L) (hx0 : H_X11_chance (xs (k + 1)) (xs (k + 2)) (xs (k + 3)) A JA) (hm0 : H_X12_chance (xs (k + 1)) (xs (k + 2)) (xs (k + 3)) B JB) (he : (F_X11_chance (xs (k + 1)) (xs (k + 2)) (xs (k + 3)) A JA) = (F_X12_chance (xs (k + 1)) (xs (k + 2)) (xs (k + 3)) B JB)) (kk : WL K b cl sl 1411 [(1, .ref 0), (2, .ref 130), (3, .ref 178), (4, .int (nI k))] [] (mI (FI_X11_chance (xs (k + 1)) (xs (k + 2)) (xs (k + 3)) A JA) (FI_X12_chance (xs (k + 1)) (xs (k + 2)) (xs (k + 3)) B JB)) (mJ (FJ_X11_chance (xs (k + 1)) (xs (k + 2)) (xs (k + 3)) A JA) (FJ_X12_chance (xs (k + 1)) (xs (k + 2)) (xs (k + 3)) B JB)) R 179 g) : WL K b cl sl 1249 [(1, .ref 0), (2, .ref 130), (3, .ref 178), (4, .int (nI k))] [] (mI A B) (mJ JA JB) R 179 g := by
  refine q_aload_n ok dL_law_1249 0 rfl ?_
  refine q_sc (j := 1) ok sc dL_law_1250 dL_law_1251 dL_law_1253 (by decide) dL_law_1254 dL_law_1255 3 rfl (by omega) ?_
  refine q_sc (j := 2) ok sc dL_law_1256 dL_law_1257 dL_law_1259 (by decide) dL_law_1260 dL_law_1261 3 rfl (by omega) ?_
  refine q_sc (j := 3) ok sc dL_law_1262 dL_law_1263 dL_law_1265 (by decide) dL_law_1266 dL_law_1267 3 rfl (by omega) ?_
  refine q_x (As := [.int (xs (k + 1)), .int (xs (k + 2)), .int (xs (k + 3))]) ok dL_law_1268 iX11_chance (lL_163 rfl) (rcv cls11 (congrArg Prod.fst s_0)) (by decide) (c_X11_chance ro (by decide) rfl (xs (k + 1)) (xs (k + 2)) (xs (k + 3))  hx0) (by decide) rfl (Nat.le_of_ble_eq_true rfl) ?_
  show WL K b cl sl 1271 [(1, .ref 0), (2, .ref 130), (3, .ref 178), (4, .int (nI k))] [.int (F_X11_chance (xs (k + 1)) (xs (k + 2)) (xs (k + 3)) A JA)] (mI (FI_X11_chance (xs (k + 1)) (xs (k + 2)) (xs (k + 3)) A JA) B) (mJ (FJ_X11_chance (xs (k + 1)) (xs (k + 2)) (xs (k + 3)) A JA) JB) R 179 g
  refine q_aload_n ok dL_law_1271 1 rfl ?_
  refine q_sc (j := 1) ok sc dL_law_1272 dL_law_1273 dL_law_1275 (by decide) dL_law_1276 dL_law_1277 3 rfl (by omega) ?_
  refine q_sc (j := 2) ok sc dL_law_1278 dL_law_1279 dL_law_1281 (by decide) dL_law_1282 dL_law_1283 3 rfl (by omega) ?_
  refine q_sc (j := 3) ok sc dL_law_1284 dL_law_1285 dL_law_1287 (by decide) dL_law_1288 dL_law_1289 3 rfl (by omega) ?_
  refine q_m (As := [.int (xs (k + 1)), .int (xs (k + 2)), .int (xs (k + 3))]) ok dL_law_1290 iX12_chance (lL_166 rfl) (rcv cls12 (congrArg Prod.fst s_130)) (by decide) (c_X12_chance rm (by decide) rfl (xs (k + 1)) (xs (k + 2)) (xs (k + 3))  hm0) (by decide) rfl (Nat.le_of_ble_eq_true rfl) ?_
  show WL K b cl sl 1293 [(1, .ref 0), (2, .ref 130), (3, .ref 178), (4, .int (nI k))] [.int (F_X12_chance (xs (k + 1)) (xs (k + 2)) (xs (k + 3)) B JB), .int (F_X11_chance (xs (k + 1)) (xs (k + 2)) (xs (k + 3)) A JA)] (mI (FI_X11_chance (xs (k + 1)) (xs (k + 2)) (xs (k + 3)) A JA) (FI_X12_chance (xs (k + 1)) (xs (k + 2)) (xs (k + 3)) B JB)) (mJ (FJ_X11_chance (xs (k + 1)) (xs (k + 2)) (xs (k + 3)) A JA) (FJ_X12_chance (xs (k + 1)) (xs (k + 2)) (xs (k + 3)) B JB)) R 179 g
  refine q_icmp_eq (tgt := 1411) ok dL_law_1293 (by decide) (fun _ => ?_) (fun h => absurd he h)
  exact kk
set_option maxHeartbeats 2000000 in
set_option maxRecDepth 40000 in
theorem law_c33 {K : KT} {b L k g cl sl : Nat} {xs : Nat → Int32} {A B : SI} {JA JB : SJ} {R : SR} (ok : OK K mL_law 1000) (sc : Sc K b L xs) (ro : RO R) (rm : RM R) (hk6 : k + 5 < L) (hx0 : H_X11_tried (xs (k + 1)) (xs (k + 2)) (xs (k + 3)) A JA) (hm0 : H_X12_tried (xs (k + 1)) (xs (k + 2)) (xs (k + 3)) B JB) (he : (F_X11_tried (xs (k + 1)) (xs (k + 2)) (xs (k + 3)) A JA) = (F_X12_tried (xs (k + 1)) (xs (k + 2)) (xs (k + 3)) B JB)) (kk : WL K b cl sl 1411 [(1, .ref 0), (2, .ref 130), (3, .ref 178), (4, .int (nI k))] [] (mI (FI_X11_tried (xs (k + 1)) (xs (k + 2)) (xs (k + 3)) A JA) (FI_X12_tried (xs (k + 1)) (xs (k + 2)) (xs (k + 3)) B JB)) (mJ (FJ_X11_tried (xs (k + 1)) (xs (k + 2)) (xs (k + 3)) A JA) (FJ_X12_tried (xs (k + 1)) (xs (k + 2)) (xs (k + 3)) B JB)) R 179 g) : WL K b cl sl 1298 [(1, .ref 0), (2, .ref 130), (3, .ref 178), (4, .int (nI k))] [] (mI A B) (mJ JA JB) R 179 g := by
  refine q_aload_n ok dL_law_1298 0 rfl ?_
  refine q_sc (j := 1) ok sc dL_law_1299 dL_law_1300 dL_law_1302 (by decide) dL_law_1303 dL_law_1304 3 rfl (by omega) ?_
  refine q_sc (j := 2) ok sc dL_law_1305 dL_law_1306 dL_law_1308 (by decide) dL_law_1309 dL_law_1310 3 rfl (by omega) ?_
  refine q_sc (j := 3) ok sc dL_law_1311 dL_law_1312 dL_law_1314 (by decide) dL_law_1315 dL_law_1316 3 rfl (by omega) ?_
  refine q_x (As := [.int (xs (k + 1)), .int (xs (k + 2)), .int (xs (k + 3))]) ok dL_law_1317 iX11_tried (lL_167 rfl) (rcv cls11 (congrArg Prod.fst s_0)) (by decide) (c_X11_tried ro (by decide) rfl (xs (k + 1)) (xs (k + 2)) (xs (k + 3))  hx0) (by decide) rfl (Nat.le_of_ble_eq_true rfl) ?_
  show WL K b cl sl 1320 [(1, .ref 0), (2, .ref 130), (3, .ref 178), (4, .int (nI k))] [.int (F_X11_tried (xs (k + 1)) (xs (k + 2)) (xs (k + 3)) A JA)] (mI (FI_X11_tried (xs (k + 1)) (xs (k + 2)) (xs (k + 3)) A JA) B) (mJ (FJ_X11_tried (xs (k + 1)) (xs (k + 2)) (xs (k + 3)) A JA) JB) R 179 g
  refine q_aload_n ok dL_law_1320 1 rfl ?_
  refine q_sc (j := 1) ok sc dL_law_1321 dL_law_1322 dL_law_1324 (by decide) dL_law_1325 dL_law_1326 3 rfl (by omega) ?_
  refine q_sc (j := 2) ok sc dL_law_1327 dL_law_1328 dL_law_1330 (by decide) dL_law_1331 dL_law_1332 3 rfl (by omega) ?_
  refine q_sc (j := 3) ok sc dL_law_1333 dL_law_1334 dL_law_1336 (by decide) dL_law_1337 dL_law_1338 3 rfl (by omega) ?_
  refine q_m (As := [.int (xs (k + 1)), .int (xs (k + 2)), .int (xs (k + 3))]) ok dL_law_1339 iX12_tried (lL_170 rfl) (rcv cls12 (congrArg Prod.fst s_130)) (by decide) (c_X12_tried rm (by decide) rfl (xs (k + 1)) (xs (k + 2)) (xs (k + 3))  hm0) (by decide) rfl (Nat.le_of_ble_eq_true rfl) ?_
  show WL K b cl sl 1342 [(1, .ref 0), (2, .ref 130), (3, .ref 178), (4, .int (nI k))] [.int (F_X12_tried (xs (k + 1)) (xs (k + 2)) (xs (k + 3)) B JB), .int (F_X11_tried (xs (k + 1)) (xs (k + 2)) (xs (k + 3)) A JA)] (mI (FI_X11_tried (xs (k + 1)) (xs (k + 2)) (xs (k + 3)) A JA) (FI_X12_tried (xs (k + 1)) (xs (k + 2)) (xs (k + 3)) B JB)) (mJ (FJ_X11_tried (xs (k + 1)) (xs (k + 2)) (xs (k + 3)) A JA) (FJ_X12_tried (xs (k + 1)) (xs (k + 2)) (xs (k + 3)) B JB)) R 179 g
  refine q_icmp_eq (tgt := 1411) ok dL_law_1342 (by decide) (fun _ => ?_) (fun h => absurd he h)
  exact kk
set_option maxHeartbeats 2000000 in
set_option maxRecDepth 40000 in
theorem law_c34 {K : KT} {b L k g cl sl : Nat} {xs : Nat → Int32} {A B : SI} {JA JB : SJ} {R : SR} (ok : OK K mL_law 1000) (sc : Sc K b L xs) (ro : RO R) (rm : RM R) (hk6 : k + 5 < L) (hm0 : H_X12_undo  B JB) (he : (F_X11_undo  A JA) = (F_X12_undo  B JB)) (kk : WL K b cl sl 1411 [(1, .ref 0), (2, .ref 130), (3, .ref 178), (4, .int (nI k))] [] (mI (FI_X11_undo  A JA) (FI_X12_undo  B JB)) (mJ JA JB) R 179 g) : WL K b cl sl 1347 [(1, .ref 0), (2, .ref 130), (3, .ref 178), (4, .int (nI k))] [] (mI A B) (mJ JA JB) R 179 g := by
  refine q_aload_n ok dL_law_1347 0 rfl ?_
  refine q_x (As := []) ok dL_law_1348 iX11_undo (lL_171 rfl) (rcv cls11 (congrArg Prod.fst s_0)) (by decide) (c_X11_undo ro (by decide) rfl  ) (by decide) rfl (Nat.le_of_ble_eq_true rfl) ?_
  show WL K b cl sl 1351 [(1, .ref 0), (2, .ref 130), (3, .ref 178), (4, .int (nI k))] [.int (F_X11_undo  A JA)] (mI (FI_X11_undo  A JA) B) (mJ JA JB) R 179 g
  refine q_aload_n ok dL_law_1351 1 rfl ?_
  refine q_m (As := []) ok dL_law_1352 iX12_undo (lL_174 rfl) (rcv cls12 (congrArg Prod.fst s_130)) (by decide) (c_X12_undo rm (by decide) rfl   hm0) (by decide) rfl (Nat.le_of_ble_eq_true rfl) ?_
  show WL K b cl sl 1355 [(1, .ref 0), (2, .ref 130), (3, .ref 178), (4, .int (nI k))] [.int (F_X12_undo  B JB), .int (F_X11_undo  A JA)] (mI (FI_X11_undo  A JA) (FI_X12_undo  B JB)) (mJ JA JB) R 179 g
  refine q_icmp_eq (tgt := 1411) ok dL_law_1355 (by decide) (fun _ => ?_) (fun h => absurd he h)
  exact kk
set_option maxHeartbeats 2000000 in
set_option maxRecDepth 40000 in
theorem law_c35 {K : KT} {b L k g cl sl : Nat} {xs : Nat → Int32} {A B : SI} {JA JB : SJ} {R : SR} (ok : OK K mL_law 1000) (sc : Sc K b L xs) (ro : RO R) (rm : RM R) (hk6 : k + 5 < L) (hm0 : H_X12_keep  B JB) (he : (F_X11_keep  A JA) = (F_X12_keep  B JB)) (kk : WL K b cl sl 1411 [(1, .ref 0), (2, .ref 130), (3, .ref 178), (4, .int (nI k))] [] (mI (FI_X11_keep  A JA) (FI_X12_keep  B JB)) (mJ (FJ_X11_keep  A JA) JB) R 179 g) : WL K b cl sl 1360 [(1, .ref 0), (2, .ref 130), (3, .ref 178), (4, .int (nI k))] [] (mI A B) (mJ JA JB) R 179 g := by
  refine q_aload_n ok dL_law_1360 0 rfl ?_
  refine q_x (As := []) ok dL_law_1361 iX11_keep (lL_175 rfl) (rcv cls11 (congrArg Prod.fst s_0)) (by decide) (c_X11_keep ro (by decide) rfl  ) (by decide) rfl (Nat.le_of_ble_eq_true rfl) ?_
  show WL K b cl sl 1364 [(1, .ref 0), (2, .ref 130), (3, .ref 178), (4, .int (nI k))] [.int (F_X11_keep  A JA)] (mI (FI_X11_keep  A JA) B) (mJ (FJ_X11_keep  A JA) JB) R 179 g
  refine q_aload_n ok dL_law_1364 1 rfl ?_
  refine q_m (As := []) ok dL_law_1365 iX12_keep (lL_178 rfl) (rcv cls12 (congrArg Prod.fst s_130)) (by decide) (c_X12_keep rm (by decide) rfl   hm0) (by decide) rfl (Nat.le_of_ble_eq_true rfl) ?_
  show WL K b cl sl 1368 [(1, .ref 0), (2, .ref 130), (3, .ref 178), (4, .int (nI k))] [.int (F_X12_keep  B JB), .int (F_X11_keep  A JA)] (mI (FI_X11_keep  A JA) (FI_X12_keep  B JB)) (mJ (FJ_X11_keep  A JA) JB) R 179 g
  refine q_icmp_eq (tgt := 1411) ok dL_law_1368 (by decide) (fun _ => ?_) (fun h => absurd he h)
  exact kk
set_option maxHeartbeats 2000000 in
set_option maxRecDepth 40000 in
theorem law_c36 {K : KT} {b L k g cl sl : Nat} {xs : Nat → Int32} {A B : SI} {JA JB : SJ} {R : SR} (ok : OK K mL_law 1000) (sc : Sc K b L xs) (ro : RO R) (rm : RM R) (hk6 : k + 5 < L) (hm0 : H_X12_back  B JB) (he : (F_X11_back  A JA) = (F_X12_back  B JB)) (kk : WL K b cl sl 1411 [(1, .ref 0), (2, .ref 130), (3, .ref 178), (4, .int (nI k))] [] (mI (FI_X11_back  A JA) (FI_X12_back  B JB)) (mJ (FJ_X11_back  A JA) JB) R 179 g) : WL K b cl sl 1373 [(1, .ref 0), (2, .ref 130), (3, .ref 178), (4, .int (nI k))] [] (mI A B) (mJ JA JB) R 179 g := by
  refine q_aload_n ok dL_law_1373 0 rfl ?_
  refine q_x (As := []) ok dL_law_1374 iX11_back (lL_179 rfl) (rcv cls11 (congrArg Prod.fst s_0)) (by decide) (c_X11_back ro (by decide) rfl  ) (by decide) rfl (Nat.le_of_ble_eq_true rfl) ?_
  show WL K b cl sl 1377 [(1, .ref 0), (2, .ref 130), (3, .ref 178), (4, .int (nI k))] [.int (F_X11_back  A JA)] (mI (FI_X11_back  A JA) B) (mJ (FJ_X11_back  A JA) JB) R 179 g
  refine q_aload_n ok dL_law_1377 1 rfl ?_
  refine q_m (As := []) ok dL_law_1378 iX12_back (lL_182 rfl) (rcv cls12 (congrArg Prod.fst s_130)) (by decide) (c_X12_back rm (by decide) rfl   hm0) (by decide) rfl (Nat.le_of_ble_eq_true rfl) ?_
  show WL K b cl sl 1381 [(1, .ref 0), (2, .ref 130), (3, .ref 178), (4, .int (nI k))] [.int (F_X12_back  B JB), .int (F_X11_back  A JA)] (mI (FI_X11_back  A JA) (FI_X12_back  B JB)) (mJ (FJ_X11_back  A JA) JB) R 179 g
  refine q_icmp_eq (tgt := 1411) ok dL_law_1381 (by decide) (fun _ => ?_) (fun h => absurd he h)
  exact kk
set_option maxHeartbeats 2000000 in
set_option maxRecDepth 40000 in
theorem law_c37 {K : KT} {b L k g cl sl : Nat} {xs : Nat → Int32} {A B : SI} {JA JB : SJ} {R : SR} (ok : OK K mL_law 1000) (sc : Sc K b L xs) (ro : RO R) (rm : RM R) (hk6 : k + 5 < L) (hm0 : H_X12_count (xs (k + 1)) B JB) (he : (F_X11_count (xs (k + 1)) A JA) = (F_X12_count (xs (k + 1)) B JB)) (kk : WL K b cl sl 1411 [(1, .ref 0), (2, .ref 130), (3, .ref 178), (4, .int (nI k))] [] (mI A (FI_X12_count (xs (k + 1)) B JB)) (mJ JA JB) R 179 g) : WL K b cl sl 1386 [(1, .ref 0), (2, .ref 130), (3, .ref 178), (4, .int (nI k))] [] (mI A B) (mJ JA JB) R 179 g := by
  refine q_aload_n ok dL_law_1386 0 rfl ?_
  refine q_sc (j := 1) ok sc dL_law_1387 dL_law_1388 dL_law_1390 (by decide) dL_law_1391 dL_law_1392 3 rfl (by omega) ?_
  refine q_x (As := [.int (xs (k + 1))]) ok dL_law_1393 iX11_count (lL_183 rfl) (rcv cls11 (congrArg Prod.fst s_0)) (by decide) (c_X11_count ro (by decide) rfl (xs (k + 1)) ) (by decide) rfl (Nat.le_of_ble_eq_true rfl) ?_
  show WL K b cl sl 1396 [(1, .ref 0), (2, .ref 130), (3, .ref 178), (4, .int (nI k))] [.int (F_X11_count (xs (k + 1)) A JA)] (mI A B) (mJ JA JB) R 179 g
  refine q_aload_n ok dL_law_1396 1 rfl ?_
  refine q_sc (j := 1) ok sc dL_law_1397 dL_law_1398 dL_law_1400 (by decide) dL_law_1401 dL_law_1402 3 rfl (by omega) ?_
  refine q_m (As := [.int (xs (k + 1))]) ok dL_law_1403 iX12_count (lL_186 rfl) (rcv cls12 (congrArg Prod.fst s_130)) (by decide) (c_X12_count rm (by decide) rfl (xs (k + 1))  hm0) (by decide) rfl (Nat.le_of_ble_eq_true rfl) ?_
  show WL K b cl sl 1406 [(1, .ref 0), (2, .ref 130), (3, .ref 178), (4, .int (nI k))] [.int (F_X12_count (xs (k + 1)) B JB), .int (F_X11_count (xs (k + 1)) A JA)] (mI A (FI_X12_count (xs (k + 1)) B JB)) (mJ JA JB) R 179 g
  refine q_icmp_eq (tgt := 1411) ok dL_law_1406 (by decide) (fun _ => ?_) (fun h => absurd he h)
  exact kk
