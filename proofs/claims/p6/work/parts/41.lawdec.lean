/-! printed by wip/gen/gen_law.py: decode rows of the law -/
abbrev mL_law : Mt := (yL_law, cL_law, 7, some .boolean)
theorem k_dL_law_0 : decode (mL_law).2.1 0 = .ok ((.new 8), 3) ∧ decode (mL_law).2.1 3 = .ok ((.dup), 1) ∧ decode (mL_law).2.1 4 = .ok ((.invokespecial 17), 3) ∧ decode (mL_law).2.1 7 = .ok ((.astore_n 1), 1) ∧ decode (mL_law).2.1 8 = .ok ((.new 18), 3) ∧ decode (mL_law).2.1 11 = .ok ((.dup), 1) := by decide +kernel
theorem dL_law_0 : Dc mL_law 0 (.new 8) 3 3 := ⟨k_dL_law_0.1, rfl⟩
theorem dL_law_3 : Dc mL_law 3 (.dup) 1 4 := ⟨k_dL_law_0.2.1, rfl⟩
theorem dL_law_4 : Dc mL_law 4 (.invokespecial 17) 3 7 := ⟨k_dL_law_0.2.2.1, rfl⟩
theorem dL_law_7 : Dc mL_law 7 (.astore_n 1) 1 8 := ⟨k_dL_law_0.2.2.2.1, rfl⟩
theorem dL_law_8 : Dc mL_law 8 (.new 18) 3 11 := ⟨k_dL_law_0.2.2.2.2.1, rfl⟩
theorem dL_law_11 : Dc mL_law 11 (.dup) 1 12 := ⟨k_dL_law_0.2.2.2.2.2, rfl⟩
theorem k_dL_law_12 : decode (mL_law).2.1 12 = .ok ((.invokespecial 20), 3) ∧ decode (mL_law).2.1 15 = .ok ((.astore_n 2), 1) ∧ decode (mL_law).2.1 16 = .ok ((.iconst 1), 1) ∧ decode (mL_law).2.1 17 = .ok ((.newarray .long), 2) ∧ decode (mL_law).2.1 19 = .ok ((.astore_n 3), 1) ∧ decode (mL_law).2.1 20 = .ok ((.iconst 0), 1) := by decide +kernel
theorem dL_law_12 : Dc mL_law 12 (.invokespecial 20) 3 15 := ⟨k_dL_law_12.1, rfl⟩
theorem dL_law_15 : Dc mL_law 15 (.astore_n 2) 1 16 := ⟨k_dL_law_12.2.1, rfl⟩
theorem dL_law_16 : Dc mL_law 16 (.iconst 1) 1 17 := ⟨k_dL_law_12.2.2.1, rfl⟩
theorem dL_law_17 : Dc mL_law 17 (.newarray .long) 2 19 := ⟨k_dL_law_12.2.2.2.1, rfl⟩
theorem dL_law_19 : Dc mL_law 19 (.astore_n 3) 1 20 := ⟨k_dL_law_12.2.2.2.2.1, rfl⟩
theorem dL_law_20 : Dc mL_law 20 (.iconst 0) 1 21 := ⟨k_dL_law_12.2.2.2.2.2, rfl⟩
theorem k_dL_law_21 : decode (mL_law).2.1 21 = .ok ((.istore 4), 2) ∧ decode (mL_law).2.1 23 = .ok ((.iload 4), 2) ∧ decode (mL_law).2.1 25 = .ok ((.aload_n 0), 1) ∧ decode (mL_law).2.1 26 = .ok ((.arraylength), 1) ∧ decode (mL_law).2.1 27 = .ok ((.bipush 6), 2) ∧ decode (mL_law).2.1 29 = .ok ((.isub), 1) := by decide +kernel
theorem dL_law_21 : Dc mL_law 21 (.istore 4) 2 23 := ⟨k_dL_law_21.1, rfl⟩
theorem dL_law_23 : Dc mL_law 23 (.iload 4) 2 25 := ⟨k_dL_law_21.2.1, rfl⟩
theorem dL_law_25 : Dc mL_law 25 (.aload_n 0) 1 26 := ⟨k_dL_law_21.2.2.1, rfl⟩
theorem dL_law_26 : Dc mL_law 26 (.arraylength) 1 27 := ⟨k_dL_law_21.2.2.2.1, rfl⟩
theorem dL_law_27 : Dc mL_law 27 (.bipush 6) 2 29 := ⟨k_dL_law_21.2.2.2.2.1, rfl⟩
theorem dL_law_29 : Dc mL_law 29 (.isub) 1 30 := ⟨k_dL_law_21.2.2.2.2.2, rfl⟩
theorem k_dL_law_30 : decode (mL_law).2.1 30 = .ok ((.if_icmp .gt 1385), 3) ∧ decode (mL_law).2.1 33 = .ok ((.aload_n 0), 1) ∧ decode (mL_law).2.1 34 = .ok ((.iload 4), 2) ∧ decode (mL_law).2.1 36 = .ok ((.iaload), 1) ∧ decode (mL_law).2.1 37 = .ok ((.bipush 63), 2) ∧ decode (mL_law).2.1 39 = .ok ((.iand), 1) := by decide +kernel
theorem dL_law_30 : Dc mL_law 30 (.if_icmp .gt 1385) 3 33 := ⟨k_dL_law_30.1, rfl⟩
theorem dL_law_33 : Dc mL_law 33 (.aload_n 0) 1 34 := ⟨k_dL_law_30.2.1, rfl⟩
theorem dL_law_34 : Dc mL_law 34 (.iload 4) 2 36 := ⟨k_dL_law_30.2.2.1, rfl⟩
theorem dL_law_36 : Dc mL_law 36 (.iaload) 1 37 := ⟨k_dL_law_30.2.2.2.1, rfl⟩
theorem dL_law_37 : Dc mL_law 37 (.bipush 63) 2 39 := ⟨k_dL_law_30.2.2.2.2.1, rfl⟩
theorem dL_law_39 : Dc mL_law 39 (.iand) 1 40 := ⟨k_dL_law_30.2.2.2.2.2, rfl⟩
theorem k_dL_law_40 : decode (mL_law).2.1 40 = .ok ((.tableswitch 1369 0 37 #[168, 241, 266, 291, 328, 396, 433, 470, 507, 532, 581, 618, 655, 692, 717, 742, 779, 792, 805, 830, 855, 868, 893, 930, 979, 1016, 1041, 1054, 1067, 1132, 1157, 1182, 1207, 1256, 1305, 1318, 1331, 1344]), 168) ∧ decode (mL_law).2.1 208 = .ok ((.aload_n 1), 1) ∧ decode (mL_law).2.1 209 = .ok ((.aload_n 0), 1) ∧ decode (mL_law).2.1 210 = .ok ((.iload 4), 2) ∧ decode (mL_law).2.1 212 = .ok ((.iconst 1), 1) ∧ decode (mL_law).2.1 213 = .ok ((.iadd), 1) := by decide +kernel
theorem dL_law_40 : Dc mL_law 40 (.tableswitch 1369 0 37 #[168, 241, 266, 291, 328, 396, 433, 470, 507, 532, 581, 618, 655, 692, 717, 742, 779, 792, 805, 830, 855, 868, 893, 930, 979, 1016, 1041, 1054, 1067, 1132, 1157, 1182, 1207, 1256, 1305, 1318, 1331, 1344]) 168 208 := ⟨k_dL_law_40.1, rfl⟩
theorem dL_law_208 : Dc mL_law 208 (.aload_n 1) 1 209 := ⟨k_dL_law_40.2.1, rfl⟩
theorem dL_law_209 : Dc mL_law 209 (.aload_n 0) 1 210 := ⟨k_dL_law_40.2.2.1, rfl⟩
theorem dL_law_210 : Dc mL_law 210 (.iload 4) 2 212 := ⟨k_dL_law_40.2.2.2.1, rfl⟩
theorem dL_law_212 : Dc mL_law 212 (.iconst 1) 1 213 := ⟨k_dL_law_40.2.2.2.2.1, rfl⟩
theorem dL_law_213 : Dc mL_law 213 (.iadd) 1 214 := ⟨k_dL_law_40.2.2.2.2.2, rfl⟩
theorem k_dL_law_214 : decode (mL_law).2.1 214 = .ok ((.iaload), 1) ∧ decode (mL_law).2.1 215 = .ok ((.aload_n 0), 1) ∧ decode (mL_law).2.1 216 = .ok ((.iload 4), 2) ∧ decode (mL_law).2.1 218 = .ok ((.iconst 2), 1) ∧ decode (mL_law).2.1 219 = .ok ((.iadd), 1) ∧ decode (mL_law).2.1 220 = .ok ((.iaload), 1) := by decide +kernel
theorem dL_law_214 : Dc mL_law 214 (.iaload) 1 215 := ⟨k_dL_law_214.1, rfl⟩
theorem dL_law_215 : Dc mL_law 215 (.aload_n 0) 1 216 := ⟨k_dL_law_214.2.1, rfl⟩
theorem dL_law_216 : Dc mL_law 216 (.iload 4) 2 218 := ⟨k_dL_law_214.2.2.1, rfl⟩
theorem dL_law_218 : Dc mL_law 218 (.iconst 2) 1 219 := ⟨k_dL_law_214.2.2.2.1, rfl⟩
theorem dL_law_219 : Dc mL_law 219 (.iadd) 1 220 := ⟨k_dL_law_214.2.2.2.2.1, rfl⟩
theorem dL_law_220 : Dc mL_law 220 (.iaload) 1 221 := ⟨k_dL_law_214.2.2.2.2.2, rfl⟩
theorem k_dL_law_221 : decode (mL_law).2.1 221 = .ok ((.aload_n 0), 1) ∧ decode (mL_law).2.1 222 = .ok ((.iload 4), 2) ∧ decode (mL_law).2.1 224 = .ok ((.iconst 3), 1) ∧ decode (mL_law).2.1 225 = .ok ((.iadd), 1) ∧ decode (mL_law).2.1 226 = .ok ((.iaload), 1) ∧ decode (mL_law).2.1 227 = .ok ((.aload_n 0), 1) := by decide +kernel
theorem dL_law_221 : Dc mL_law 221 (.aload_n 0) 1 222 := ⟨k_dL_law_221.1, rfl⟩
theorem dL_law_222 : Dc mL_law 222 (.iload 4) 2 224 := ⟨k_dL_law_221.2.1, rfl⟩
theorem dL_law_224 : Dc mL_law 224 (.iconst 3) 1 225 := ⟨k_dL_law_221.2.2.1, rfl⟩
theorem dL_law_225 : Dc mL_law 225 (.iadd) 1 226 := ⟨k_dL_law_221.2.2.2.1, rfl⟩
theorem dL_law_226 : Dc mL_law 226 (.iaload) 1 227 := ⟨k_dL_law_221.2.2.2.2.1, rfl⟩
theorem dL_law_227 : Dc mL_law 227 (.aload_n 0) 1 228 := ⟨k_dL_law_221.2.2.2.2.2, rfl⟩
theorem k_dL_law_228 : decode (mL_law).2.1 228 = .ok ((.iload 4), 2) ∧ decode (mL_law).2.1 230 = .ok ((.iconst 4), 1) ∧ decode (mL_law).2.1 231 = .ok ((.iadd), 1) ∧ decode (mL_law).2.1 232 = .ok ((.iaload), 1) ∧ decode (mL_law).2.1 233 = .ok ((.aload_n 0), 1) ∧ decode (mL_law).2.1 234 = .ok ((.iload 4), 2) := by decide +kernel
theorem dL_law_228 : Dc mL_law 228 (.iload 4) 2 230 := ⟨k_dL_law_228.1, rfl⟩
theorem dL_law_230 : Dc mL_law 230 (.iconst 4) 1 231 := ⟨k_dL_law_228.2.1, rfl⟩
theorem dL_law_231 : Dc mL_law 231 (.iadd) 1 232 := ⟨k_dL_law_228.2.2.1, rfl⟩
theorem dL_law_232 : Dc mL_law 232 (.iaload) 1 233 := ⟨k_dL_law_228.2.2.2.1, rfl⟩
theorem dL_law_233 : Dc mL_law 233 (.aload_n 0) 1 234 := ⟨k_dL_law_228.2.2.2.2.1, rfl⟩
theorem dL_law_234 : Dc mL_law 234 (.iload 4) 2 236 := ⟨k_dL_law_228.2.2.2.2.2, rfl⟩
theorem k_dL_law_236 : decode (mL_law).2.1 236 = .ok ((.iconst 5), 1) ∧ decode (mL_law).2.1 237 = .ok ((.iadd), 1) ∧ decode (mL_law).2.1 238 = .ok ((.iaload), 1) ∧ decode (mL_law).2.1 239 = .ok ((.invokevirtual 21), 3) ∧ decode (mL_law).2.1 242 = .ok ((.pop), 1) ∧ decode (mL_law).2.1 243 = .ok ((.aload_n 2), 1) := by decide +kernel
theorem dL_law_236 : Dc mL_law 236 (.iconst 5) 1 237 := ⟨k_dL_law_236.1, rfl⟩
theorem dL_law_237 : Dc mL_law 237 (.iadd) 1 238 := ⟨k_dL_law_236.2.1, rfl⟩
theorem dL_law_238 : Dc mL_law 238 (.iaload) 1 239 := ⟨k_dL_law_236.2.2.1, rfl⟩
theorem dL_law_239 : Dc mL_law 239 (.invokevirtual 21) 3 242 := ⟨k_dL_law_236.2.2.2.1, rfl⟩
theorem dL_law_242 : Dc mL_law 242 (.pop) 1 243 := ⟨k_dL_law_236.2.2.2.2.1, rfl⟩
theorem dL_law_243 : Dc mL_law 243 (.aload_n 2) 1 244 := ⟨k_dL_law_236.2.2.2.2.2, rfl⟩
theorem k_dL_law_244 : decode (mL_law).2.1 244 = .ok ((.aload_n 0), 1) ∧ decode (mL_law).2.1 245 = .ok ((.iload 4), 2) ∧ decode (mL_law).2.1 247 = .ok ((.iconst 1), 1) ∧ decode (mL_law).2.1 248 = .ok ((.iadd), 1) ∧ decode (mL_law).2.1 249 = .ok ((.iaload), 1) ∧ decode (mL_law).2.1 250 = .ok ((.aload_n 0), 1) := by decide +kernel
theorem dL_law_244 : Dc mL_law 244 (.aload_n 0) 1 245 := ⟨k_dL_law_244.1, rfl⟩
theorem dL_law_245 : Dc mL_law 245 (.iload 4) 2 247 := ⟨k_dL_law_244.2.1, rfl⟩
theorem dL_law_247 : Dc mL_law 247 (.iconst 1) 1 248 := ⟨k_dL_law_244.2.2.1, rfl⟩
theorem dL_law_248 : Dc mL_law 248 (.iadd) 1 249 := ⟨k_dL_law_244.2.2.2.1, rfl⟩
theorem dL_law_249 : Dc mL_law 249 (.iaload) 1 250 := ⟨k_dL_law_244.2.2.2.2.1, rfl⟩
theorem dL_law_250 : Dc mL_law 250 (.aload_n 0) 1 251 := ⟨k_dL_law_244.2.2.2.2.2, rfl⟩
theorem k_dL_law_251 : decode (mL_law).2.1 251 = .ok ((.iload 4), 2) ∧ decode (mL_law).2.1 253 = .ok ((.iconst 2), 1) ∧ decode (mL_law).2.1 254 = .ok ((.iadd), 1) ∧ decode (mL_law).2.1 255 = .ok ((.iaload), 1) ∧ decode (mL_law).2.1 256 = .ok ((.aload_n 0), 1) ∧ decode (mL_law).2.1 257 = .ok ((.iload 4), 2) := by decide +kernel
theorem dL_law_251 : Dc mL_law 251 (.iload 4) 2 253 := ⟨k_dL_law_251.1, rfl⟩
theorem dL_law_253 : Dc mL_law 253 (.iconst 2) 1 254 := ⟨k_dL_law_251.2.1, rfl⟩
theorem dL_law_254 : Dc mL_law 254 (.iadd) 1 255 := ⟨k_dL_law_251.2.2.1, rfl⟩
theorem dL_law_255 : Dc mL_law 255 (.iaload) 1 256 := ⟨k_dL_law_251.2.2.2.1, rfl⟩
theorem dL_law_256 : Dc mL_law 256 (.aload_n 0) 1 257 := ⟨k_dL_law_251.2.2.2.2.1, rfl⟩
theorem dL_law_257 : Dc mL_law 257 (.iload 4) 2 259 := ⟨k_dL_law_251.2.2.2.2.2, rfl⟩
theorem k_dL_law_259 : decode (mL_law).2.1 259 = .ok ((.iconst 3), 1) ∧ decode (mL_law).2.1 260 = .ok ((.iadd), 1) ∧ decode (mL_law).2.1 261 = .ok ((.iaload), 1) ∧ decode (mL_law).2.1 262 = .ok ((.aload_n 0), 1) ∧ decode (mL_law).2.1 263 = .ok ((.iload 4), 2) ∧ decode (mL_law).2.1 265 = .ok ((.iconst 4), 1) := by decide +kernel
theorem dL_law_259 : Dc mL_law 259 (.iconst 3) 1 260 := ⟨k_dL_law_259.1, rfl⟩
theorem dL_law_260 : Dc mL_law 260 (.iadd) 1 261 := ⟨k_dL_law_259.2.1, rfl⟩
theorem dL_law_261 : Dc mL_law 261 (.iaload) 1 262 := ⟨k_dL_law_259.2.2.1, rfl⟩
theorem dL_law_262 : Dc mL_law 262 (.aload_n 0) 1 263 := ⟨k_dL_law_259.2.2.2.1, rfl⟩
theorem dL_law_263 : Dc mL_law 263 (.iload 4) 2 265 := ⟨k_dL_law_259.2.2.2.2.1, rfl⟩
theorem dL_law_265 : Dc mL_law 265 (.iconst 4) 1 266 := ⟨k_dL_law_259.2.2.2.2.2, rfl⟩
theorem k_dL_law_266 : decode (mL_law).2.1 266 = .ok ((.iadd), 1) ∧ decode (mL_law).2.1 267 = .ok ((.iaload), 1) ∧ decode (mL_law).2.1 268 = .ok ((.aload_n 0), 1) ∧ decode (mL_law).2.1 269 = .ok ((.iload 4), 2) ∧ decode (mL_law).2.1 271 = .ok ((.iconst 5), 1) ∧ decode (mL_law).2.1 272 = .ok ((.iadd), 1) := by decide +kernel
theorem dL_law_266 : Dc mL_law 266 (.iadd) 1 267 := ⟨k_dL_law_266.1, rfl⟩
theorem dL_law_267 : Dc mL_law 267 (.iaload) 1 268 := ⟨k_dL_law_266.2.1, rfl⟩
theorem dL_law_268 : Dc mL_law 268 (.aload_n 0) 1 269 := ⟨k_dL_law_266.2.2.1, rfl⟩
theorem dL_law_269 : Dc mL_law 269 (.iload 4) 2 271 := ⟨k_dL_law_266.2.2.2.1, rfl⟩
theorem dL_law_271 : Dc mL_law 271 (.iconst 5) 1 272 := ⟨k_dL_law_266.2.2.2.2.1, rfl⟩
theorem dL_law_272 : Dc mL_law 272 (.iadd) 1 273 := ⟨k_dL_law_266.2.2.2.2.2, rfl⟩
theorem k_dL_law_273 : decode (mL_law).2.1 273 = .ok ((.iaload), 1) ∧ decode (mL_law).2.1 274 = .ok ((.invokevirtual 25), 3) ∧ decode (mL_law).2.1 277 = .ok ((.pop), 1) ∧ decode (mL_law).2.1 278 = .ok ((.goto 1131), 3) ∧ decode (mL_law).2.1 281 = .ok ((.aload_n 1), 1) ∧ decode (mL_law).2.1 282 = .ok ((.aload_n 0), 1) := by decide +kernel
theorem dL_law_273 : Dc mL_law 273 (.iaload) 1 274 := ⟨k_dL_law_273.1, rfl⟩
theorem dL_law_274 : Dc mL_law 274 (.invokevirtual 25) 3 277 := ⟨k_dL_law_273.2.1, rfl⟩
theorem dL_law_277 : Dc mL_law 277 (.pop) 1 278 := ⟨k_dL_law_273.2.2.1, rfl⟩
theorem dL_law_278 : Dc mL_law 278 (.goto 1131) 3 281 := ⟨k_dL_law_273.2.2.2.1, rfl⟩
theorem dL_law_281 : Dc mL_law 281 (.aload_n 1) 1 282 := ⟨k_dL_law_273.2.2.2.2.1, rfl⟩
theorem dL_law_282 : Dc mL_law 282 (.aload_n 0) 1 283 := ⟨k_dL_law_273.2.2.2.2.2, rfl⟩
theorem k_dL_law_283 : decode (mL_law).2.1 283 = .ok ((.iload 4), 2) ∧ decode (mL_law).2.1 285 = .ok ((.iconst 1), 1) ∧ decode (mL_law).2.1 286 = .ok ((.iadd), 1) ∧ decode (mL_law).2.1 287 = .ok ((.iaload), 1) ∧ decode (mL_law).2.1 288 = .ok ((.invokevirtual 26), 3) ∧ decode (mL_law).2.1 291 = .ok ((.pop), 1) := by decide +kernel
theorem dL_law_283 : Dc mL_law 283 (.iload 4) 2 285 := ⟨k_dL_law_283.1, rfl⟩
theorem dL_law_285 : Dc mL_law 285 (.iconst 1) 1 286 := ⟨k_dL_law_283.2.1, rfl⟩
theorem dL_law_286 : Dc mL_law 286 (.iadd) 1 287 := ⟨k_dL_law_283.2.2.1, rfl⟩
theorem dL_law_287 : Dc mL_law 287 (.iaload) 1 288 := ⟨k_dL_law_283.2.2.2.1, rfl⟩
theorem dL_law_288 : Dc mL_law 288 (.invokevirtual 26) 3 291 := ⟨k_dL_law_283.2.2.2.2.1, rfl⟩
theorem dL_law_291 : Dc mL_law 291 (.pop) 1 292 := ⟨k_dL_law_283.2.2.2.2.2, rfl⟩
theorem k_dL_law_292 : decode (mL_law).2.1 292 = .ok ((.aload_n 2), 1) ∧ decode (mL_law).2.1 293 = .ok ((.aload_n 0), 1) ∧ decode (mL_law).2.1 294 = .ok ((.iload 4), 2) ∧ decode (mL_law).2.1 296 = .ok ((.iconst 1), 1) ∧ decode (mL_law).2.1 297 = .ok ((.iadd), 1) ∧ decode (mL_law).2.1 298 = .ok ((.iaload), 1) := by decide +kernel
theorem dL_law_292 : Dc mL_law 292 (.aload_n 2) 1 293 := ⟨k_dL_law_292.1, rfl⟩
theorem dL_law_293 : Dc mL_law 293 (.aload_n 0) 1 294 := ⟨k_dL_law_292.2.1, rfl⟩
theorem dL_law_294 : Dc mL_law 294 (.iload 4) 2 296 := ⟨k_dL_law_292.2.2.1, rfl⟩
theorem dL_law_296 : Dc mL_law 296 (.iconst 1) 1 297 := ⟨k_dL_law_292.2.2.2.1, rfl⟩
theorem dL_law_297 : Dc mL_law 297 (.iadd) 1 298 := ⟨k_dL_law_292.2.2.2.2.1, rfl⟩
theorem dL_law_298 : Dc mL_law 298 (.iaload) 1 299 := ⟨k_dL_law_292.2.2.2.2.2, rfl⟩
theorem k_dL_law_299 : decode (mL_law).2.1 299 = .ok ((.invokevirtual 30), 3) ∧ decode (mL_law).2.1 302 = .ok ((.pop), 1) ∧ decode (mL_law).2.1 303 = .ok ((.goto 1106), 3) ∧ decode (mL_law).2.1 306 = .ok ((.aload_n 1), 1) ∧ decode (mL_law).2.1 307 = .ok ((.aload_n 0), 1) ∧ decode (mL_law).2.1 308 = .ok ((.iload 4), 2) := by decide +kernel
theorem dL_law_299 : Dc mL_law 299 (.invokevirtual 30) 3 302 := ⟨k_dL_law_299.1, rfl⟩
theorem dL_law_302 : Dc mL_law 302 (.pop) 1 303 := ⟨k_dL_law_299.2.1, rfl⟩
theorem dL_law_303 : Dc mL_law 303 (.goto 1106) 3 306 := ⟨k_dL_law_299.2.2.1, rfl⟩
theorem dL_law_306 : Dc mL_law 306 (.aload_n 1) 1 307 := ⟨k_dL_law_299.2.2.2.1, rfl⟩
theorem dL_law_307 : Dc mL_law 307 (.aload_n 0) 1 308 := ⟨k_dL_law_299.2.2.2.2.1, rfl⟩
theorem dL_law_308 : Dc mL_law 308 (.iload 4) 2 310 := ⟨k_dL_law_299.2.2.2.2.2, rfl⟩
theorem k_dL_law_310 : decode (mL_law).2.1 310 = .ok ((.iconst 1), 1) ∧ decode (mL_law).2.1 311 = .ok ((.iadd), 1) ∧ decode (mL_law).2.1 312 = .ok ((.iaload), 1) ∧ decode (mL_law).2.1 313 = .ok ((.invokevirtual 31), 3) ∧ decode (mL_law).2.1 316 = .ok ((.pop), 1) ∧ decode (mL_law).2.1 317 = .ok ((.aload_n 2), 1) := by decide +kernel
theorem dL_law_310 : Dc mL_law 310 (.iconst 1) 1 311 := ⟨k_dL_law_310.1, rfl⟩
theorem dL_law_311 : Dc mL_law 311 (.iadd) 1 312 := ⟨k_dL_law_310.2.1, rfl⟩
theorem dL_law_312 : Dc mL_law 312 (.iaload) 1 313 := ⟨k_dL_law_310.2.2.1, rfl⟩
theorem dL_law_313 : Dc mL_law 313 (.invokevirtual 31) 3 316 := ⟨k_dL_law_310.2.2.2.1, rfl⟩
theorem dL_law_316 : Dc mL_law 316 (.pop) 1 317 := ⟨k_dL_law_310.2.2.2.2.1, rfl⟩
theorem dL_law_317 : Dc mL_law 317 (.aload_n 2) 1 318 := ⟨k_dL_law_310.2.2.2.2.2, rfl⟩
theorem k_dL_law_318 : decode (mL_law).2.1 318 = .ok ((.aload_n 0), 1) ∧ decode (mL_law).2.1 319 = .ok ((.iload 4), 2) ∧ decode (mL_law).2.1 321 = .ok ((.iconst 1), 1) ∧ decode (mL_law).2.1 322 = .ok ((.iadd), 1) ∧ decode (mL_law).2.1 323 = .ok ((.iaload), 1) ∧ decode (mL_law).2.1 324 = .ok ((.invokevirtual 34), 3) := by decide +kernel
theorem dL_law_318 : Dc mL_law 318 (.aload_n 0) 1 319 := ⟨k_dL_law_318.1, rfl⟩
theorem dL_law_319 : Dc mL_law 319 (.iload 4) 2 321 := ⟨k_dL_law_318.2.1, rfl⟩
theorem dL_law_321 : Dc mL_law 321 (.iconst 1) 1 322 := ⟨k_dL_law_318.2.2.1, rfl⟩
theorem dL_law_322 : Dc mL_law 322 (.iadd) 1 323 := ⟨k_dL_law_318.2.2.2.1, rfl⟩
theorem dL_law_323 : Dc mL_law 323 (.iaload) 1 324 := ⟨k_dL_law_318.2.2.2.2.1, rfl⟩
theorem dL_law_324 : Dc mL_law 324 (.invokevirtual 34) 3 327 := ⟨k_dL_law_318.2.2.2.2.2, rfl⟩
theorem k_dL_law_327 : decode (mL_law).2.1 327 = .ok ((.pop), 1) ∧ decode (mL_law).2.1 328 = .ok ((.goto 1081), 3) ∧ decode (mL_law).2.1 331 = .ok ((.aload_n 1), 1) ∧ decode (mL_law).2.1 332 = .ok ((.aload_n 0), 1) ∧ decode (mL_law).2.1 333 = .ok ((.iload 4), 2) ∧ decode (mL_law).2.1 335 = .ok ((.iconst 1), 1) := by decide +kernel
theorem dL_law_327 : Dc mL_law 327 (.pop) 1 328 := ⟨k_dL_law_327.1, rfl⟩
theorem dL_law_328 : Dc mL_law 328 (.goto 1081) 3 331 := ⟨k_dL_law_327.2.1, rfl⟩
theorem dL_law_331 : Dc mL_law 331 (.aload_n 1) 1 332 := ⟨k_dL_law_327.2.2.1, rfl⟩
theorem dL_law_332 : Dc mL_law 332 (.aload_n 0) 1 333 := ⟨k_dL_law_327.2.2.2.1, rfl⟩
theorem dL_law_333 : Dc mL_law 333 (.iload 4) 2 335 := ⟨k_dL_law_327.2.2.2.2.1, rfl⟩
theorem dL_law_335 : Dc mL_law 335 (.iconst 1) 1 336 := ⟨k_dL_law_327.2.2.2.2.2, rfl⟩
theorem k_dL_law_336 : decode (mL_law).2.1 336 = .ok ((.iadd), 1) ∧ decode (mL_law).2.1 337 = .ok ((.iaload), 1) ∧ decode (mL_law).2.1 338 = .ok ((.aload_n 0), 1) ∧ decode (mL_law).2.1 339 = .ok ((.iload 4), 2) ∧ decode (mL_law).2.1 341 = .ok ((.iconst 2), 1) ∧ decode (mL_law).2.1 342 = .ok ((.iadd), 1) := by decide +kernel
theorem dL_law_336 : Dc mL_law 336 (.iadd) 1 337 := ⟨k_dL_law_336.1, rfl⟩
theorem dL_law_337 : Dc mL_law 337 (.iaload) 1 338 := ⟨k_dL_law_336.2.1, rfl⟩
theorem dL_law_338 : Dc mL_law 338 (.aload_n 0) 1 339 := ⟨k_dL_law_336.2.2.1, rfl⟩
theorem dL_law_339 : Dc mL_law 339 (.iload 4) 2 341 := ⟨k_dL_law_336.2.2.2.1, rfl⟩
theorem dL_law_341 : Dc mL_law 341 (.iconst 2) 1 342 := ⟨k_dL_law_336.2.2.2.2.1, rfl⟩
theorem dL_law_342 : Dc mL_law 342 (.iadd) 1 343 := ⟨k_dL_law_336.2.2.2.2.2, rfl⟩
theorem k_dL_law_343 : decode (mL_law).2.1 343 = .ok ((.iaload), 1) ∧ decode (mL_law).2.1 344 = .ok ((.invokevirtual 35), 3) ∧ decode (mL_law).2.1 347 = .ok ((.pop), 1) ∧ decode (mL_law).2.1 348 = .ok ((.aload_n 2), 1) ∧ decode (mL_law).2.1 349 = .ok ((.aload_n 0), 1) ∧ decode (mL_law).2.1 350 = .ok ((.iload 4), 2) := by decide +kernel
theorem dL_law_343 : Dc mL_law 343 (.iaload) 1 344 := ⟨k_dL_law_343.1, rfl⟩
theorem dL_law_344 : Dc mL_law 344 (.invokevirtual 35) 3 347 := ⟨k_dL_law_343.2.1, rfl⟩
theorem dL_law_347 : Dc mL_law 347 (.pop) 1 348 := ⟨k_dL_law_343.2.2.1, rfl⟩
theorem dL_law_348 : Dc mL_law 348 (.aload_n 2) 1 349 := ⟨k_dL_law_343.2.2.2.1, rfl⟩
theorem dL_law_349 : Dc mL_law 349 (.aload_n 0) 1 350 := ⟨k_dL_law_343.2.2.2.2.1, rfl⟩
theorem dL_law_350 : Dc mL_law 350 (.iload 4) 2 352 := ⟨k_dL_law_343.2.2.2.2.2, rfl⟩
theorem k_dL_law_352 : decode (mL_law).2.1 352 = .ok ((.iconst 1), 1) ∧ decode (mL_law).2.1 353 = .ok ((.iadd), 1) ∧ decode (mL_law).2.1 354 = .ok ((.iaload), 1) ∧ decode (mL_law).2.1 355 = .ok ((.aload_n 0), 1) ∧ decode (mL_law).2.1 356 = .ok ((.iload 4), 2) ∧ decode (mL_law).2.1 358 = .ok ((.iconst 2), 1) := by decide +kernel
theorem dL_law_352 : Dc mL_law 352 (.iconst 1) 1 353 := ⟨k_dL_law_352.1, rfl⟩
theorem dL_law_353 : Dc mL_law 353 (.iadd) 1 354 := ⟨k_dL_law_352.2.1, rfl⟩
theorem dL_law_354 : Dc mL_law 354 (.iaload) 1 355 := ⟨k_dL_law_352.2.2.1, rfl⟩
theorem dL_law_355 : Dc mL_law 355 (.aload_n 0) 1 356 := ⟨k_dL_law_352.2.2.2.1, rfl⟩
theorem dL_law_356 : Dc mL_law 356 (.iload 4) 2 358 := ⟨k_dL_law_352.2.2.2.2.1, rfl⟩
theorem dL_law_358 : Dc mL_law 358 (.iconst 2) 1 359 := ⟨k_dL_law_352.2.2.2.2.2, rfl⟩
theorem k_dL_law_359 : decode (mL_law).2.1 359 = .ok ((.iadd), 1) ∧ decode (mL_law).2.1 360 = .ok ((.iaload), 1) ∧ decode (mL_law).2.1 361 = .ok ((.invokevirtual 38), 3) ∧ decode (mL_law).2.1 364 = .ok ((.pop), 1) ∧ decode (mL_law).2.1 365 = .ok ((.goto 1044), 3) ∧ decode (mL_law).2.1 368 = .ok ((.aload_n 1), 1) := by decide +kernel
theorem dL_law_359 : Dc mL_law 359 (.iadd) 1 360 := ⟨k_dL_law_359.1, rfl⟩
theorem dL_law_360 : Dc mL_law 360 (.iaload) 1 361 := ⟨k_dL_law_359.2.1, rfl⟩
theorem dL_law_361 : Dc mL_law 361 (.invokevirtual 38) 3 364 := ⟨k_dL_law_359.2.2.1, rfl⟩
theorem dL_law_364 : Dc mL_law 364 (.pop) 1 365 := ⟨k_dL_law_359.2.2.2.1, rfl⟩
theorem dL_law_365 : Dc mL_law 365 (.goto 1044) 3 368 := ⟨k_dL_law_359.2.2.2.2.1, rfl⟩
theorem dL_law_368 : Dc mL_law 368 (.aload_n 1) 1 369 := ⟨k_dL_law_359.2.2.2.2.2, rfl⟩
theorem k_dL_law_369 : decode (mL_law).2.1 369 = .ok ((.aload_n 0), 1) ∧ decode (mL_law).2.1 370 = .ok ((.iload 4), 2) ∧ decode (mL_law).2.1 372 = .ok ((.iconst 1), 1) ∧ decode (mL_law).2.1 373 = .ok ((.iadd), 1) ∧ decode (mL_law).2.1 374 = .ok ((.iaload), 1) ∧ decode (mL_law).2.1 375 = .ok ((.aload_n 0), 1) := by decide +kernel
theorem dL_law_369 : Dc mL_law 369 (.aload_n 0) 1 370 := ⟨k_dL_law_369.1, rfl⟩
theorem dL_law_370 : Dc mL_law 370 (.iload 4) 2 372 := ⟨k_dL_law_369.2.1, rfl⟩
theorem dL_law_372 : Dc mL_law 372 (.iconst 1) 1 373 := ⟨k_dL_law_369.2.2.1, rfl⟩
theorem dL_law_373 : Dc mL_law 373 (.iadd) 1 374 := ⟨k_dL_law_369.2.2.2.1, rfl⟩
theorem dL_law_374 : Dc mL_law 374 (.iaload) 1 375 := ⟨k_dL_law_369.2.2.2.2.1, rfl⟩
theorem dL_law_375 : Dc mL_law 375 (.aload_n 0) 1 376 := ⟨k_dL_law_369.2.2.2.2.2, rfl⟩
theorem k_dL_law_376 : decode (mL_law).2.1 376 = .ok ((.iload 4), 2) ∧ decode (mL_law).2.1 378 = .ok ((.iconst 2), 1) ∧ decode (mL_law).2.1 379 = .ok ((.iadd), 1) ∧ decode (mL_law).2.1 380 = .ok ((.iaload), 1) ∧ decode (mL_law).2.1 381 = .ok ((.aload_n 3), 1) ∧ decode (mL_law).2.1 382 = .ok ((.invokestatic 39), 3) := by decide +kernel
theorem dL_law_376 : Dc mL_law 376 (.iload 4) 2 378 := ⟨k_dL_law_376.1, rfl⟩
theorem dL_law_378 : Dc mL_law 378 (.iconst 2) 1 379 := ⟨k_dL_law_376.2.1, rfl⟩
theorem dL_law_379 : Dc mL_law 379 (.iadd) 1 380 := ⟨k_dL_law_376.2.2.1, rfl⟩
theorem dL_law_380 : Dc mL_law 380 (.iaload) 1 381 := ⟨k_dL_law_376.2.2.2.1, rfl⟩
theorem dL_law_381 : Dc mL_law 381 (.aload_n 3) 1 382 := ⟨k_dL_law_376.2.2.2.2.1, rfl⟩
theorem dL_law_382 : Dc mL_law 382 (.invokestatic 39) 3 385 := ⟨k_dL_law_376.2.2.2.2.2, rfl⟩
theorem k_dL_law_385 : decode (mL_law).2.1 385 = .ok ((.istore 5), 2) ∧ decode (mL_law).2.1 387 = .ok ((.aload_n 2), 1) ∧ decode (mL_law).2.1 388 = .ok ((.aload_n 0), 1) ∧ decode (mL_law).2.1 389 = .ok ((.iload 4), 2) ∧ decode (mL_law).2.1 391 = .ok ((.iconst 1), 1) ∧ decode (mL_law).2.1 392 = .ok ((.iadd), 1) := by decide +kernel
theorem dL_law_385 : Dc mL_law 385 (.istore 5) 2 387 := ⟨k_dL_law_385.1, rfl⟩
theorem dL_law_387 : Dc mL_law 387 (.aload_n 2) 1 388 := ⟨k_dL_law_385.2.1, rfl⟩
theorem dL_law_388 : Dc mL_law 388 (.aload_n 0) 1 389 := ⟨k_dL_law_385.2.2.1, rfl⟩
theorem dL_law_389 : Dc mL_law 389 (.iload 4) 2 391 := ⟨k_dL_law_385.2.2.2.1, rfl⟩
theorem dL_law_391 : Dc mL_law 391 (.iconst 1) 1 392 := ⟨k_dL_law_385.2.2.2.2.1, rfl⟩
theorem dL_law_392 : Dc mL_law 392 (.iadd) 1 393 := ⟨k_dL_law_385.2.2.2.2.2, rfl⟩
theorem k_dL_law_393 : decode (mL_law).2.1 393 = .ok ((.iaload), 1) ∧ decode (mL_law).2.1 394 = .ok ((.aload_n 0), 1) ∧ decode (mL_law).2.1 395 = .ok ((.iload 4), 2) ∧ decode (mL_law).2.1 397 = .ok ((.iconst 2), 1) ∧ decode (mL_law).2.1 398 = .ok ((.iadd), 1) ∧ decode (mL_law).2.1 399 = .ok ((.iaload), 1) := by decide +kernel
theorem dL_law_393 : Dc mL_law 393 (.iaload) 1 394 := ⟨k_dL_law_393.1, rfl⟩
theorem dL_law_394 : Dc mL_law 394 (.aload_n 0) 1 395 := ⟨k_dL_law_393.2.1, rfl⟩
theorem dL_law_395 : Dc mL_law 395 (.iload 4) 2 397 := ⟨k_dL_law_393.2.2.1, rfl⟩
theorem dL_law_397 : Dc mL_law 397 (.iconst 2) 1 398 := ⟨k_dL_law_393.2.2.2.1, rfl⟩
theorem dL_law_398 : Dc mL_law 398 (.iadd) 1 399 := ⟨k_dL_law_393.2.2.2.2.1, rfl⟩
theorem dL_law_399 : Dc mL_law 399 (.iaload) 1 400 := ⟨k_dL_law_393.2.2.2.2.2, rfl⟩
theorem k_dL_law_400 : decode (mL_law).2.1 400 = .ok ((.invokevirtual 44), 3) ∧ decode (mL_law).2.1 403 = .ok ((.istore 6), 2) ∧ decode (mL_law).2.1 405 = .ok ((.aload_n 2), 1) ∧ decode (mL_law).2.1 406 = .ok ((.invokevirtual 45), 3) ∧ decode (mL_law).2.1 409 = .ok ((.iload 5), 2) ∧ decode (mL_law).2.1 411 = .ok ((.if_icmp .eq 5), 3) := by decide +kernel
theorem dL_law_400 : Dc mL_law 400 (.invokevirtual 44) 3 403 := ⟨k_dL_law_400.1, rfl⟩
theorem dL_law_403 : Dc mL_law 403 (.istore 6) 2 405 := ⟨k_dL_law_400.2.1, rfl⟩
theorem dL_law_405 : Dc mL_law 405 (.aload_n 2) 1 406 := ⟨k_dL_law_400.2.2.1, rfl⟩
theorem dL_law_406 : Dc mL_law 406 (.invokevirtual 45) 3 409 := ⟨k_dL_law_400.2.2.2.1, rfl⟩
theorem dL_law_409 : Dc mL_law 409 (.iload 5) 2 411 := ⟨k_dL_law_400.2.2.2.2.1, rfl⟩
theorem dL_law_411 : Dc mL_law 411 (.if_icmp .eq 5) 3 414 := ⟨k_dL_law_400.2.2.2.2.2, rfl⟩
theorem k_dL_law_414 : decode (mL_law).2.1 414 = .ok ((.iconst 0), 1) ∧ decode (mL_law).2.1 415 = .ok ((.ireturn), 1) ∧ decode (mL_law).2.1 416 = .ok ((.iload 5), 2) ∧ decode (mL_law).2.1 418 = .ok ((.ifCond .ne 15), 3) ∧ decode (mL_law).2.1 421 = .ok ((.aload_n 3), 1) ∧ decode (mL_law).2.1 422 = .ok ((.iconst 0), 1) := by decide +kernel
theorem dL_law_414 : Dc mL_law 414 (.iconst 0) 1 415 := ⟨k_dL_law_414.1, rfl⟩
theorem dL_law_415 : Dc mL_law 415 (.ireturn) 1 416 := ⟨k_dL_law_414.2.1, rfl⟩
theorem dL_law_416 : Dc mL_law 416 (.iload 5) 2 418 := ⟨k_dL_law_414.2.2.1, rfl⟩
theorem dL_law_418 : Dc mL_law 418 (.ifCond .ne 15) 3 421 := ⟨k_dL_law_414.2.2.2.1, rfl⟩
theorem dL_law_421 : Dc mL_law 421 (.aload_n 3) 1 422 := ⟨k_dL_law_414.2.2.2.2.1, rfl⟩
theorem dL_law_422 : Dc mL_law 422 (.iconst 0) 1 423 := ⟨k_dL_law_414.2.2.2.2.2, rfl⟩
theorem k_dL_law_423 : decode (mL_law).2.1 423 = .ok ((.laload), 1) ∧ decode (mL_law).2.1 424 = .ok ((.iload 6), 2) ∧ decode (mL_law).2.1 426 = .ok ((.i2l), 1) ∧ decode (mL_law).2.1 427 = .ok ((.lcmp), 1) ∧ decode (mL_law).2.1 428 = .ok ((.ifCond .eq 5), 3) ∧ decode (mL_law).2.1 431 = .ok ((.iconst 0), 1) := by decide +kernel
theorem dL_law_423 : Dc mL_law 423 (.laload) 1 424 := ⟨k_dL_law_423.1, rfl⟩
theorem dL_law_424 : Dc mL_law 424 (.iload 6) 2 426 := ⟨k_dL_law_423.2.1, rfl⟩
theorem dL_law_426 : Dc mL_law 426 (.i2l) 1 427 := ⟨k_dL_law_423.2.2.1, rfl⟩
theorem dL_law_427 : Dc mL_law 427 (.lcmp) 1 428 := ⟨k_dL_law_423.2.2.2.1, rfl⟩
theorem dL_law_428 : Dc mL_law 428 (.ifCond .eq 5) 3 431 := ⟨k_dL_law_423.2.2.2.2.1, rfl⟩
theorem dL_law_431 : Dc mL_law 431 (.iconst 0) 1 432 := ⟨k_dL_law_423.2.2.2.2.2, rfl⟩
theorem k_dL_law_432 : decode (mL_law).2.1 432 = .ok ((.ireturn), 1) ∧ decode (mL_law).2.1 433 = .ok ((.goto 976), 3) ∧ decode (mL_law).2.1 436 = .ok ((.aload_n 1), 1) ∧ decode (mL_law).2.1 437 = .ok ((.aload_n 0), 1) ∧ decode (mL_law).2.1 438 = .ok ((.iload 4), 2) ∧ decode (mL_law).2.1 440 = .ok ((.iconst 1), 1) := by decide +kernel
theorem dL_law_432 : Dc mL_law 432 (.ireturn) 1 433 := ⟨k_dL_law_432.1, rfl⟩
theorem dL_law_433 : Dc mL_law 433 (.goto 976) 3 436 := ⟨k_dL_law_432.2.1, rfl⟩
theorem dL_law_436 : Dc mL_law 436 (.aload_n 1) 1 437 := ⟨k_dL_law_432.2.2.1, rfl⟩
theorem dL_law_437 : Dc mL_law 437 (.aload_n 0) 1 438 := ⟨k_dL_law_432.2.2.2.1, rfl⟩
theorem dL_law_438 : Dc mL_law 438 (.iload 4) 2 440 := ⟨k_dL_law_432.2.2.2.2.1, rfl⟩
theorem dL_law_440 : Dc mL_law 440 (.iconst 1) 1 441 := ⟨k_dL_law_432.2.2.2.2.2, rfl⟩
theorem k_dL_law_441 : decode (mL_law).2.1 441 = .ok ((.iadd), 1) ∧ decode (mL_law).2.1 442 = .ok ((.iaload), 1) ∧ decode (mL_law).2.1 443 = .ok ((.aload_n 0), 1) ∧ decode (mL_law).2.1 444 = .ok ((.iload 4), 2) ∧ decode (mL_law).2.1 446 = .ok ((.iconst 2), 1) ∧ decode (mL_law).2.1 447 = .ok ((.iadd), 1) := by decide +kernel
theorem dL_law_441 : Dc mL_law 441 (.iadd) 1 442 := ⟨k_dL_law_441.1, rfl⟩
theorem dL_law_442 : Dc mL_law 442 (.iaload) 1 443 := ⟨k_dL_law_441.2.1, rfl⟩
theorem dL_law_443 : Dc mL_law 443 (.aload_n 0) 1 444 := ⟨k_dL_law_441.2.2.1, rfl⟩
theorem dL_law_444 : Dc mL_law 444 (.iload 4) 2 446 := ⟨k_dL_law_441.2.2.2.1, rfl⟩
theorem dL_law_446 : Dc mL_law 446 (.iconst 2) 1 447 := ⟨k_dL_law_441.2.2.2.2.1, rfl⟩
theorem dL_law_447 : Dc mL_law 447 (.iadd) 1 448 := ⟨k_dL_law_441.2.2.2.2.2, rfl⟩
theorem k_dL_law_448 : decode (mL_law).2.1 448 = .ok ((.iaload), 1) ∧ decode (mL_law).2.1 449 = .ok ((.invokevirtual 49), 3) ∧ decode (mL_law).2.1 452 = .ok ((.pop), 1) ∧ decode (mL_law).2.1 453 = .ok ((.aload_n 2), 1) ∧ decode (mL_law).2.1 454 = .ok ((.aload_n 0), 1) ∧ decode (mL_law).2.1 455 = .ok ((.iload 4), 2) := by decide +kernel
theorem dL_law_448 : Dc mL_law 448 (.iaload) 1 449 := ⟨k_dL_law_448.1, rfl⟩
theorem dL_law_449 : Dc mL_law 449 (.invokevirtual 49) 3 452 := ⟨k_dL_law_448.2.1, rfl⟩
theorem dL_law_452 : Dc mL_law 452 (.pop) 1 453 := ⟨k_dL_law_448.2.2.1, rfl⟩
theorem dL_law_453 : Dc mL_law 453 (.aload_n 2) 1 454 := ⟨k_dL_law_448.2.2.2.1, rfl⟩
theorem dL_law_454 : Dc mL_law 454 (.aload_n 0) 1 455 := ⟨k_dL_law_448.2.2.2.2.1, rfl⟩
theorem dL_law_455 : Dc mL_law 455 (.iload 4) 2 457 := ⟨k_dL_law_448.2.2.2.2.2, rfl⟩
theorem k_dL_law_457 : decode (mL_law).2.1 457 = .ok ((.iconst 1), 1) ∧ decode (mL_law).2.1 458 = .ok ((.iadd), 1) ∧ decode (mL_law).2.1 459 = .ok ((.iaload), 1) ∧ decode (mL_law).2.1 460 = .ok ((.aload_n 0), 1) ∧ decode (mL_law).2.1 461 = .ok ((.iload 4), 2) ∧ decode (mL_law).2.1 463 = .ok ((.iconst 2), 1) := by decide +kernel
theorem dL_law_457 : Dc mL_law 457 (.iconst 1) 1 458 := ⟨k_dL_law_457.1, rfl⟩
theorem dL_law_458 : Dc mL_law 458 (.iadd) 1 459 := ⟨k_dL_law_457.2.1, rfl⟩
theorem dL_law_459 : Dc mL_law 459 (.iaload) 1 460 := ⟨k_dL_law_457.2.2.1, rfl⟩
theorem dL_law_460 : Dc mL_law 460 (.aload_n 0) 1 461 := ⟨k_dL_law_457.2.2.2.1, rfl⟩
theorem dL_law_461 : Dc mL_law 461 (.iload 4) 2 463 := ⟨k_dL_law_457.2.2.2.2.1, rfl⟩
theorem dL_law_463 : Dc mL_law 463 (.iconst 2) 1 464 := ⟨k_dL_law_457.2.2.2.2.2, rfl⟩
theorem k_dL_law_464 : decode (mL_law).2.1 464 = .ok ((.iadd), 1) ∧ decode (mL_law).2.1 465 = .ok ((.iaload), 1) ∧ decode (mL_law).2.1 466 = .ok ((.invokevirtual 52), 3) ∧ decode (mL_law).2.1 469 = .ok ((.pop), 1) ∧ decode (mL_law).2.1 470 = .ok ((.goto 939), 3) ∧ decode (mL_law).2.1 473 = .ok ((.aload_n 1), 1) := by decide +kernel
theorem dL_law_464 : Dc mL_law 464 (.iadd) 1 465 := ⟨k_dL_law_464.1, rfl⟩
theorem dL_law_465 : Dc mL_law 465 (.iaload) 1 466 := ⟨k_dL_law_464.2.1, rfl⟩
theorem dL_law_466 : Dc mL_law 466 (.invokevirtual 52) 3 469 := ⟨k_dL_law_464.2.2.1, rfl⟩
theorem dL_law_469 : Dc mL_law 469 (.pop) 1 470 := ⟨k_dL_law_464.2.2.2.1, rfl⟩
theorem dL_law_470 : Dc mL_law 470 (.goto 939) 3 473 := ⟨k_dL_law_464.2.2.2.2.1, rfl⟩
theorem dL_law_473 : Dc mL_law 473 (.aload_n 1) 1 474 := ⟨k_dL_law_464.2.2.2.2.2, rfl⟩
theorem k_dL_law_474 : decode (mL_law).2.1 474 = .ok ((.aload_n 0), 1) ∧ decode (mL_law).2.1 475 = .ok ((.iload 4), 2) ∧ decode (mL_law).2.1 477 = .ok ((.iconst 1), 1) ∧ decode (mL_law).2.1 478 = .ok ((.iadd), 1) ∧ decode (mL_law).2.1 479 = .ok ((.iaload), 1) ∧ decode (mL_law).2.1 480 = .ok ((.aload_n 0), 1) := by decide +kernel
theorem dL_law_474 : Dc mL_law 474 (.aload_n 0) 1 475 := ⟨k_dL_law_474.1, rfl⟩
theorem dL_law_475 : Dc mL_law 475 (.iload 4) 2 477 := ⟨k_dL_law_474.2.1, rfl⟩
theorem dL_law_477 : Dc mL_law 477 (.iconst 1) 1 478 := ⟨k_dL_law_474.2.2.1, rfl⟩
theorem dL_law_478 : Dc mL_law 478 (.iadd) 1 479 := ⟨k_dL_law_474.2.2.2.1, rfl⟩
theorem dL_law_479 : Dc mL_law 479 (.iaload) 1 480 := ⟨k_dL_law_474.2.2.2.2.1, rfl⟩
theorem dL_law_480 : Dc mL_law 480 (.aload_n 0) 1 481 := ⟨k_dL_law_474.2.2.2.2.2, rfl⟩
theorem k_dL_law_481 : decode (mL_law).2.1 481 = .ok ((.iload 4), 2) ∧ decode (mL_law).2.1 483 = .ok ((.iconst 2), 1) ∧ decode (mL_law).2.1 484 = .ok ((.iadd), 1) ∧ decode (mL_law).2.1 485 = .ok ((.iaload), 1) ∧ decode (mL_law).2.1 486 = .ok ((.invokevirtual 53), 3) ∧ decode (mL_law).2.1 489 = .ok ((.pop), 1) := by decide +kernel
theorem dL_law_481 : Dc mL_law 481 (.iload 4) 2 483 := ⟨k_dL_law_481.1, rfl⟩
theorem dL_law_483 : Dc mL_law 483 (.iconst 2) 1 484 := ⟨k_dL_law_481.2.1, rfl⟩
theorem dL_law_484 : Dc mL_law 484 (.iadd) 1 485 := ⟨k_dL_law_481.2.2.1, rfl⟩
theorem dL_law_485 : Dc mL_law 485 (.iaload) 1 486 := ⟨k_dL_law_481.2.2.2.1, rfl⟩
theorem dL_law_486 : Dc mL_law 486 (.invokevirtual 53) 3 489 := ⟨k_dL_law_481.2.2.2.2.1, rfl⟩
theorem dL_law_489 : Dc mL_law 489 (.pop) 1 490 := ⟨k_dL_law_481.2.2.2.2.2, rfl⟩
theorem k_dL_law_490 : decode (mL_law).2.1 490 = .ok ((.aload_n 2), 1) ∧ decode (mL_law).2.1 491 = .ok ((.aload_n 0), 1) ∧ decode (mL_law).2.1 492 = .ok ((.iload 4), 2) ∧ decode (mL_law).2.1 494 = .ok ((.iconst 1), 1) ∧ decode (mL_law).2.1 495 = .ok ((.iadd), 1) ∧ decode (mL_law).2.1 496 = .ok ((.iaload), 1) := by decide +kernel
theorem dL_law_490 : Dc mL_law 490 (.aload_n 2) 1 491 := ⟨k_dL_law_490.1, rfl⟩
theorem dL_law_491 : Dc mL_law 491 (.aload_n 0) 1 492 := ⟨k_dL_law_490.2.1, rfl⟩
theorem dL_law_492 : Dc mL_law 492 (.iload 4) 2 494 := ⟨k_dL_law_490.2.2.1, rfl⟩
theorem dL_law_494 : Dc mL_law 494 (.iconst 1) 1 495 := ⟨k_dL_law_490.2.2.2.1, rfl⟩
theorem dL_law_495 : Dc mL_law 495 (.iadd) 1 496 := ⟨k_dL_law_490.2.2.2.2.1, rfl⟩
theorem dL_law_496 : Dc mL_law 496 (.iaload) 1 497 := ⟨k_dL_law_490.2.2.2.2.2, rfl⟩
theorem k_dL_law_497 : decode (mL_law).2.1 497 = .ok ((.aload_n 0), 1) ∧ decode (mL_law).2.1 498 = .ok ((.iload 4), 2) ∧ decode (mL_law).2.1 500 = .ok ((.iconst 2), 1) ∧ decode (mL_law).2.1 501 = .ok ((.iadd), 1) ∧ decode (mL_law).2.1 502 = .ok ((.iaload), 1) ∧ decode (mL_law).2.1 503 = .ok ((.invokevirtual 56), 3) := by decide +kernel
theorem dL_law_497 : Dc mL_law 497 (.aload_n 0) 1 498 := ⟨k_dL_law_497.1, rfl⟩
theorem dL_law_498 : Dc mL_law 498 (.iload 4) 2 500 := ⟨k_dL_law_497.2.1, rfl⟩
theorem dL_law_500 : Dc mL_law 500 (.iconst 2) 1 501 := ⟨k_dL_law_497.2.2.1, rfl⟩
theorem dL_law_501 : Dc mL_law 501 (.iadd) 1 502 := ⟨k_dL_law_497.2.2.2.1, rfl⟩
theorem dL_law_502 : Dc mL_law 502 (.iaload) 1 503 := ⟨k_dL_law_497.2.2.2.2.1, rfl⟩
theorem dL_law_503 : Dc mL_law 503 (.invokevirtual 56) 3 506 := ⟨k_dL_law_497.2.2.2.2.2, rfl⟩
theorem k_dL_law_506 : decode (mL_law).2.1 506 = .ok ((.pop), 1) ∧ decode (mL_law).2.1 507 = .ok ((.goto 902), 3) ∧ decode (mL_law).2.1 510 = .ok ((.aload_n 1), 1) ∧ decode (mL_law).2.1 511 = .ok ((.aload_n 0), 1) ∧ decode (mL_law).2.1 512 = .ok ((.iload 4), 2) ∧ decode (mL_law).2.1 514 = .ok ((.iconst 1), 1) := by decide +kernel
theorem dL_law_506 : Dc mL_law 506 (.pop) 1 507 := ⟨k_dL_law_506.1, rfl⟩
theorem dL_law_507 : Dc mL_law 507 (.goto 902) 3 510 := ⟨k_dL_law_506.2.1, rfl⟩
theorem dL_law_510 : Dc mL_law 510 (.aload_n 1) 1 511 := ⟨k_dL_law_506.2.2.1, rfl⟩
theorem dL_law_511 : Dc mL_law 511 (.aload_n 0) 1 512 := ⟨k_dL_law_506.2.2.2.1, rfl⟩
theorem dL_law_512 : Dc mL_law 512 (.iload 4) 2 514 := ⟨k_dL_law_506.2.2.2.2.1, rfl⟩
theorem dL_law_514 : Dc mL_law 514 (.iconst 1) 1 515 := ⟨k_dL_law_506.2.2.2.2.2, rfl⟩
theorem k_dL_law_515 : decode (mL_law).2.1 515 = .ok ((.iadd), 1) ∧ decode (mL_law).2.1 516 = .ok ((.iaload), 1) ∧ decode (mL_law).2.1 517 = .ok ((.aload_n 0), 1) ∧ decode (mL_law).2.1 518 = .ok ((.iload 4), 2) ∧ decode (mL_law).2.1 520 = .ok ((.iconst 2), 1) ∧ decode (mL_law).2.1 521 = .ok ((.iadd), 1) := by decide +kernel
theorem dL_law_515 : Dc mL_law 515 (.iadd) 1 516 := ⟨k_dL_law_515.1, rfl⟩
theorem dL_law_516 : Dc mL_law 516 (.iaload) 1 517 := ⟨k_dL_law_515.2.1, rfl⟩
theorem dL_law_517 : Dc mL_law 517 (.aload_n 0) 1 518 := ⟨k_dL_law_515.2.2.1, rfl⟩
theorem dL_law_518 : Dc mL_law 518 (.iload 4) 2 520 := ⟨k_dL_law_515.2.2.2.1, rfl⟩
theorem dL_law_520 : Dc mL_law 520 (.iconst 2) 1 521 := ⟨k_dL_law_515.2.2.2.2.1, rfl⟩
theorem dL_law_521 : Dc mL_law 521 (.iadd) 1 522 := ⟨k_dL_law_515.2.2.2.2.2, rfl⟩
theorem k_dL_law_522 : decode (mL_law).2.1 522 = .ok ((.iaload), 1) ∧ decode (mL_law).2.1 523 = .ok ((.invokevirtual 57), 3) ∧ decode (mL_law).2.1 526 = .ok ((.pop), 1) ∧ decode (mL_law).2.1 527 = .ok ((.aload_n 2), 1) ∧ decode (mL_law).2.1 528 = .ok ((.aload_n 0), 1) ∧ decode (mL_law).2.1 529 = .ok ((.iload 4), 2) := by decide +kernel
theorem dL_law_522 : Dc mL_law 522 (.iaload) 1 523 := ⟨k_dL_law_522.1, rfl⟩
theorem dL_law_523 : Dc mL_law 523 (.invokevirtual 57) 3 526 := ⟨k_dL_law_522.2.1, rfl⟩
theorem dL_law_526 : Dc mL_law 526 (.pop) 1 527 := ⟨k_dL_law_522.2.2.1, rfl⟩
theorem dL_law_527 : Dc mL_law 527 (.aload_n 2) 1 528 := ⟨k_dL_law_522.2.2.2.1, rfl⟩
theorem dL_law_528 : Dc mL_law 528 (.aload_n 0) 1 529 := ⟨k_dL_law_522.2.2.2.2.1, rfl⟩
theorem dL_law_529 : Dc mL_law 529 (.iload 4) 2 531 := ⟨k_dL_law_522.2.2.2.2.2, rfl⟩
theorem k_dL_law_531 : decode (mL_law).2.1 531 = .ok ((.iconst 1), 1) ∧ decode (mL_law).2.1 532 = .ok ((.iadd), 1) ∧ decode (mL_law).2.1 533 = .ok ((.iaload), 1) ∧ decode (mL_law).2.1 534 = .ok ((.aload_n 0), 1) ∧ decode (mL_law).2.1 535 = .ok ((.iload 4), 2) ∧ decode (mL_law).2.1 537 = .ok ((.iconst 2), 1) := by decide +kernel
theorem dL_law_531 : Dc mL_law 531 (.iconst 1) 1 532 := ⟨k_dL_law_531.1, rfl⟩
theorem dL_law_532 : Dc mL_law 532 (.iadd) 1 533 := ⟨k_dL_law_531.2.1, rfl⟩
theorem dL_law_533 : Dc mL_law 533 (.iaload) 1 534 := ⟨k_dL_law_531.2.2.1, rfl⟩
theorem dL_law_534 : Dc mL_law 534 (.aload_n 0) 1 535 := ⟨k_dL_law_531.2.2.2.1, rfl⟩
theorem dL_law_535 : Dc mL_law 535 (.iload 4) 2 537 := ⟨k_dL_law_531.2.2.2.2.1, rfl⟩
theorem dL_law_537 : Dc mL_law 537 (.iconst 2) 1 538 := ⟨k_dL_law_531.2.2.2.2.2, rfl⟩
theorem k_dL_law_538 : decode (mL_law).2.1 538 = .ok ((.iadd), 1) ∧ decode (mL_law).2.1 539 = .ok ((.iaload), 1) ∧ decode (mL_law).2.1 540 = .ok ((.invokevirtual 60), 3) ∧ decode (mL_law).2.1 543 = .ok ((.pop), 1) ∧ decode (mL_law).2.1 544 = .ok ((.goto 865), 3) ∧ decode (mL_law).2.1 547 = .ok ((.aload_n 1), 1) := by decide +kernel
theorem dL_law_538 : Dc mL_law 538 (.iadd) 1 539 := ⟨k_dL_law_538.1, rfl⟩
theorem dL_law_539 : Dc mL_law 539 (.iaload) 1 540 := ⟨k_dL_law_538.2.1, rfl⟩
theorem dL_law_540 : Dc mL_law 540 (.invokevirtual 60) 3 543 := ⟨k_dL_law_538.2.2.1, rfl⟩
theorem dL_law_543 : Dc mL_law 543 (.pop) 1 544 := ⟨k_dL_law_538.2.2.2.1, rfl⟩
theorem dL_law_544 : Dc mL_law 544 (.goto 865) 3 547 := ⟨k_dL_law_538.2.2.2.2.1, rfl⟩
theorem dL_law_547 : Dc mL_law 547 (.aload_n 1) 1 548 := ⟨k_dL_law_538.2.2.2.2.2, rfl⟩
theorem k_dL_law_548 : decode (mL_law).2.1 548 = .ok ((.aload_n 0), 1) ∧ decode (mL_law).2.1 549 = .ok ((.iload 4), 2) ∧ decode (mL_law).2.1 551 = .ok ((.iconst 1), 1) ∧ decode (mL_law).2.1 552 = .ok ((.iadd), 1) ∧ decode (mL_law).2.1 553 = .ok ((.iaload), 1) ∧ decode (mL_law).2.1 554 = .ok ((.invokevirtual 61), 3) := by decide +kernel
theorem dL_law_548 : Dc mL_law 548 (.aload_n 0) 1 549 := ⟨k_dL_law_548.1, rfl⟩
theorem dL_law_549 : Dc mL_law 549 (.iload 4) 2 551 := ⟨k_dL_law_548.2.1, rfl⟩
theorem dL_law_551 : Dc mL_law 551 (.iconst 1) 1 552 := ⟨k_dL_law_548.2.2.1, rfl⟩
theorem dL_law_552 : Dc mL_law 552 (.iadd) 1 553 := ⟨k_dL_law_548.2.2.2.1, rfl⟩
theorem dL_law_553 : Dc mL_law 553 (.iaload) 1 554 := ⟨k_dL_law_548.2.2.2.2.1, rfl⟩
theorem dL_law_554 : Dc mL_law 554 (.invokevirtual 61) 3 557 := ⟨k_dL_law_548.2.2.2.2.2, rfl⟩
theorem k_dL_law_557 : decode (mL_law).2.1 557 = .ok ((.pop), 1) ∧ decode (mL_law).2.1 558 = .ok ((.aload_n 2), 1) ∧ decode (mL_law).2.1 559 = .ok ((.aload_n 0), 1) ∧ decode (mL_law).2.1 560 = .ok ((.iload 4), 2) ∧ decode (mL_law).2.1 562 = .ok ((.iconst 1), 1) ∧ decode (mL_law).2.1 563 = .ok ((.iadd), 1) := by decide +kernel
theorem dL_law_557 : Dc mL_law 557 (.pop) 1 558 := ⟨k_dL_law_557.1, rfl⟩
theorem dL_law_558 : Dc mL_law 558 (.aload_n 2) 1 559 := ⟨k_dL_law_557.2.1, rfl⟩
theorem dL_law_559 : Dc mL_law 559 (.aload_n 0) 1 560 := ⟨k_dL_law_557.2.2.1, rfl⟩
theorem dL_law_560 : Dc mL_law 560 (.iload 4) 2 562 := ⟨k_dL_law_557.2.2.2.1, rfl⟩
theorem dL_law_562 : Dc mL_law 562 (.iconst 1) 1 563 := ⟨k_dL_law_557.2.2.2.2.1, rfl⟩
theorem dL_law_563 : Dc mL_law 563 (.iadd) 1 564 := ⟨k_dL_law_557.2.2.2.2.2, rfl⟩
theorem k_dL_law_564 : decode (mL_law).2.1 564 = .ok ((.iaload), 1) ∧ decode (mL_law).2.1 565 = .ok ((.invokevirtual 64), 3) ∧ decode (mL_law).2.1 568 = .ok ((.pop), 1) ∧ decode (mL_law).2.1 569 = .ok ((.goto 840), 3) ∧ decode (mL_law).2.1 572 = .ok ((.aload_n 1), 1) ∧ decode (mL_law).2.1 573 = .ok ((.aload_n 0), 1) := by decide +kernel
theorem dL_law_564 : Dc mL_law 564 (.iaload) 1 565 := ⟨k_dL_law_564.1, rfl⟩
theorem dL_law_565 : Dc mL_law 565 (.invokevirtual 64) 3 568 := ⟨k_dL_law_564.2.1, rfl⟩
theorem dL_law_568 : Dc mL_law 568 (.pop) 1 569 := ⟨k_dL_law_564.2.2.1, rfl⟩
theorem dL_law_569 : Dc mL_law 569 (.goto 840) 3 572 := ⟨k_dL_law_564.2.2.2.1, rfl⟩
theorem dL_law_572 : Dc mL_law 572 (.aload_n 1) 1 573 := ⟨k_dL_law_564.2.2.2.2.1, rfl⟩
theorem dL_law_573 : Dc mL_law 573 (.aload_n 0) 1 574 := ⟨k_dL_law_564.2.2.2.2.2, rfl⟩
theorem k_dL_law_574 : decode (mL_law).2.1 574 = .ok ((.iload 4), 2) ∧ decode (mL_law).2.1 576 = .ok ((.iconst 1), 1) ∧ decode (mL_law).2.1 577 = .ok ((.iadd), 1) ∧ decode (mL_law).2.1 578 = .ok ((.iaload), 1) ∧ decode (mL_law).2.1 579 = .ok ((.aload_n 0), 1) ∧ decode (mL_law).2.1 580 = .ok ((.iload 4), 2) := by decide +kernel
theorem dL_law_574 : Dc mL_law 574 (.iload 4) 2 576 := ⟨k_dL_law_574.1, rfl⟩
theorem dL_law_576 : Dc mL_law 576 (.iconst 1) 1 577 := ⟨k_dL_law_574.2.1, rfl⟩
theorem dL_law_577 : Dc mL_law 577 (.iadd) 1 578 := ⟨k_dL_law_574.2.2.1, rfl⟩
theorem dL_law_578 : Dc mL_law 578 (.iaload) 1 579 := ⟨k_dL_law_574.2.2.2.1, rfl⟩
theorem dL_law_579 : Dc mL_law 579 (.aload_n 0) 1 580 := ⟨k_dL_law_574.2.2.2.2.1, rfl⟩
theorem dL_law_580 : Dc mL_law 580 (.iload 4) 2 582 := ⟨k_dL_law_574.2.2.2.2.2, rfl⟩
theorem k_dL_law_582 : decode (mL_law).2.1 582 = .ok ((.iconst 2), 1) ∧ decode (mL_law).2.1 583 = .ok ((.iadd), 1) ∧ decode (mL_law).2.1 584 = .ok ((.iaload), 1) ∧ decode (mL_law).2.1 585 = .ok ((.aload_n 0), 1) ∧ decode (mL_law).2.1 586 = .ok ((.iload 4), 2) ∧ decode (mL_law).2.1 588 = .ok ((.iconst 3), 1) := by decide +kernel
theorem dL_law_582 : Dc mL_law 582 (.iconst 2) 1 583 := ⟨k_dL_law_582.1, rfl⟩
theorem dL_law_583 : Dc mL_law 583 (.iadd) 1 584 := ⟨k_dL_law_582.2.1, rfl⟩
theorem dL_law_584 : Dc mL_law 584 (.iaload) 1 585 := ⟨k_dL_law_582.2.2.1, rfl⟩
theorem dL_law_585 : Dc mL_law 585 (.aload_n 0) 1 586 := ⟨k_dL_law_582.2.2.2.1, rfl⟩
theorem dL_law_586 : Dc mL_law 586 (.iload 4) 2 588 := ⟨k_dL_law_582.2.2.2.2.1, rfl⟩
theorem dL_law_588 : Dc mL_law 588 (.iconst 3) 1 589 := ⟨k_dL_law_582.2.2.2.2.2, rfl⟩
theorem k_dL_law_589 : decode (mL_law).2.1 589 = .ok ((.iadd), 1) ∧ decode (mL_law).2.1 590 = .ok ((.iaload), 1) ∧ decode (mL_law).2.1 591 = .ok ((.invokevirtual 65), 3) ∧ decode (mL_law).2.1 594 = .ok ((.pop2), 1) ∧ decode (mL_law).2.1 595 = .ok ((.aload_n 2), 1) ∧ decode (mL_law).2.1 596 = .ok ((.aload_n 0), 1) := by decide +kernel
theorem dL_law_589 : Dc mL_law 589 (.iadd) 1 590 := ⟨k_dL_law_589.1, rfl⟩
theorem dL_law_590 : Dc mL_law 590 (.iaload) 1 591 := ⟨k_dL_law_589.2.1, rfl⟩
theorem dL_law_591 : Dc mL_law 591 (.invokevirtual 65) 3 594 := ⟨k_dL_law_589.2.2.1, rfl⟩
theorem dL_law_594 : Dc mL_law 594 (.pop2) 1 595 := ⟨k_dL_law_589.2.2.2.1, rfl⟩
theorem dL_law_595 : Dc mL_law 595 (.aload_n 2) 1 596 := ⟨k_dL_law_589.2.2.2.2.1, rfl⟩
theorem dL_law_596 : Dc mL_law 596 (.aload_n 0) 1 597 := ⟨k_dL_law_589.2.2.2.2.2, rfl⟩
theorem k_dL_law_597 : decode (mL_law).2.1 597 = .ok ((.iload 4), 2) ∧ decode (mL_law).2.1 599 = .ok ((.iconst 1), 1) ∧ decode (mL_law).2.1 600 = .ok ((.iadd), 1) ∧ decode (mL_law).2.1 601 = .ok ((.iaload), 1) ∧ decode (mL_law).2.1 602 = .ok ((.aload_n 0), 1) ∧ decode (mL_law).2.1 603 = .ok ((.iload 4), 2) := by decide +kernel
theorem dL_law_597 : Dc mL_law 597 (.iload 4) 2 599 := ⟨k_dL_law_597.1, rfl⟩
theorem dL_law_599 : Dc mL_law 599 (.iconst 1) 1 600 := ⟨k_dL_law_597.2.1, rfl⟩
theorem dL_law_600 : Dc mL_law 600 (.iadd) 1 601 := ⟨k_dL_law_597.2.2.1, rfl⟩
theorem dL_law_601 : Dc mL_law 601 (.iaload) 1 602 := ⟨k_dL_law_597.2.2.2.1, rfl⟩
theorem dL_law_602 : Dc mL_law 602 (.aload_n 0) 1 603 := ⟨k_dL_law_597.2.2.2.2.1, rfl⟩
theorem dL_law_603 : Dc mL_law 603 (.iload 4) 2 605 := ⟨k_dL_law_597.2.2.2.2.2, rfl⟩
theorem k_dL_law_605 : decode (mL_law).2.1 605 = .ok ((.iconst 2), 1) ∧ decode (mL_law).2.1 606 = .ok ((.iadd), 1) ∧ decode (mL_law).2.1 607 = .ok ((.iaload), 1) ∧ decode (mL_law).2.1 608 = .ok ((.aload_n 0), 1) ∧ decode (mL_law).2.1 609 = .ok ((.iload 4), 2) ∧ decode (mL_law).2.1 611 = .ok ((.iconst 3), 1) := by decide +kernel
theorem dL_law_605 : Dc mL_law 605 (.iconst 2) 1 606 := ⟨k_dL_law_605.1, rfl⟩
theorem dL_law_606 : Dc mL_law 606 (.iadd) 1 607 := ⟨k_dL_law_605.2.1, rfl⟩
theorem dL_law_607 : Dc mL_law 607 (.iaload) 1 608 := ⟨k_dL_law_605.2.2.1, rfl⟩
theorem dL_law_608 : Dc mL_law 608 (.aload_n 0) 1 609 := ⟨k_dL_law_605.2.2.2.1, rfl⟩
theorem dL_law_609 : Dc mL_law 609 (.iload 4) 2 611 := ⟨k_dL_law_605.2.2.2.2.1, rfl⟩
theorem dL_law_611 : Dc mL_law 611 (.iconst 3) 1 612 := ⟨k_dL_law_605.2.2.2.2.2, rfl⟩
theorem k_dL_law_612 : decode (mL_law).2.1 612 = .ok ((.iadd), 1) ∧ decode (mL_law).2.1 613 = .ok ((.iaload), 1) ∧ decode (mL_law).2.1 614 = .ok ((.invokevirtual 69), 3) ∧ decode (mL_law).2.1 617 = .ok ((.pop2), 1) ∧ decode (mL_law).2.1 618 = .ok ((.goto 791), 3) ∧ decode (mL_law).2.1 621 = .ok ((.aload_n 1), 1) := by decide +kernel
theorem dL_law_612 : Dc mL_law 612 (.iadd) 1 613 := ⟨k_dL_law_612.1, rfl⟩
theorem dL_law_613 : Dc mL_law 613 (.iaload) 1 614 := ⟨k_dL_law_612.2.1, rfl⟩
theorem dL_law_614 : Dc mL_law 614 (.invokevirtual 69) 3 617 := ⟨k_dL_law_612.2.2.1, rfl⟩
theorem dL_law_617 : Dc mL_law 617 (.pop2) 1 618 := ⟨k_dL_law_612.2.2.2.1, rfl⟩
theorem dL_law_618 : Dc mL_law 618 (.goto 791) 3 621 := ⟨k_dL_law_612.2.2.2.2.1, rfl⟩
theorem dL_law_621 : Dc mL_law 621 (.aload_n 1) 1 622 := ⟨k_dL_law_612.2.2.2.2.2, rfl⟩
theorem k_dL_law_622 : decode (mL_law).2.1 622 = .ok ((.aload_n 0), 1) ∧ decode (mL_law).2.1 623 = .ok ((.iload 4), 2) ∧ decode (mL_law).2.1 625 = .ok ((.iconst 1), 1) ∧ decode (mL_law).2.1 626 = .ok ((.iadd), 1) ∧ decode (mL_law).2.1 627 = .ok ((.iaload), 1) ∧ decode (mL_law).2.1 628 = .ok ((.aload_n 0), 1) := by decide +kernel
theorem dL_law_622 : Dc mL_law 622 (.aload_n 0) 1 623 := ⟨k_dL_law_622.1, rfl⟩
theorem dL_law_623 : Dc mL_law 623 (.iload 4) 2 625 := ⟨k_dL_law_622.2.1, rfl⟩
theorem dL_law_625 : Dc mL_law 625 (.iconst 1) 1 626 := ⟨k_dL_law_622.2.2.1, rfl⟩
theorem dL_law_626 : Dc mL_law 626 (.iadd) 1 627 := ⟨k_dL_law_622.2.2.2.1, rfl⟩
theorem dL_law_627 : Dc mL_law 627 (.iaload) 1 628 := ⟨k_dL_law_622.2.2.2.2.1, rfl⟩
theorem dL_law_628 : Dc mL_law 628 (.aload_n 0) 1 629 := ⟨k_dL_law_622.2.2.2.2.2, rfl⟩
theorem k_dL_law_629 : decode (mL_law).2.1 629 = .ok ((.iload 4), 2) ∧ decode (mL_law).2.1 631 = .ok ((.iconst 2), 1) ∧ decode (mL_law).2.1 632 = .ok ((.iadd), 1) ∧ decode (mL_law).2.1 633 = .ok ((.iaload), 1) ∧ decode (mL_law).2.1 634 = .ok ((.invokevirtual 70), 3) ∧ decode (mL_law).2.1 637 = .ok ((.pop), 1) := by decide +kernel
theorem dL_law_629 : Dc mL_law 629 (.iload 4) 2 631 := ⟨k_dL_law_629.1, rfl⟩
theorem dL_law_631 : Dc mL_law 631 (.iconst 2) 1 632 := ⟨k_dL_law_629.2.1, rfl⟩
theorem dL_law_632 : Dc mL_law 632 (.iadd) 1 633 := ⟨k_dL_law_629.2.2.1, rfl⟩
theorem dL_law_633 : Dc mL_law 633 (.iaload) 1 634 := ⟨k_dL_law_629.2.2.2.1, rfl⟩
theorem dL_law_634 : Dc mL_law 634 (.invokevirtual 70) 3 637 := ⟨k_dL_law_629.2.2.2.2.1, rfl⟩
theorem dL_law_637 : Dc mL_law 637 (.pop) 1 638 := ⟨k_dL_law_629.2.2.2.2.2, rfl⟩
theorem k_dL_law_638 : decode (mL_law).2.1 638 = .ok ((.aload_n 2), 1) ∧ decode (mL_law).2.1 639 = .ok ((.aload_n 0), 1) ∧ decode (mL_law).2.1 640 = .ok ((.iload 4), 2) ∧ decode (mL_law).2.1 642 = .ok ((.iconst 1), 1) ∧ decode (mL_law).2.1 643 = .ok ((.iadd), 1) ∧ decode (mL_law).2.1 644 = .ok ((.iaload), 1) := by decide +kernel
theorem dL_law_638 : Dc mL_law 638 (.aload_n 2) 1 639 := ⟨k_dL_law_638.1, rfl⟩
theorem dL_law_639 : Dc mL_law 639 (.aload_n 0) 1 640 := ⟨k_dL_law_638.2.1, rfl⟩
theorem dL_law_640 : Dc mL_law 640 (.iload 4) 2 642 := ⟨k_dL_law_638.2.2.1, rfl⟩
theorem dL_law_642 : Dc mL_law 642 (.iconst 1) 1 643 := ⟨k_dL_law_638.2.2.2.1, rfl⟩
theorem dL_law_643 : Dc mL_law 643 (.iadd) 1 644 := ⟨k_dL_law_638.2.2.2.2.1, rfl⟩
theorem dL_law_644 : Dc mL_law 644 (.iaload) 1 645 := ⟨k_dL_law_638.2.2.2.2.2, rfl⟩
theorem k_dL_law_645 : decode (mL_law).2.1 645 = .ok ((.aload_n 0), 1) ∧ decode (mL_law).2.1 646 = .ok ((.iload 4), 2) ∧ decode (mL_law).2.1 648 = .ok ((.iconst 2), 1) ∧ decode (mL_law).2.1 649 = .ok ((.iadd), 1) ∧ decode (mL_law).2.1 650 = .ok ((.iaload), 1) ∧ decode (mL_law).2.1 651 = .ok ((.invokevirtual 73), 3) := by decide +kernel
theorem dL_law_645 : Dc mL_law 645 (.aload_n 0) 1 646 := ⟨k_dL_law_645.1, rfl⟩
theorem dL_law_646 : Dc mL_law 646 (.iload 4) 2 648 := ⟨k_dL_law_645.2.1, rfl⟩
theorem dL_law_648 : Dc mL_law 648 (.iconst 2) 1 649 := ⟨k_dL_law_645.2.2.1, rfl⟩
theorem dL_law_649 : Dc mL_law 649 (.iadd) 1 650 := ⟨k_dL_law_645.2.2.2.1, rfl⟩
theorem dL_law_650 : Dc mL_law 650 (.iaload) 1 651 := ⟨k_dL_law_645.2.2.2.2.1, rfl⟩
theorem dL_law_651 : Dc mL_law 651 (.invokevirtual 73) 3 654 := ⟨k_dL_law_645.2.2.2.2.2, rfl⟩
theorem k_dL_law_654 : decode (mL_law).2.1 654 = .ok ((.pop), 1) ∧ decode (mL_law).2.1 655 = .ok ((.goto 754), 3) ∧ decode (mL_law).2.1 658 = .ok ((.aload_n 1), 1) ∧ decode (mL_law).2.1 659 = .ok ((.aload_n 0), 1) ∧ decode (mL_law).2.1 660 = .ok ((.iload 4), 2) ∧ decode (mL_law).2.1 662 = .ok ((.iconst 1), 1) := by decide +kernel
theorem dL_law_654 : Dc mL_law 654 (.pop) 1 655 := ⟨k_dL_law_654.1, rfl⟩
theorem dL_law_655 : Dc mL_law 655 (.goto 754) 3 658 := ⟨k_dL_law_654.2.1, rfl⟩
theorem dL_law_658 : Dc mL_law 658 (.aload_n 1) 1 659 := ⟨k_dL_law_654.2.2.1, rfl⟩
theorem dL_law_659 : Dc mL_law 659 (.aload_n 0) 1 660 := ⟨k_dL_law_654.2.2.2.1, rfl⟩
theorem dL_law_660 : Dc mL_law 660 (.iload 4) 2 662 := ⟨k_dL_law_654.2.2.2.2.1, rfl⟩
theorem dL_law_662 : Dc mL_law 662 (.iconst 1) 1 663 := ⟨k_dL_law_654.2.2.2.2.2, rfl⟩
theorem k_dL_law_663 : decode (mL_law).2.1 663 = .ok ((.iadd), 1) ∧ decode (mL_law).2.1 664 = .ok ((.iaload), 1) ∧ decode (mL_law).2.1 665 = .ok ((.aload_n 0), 1) ∧ decode (mL_law).2.1 666 = .ok ((.iload 4), 2) ∧ decode (mL_law).2.1 668 = .ok ((.iconst 2), 1) ∧ decode (mL_law).2.1 669 = .ok ((.iadd), 1) := by decide +kernel
theorem dL_law_663 : Dc mL_law 663 (.iadd) 1 664 := ⟨k_dL_law_663.1, rfl⟩
theorem dL_law_664 : Dc mL_law 664 (.iaload) 1 665 := ⟨k_dL_law_663.2.1, rfl⟩
theorem dL_law_665 : Dc mL_law 665 (.aload_n 0) 1 666 := ⟨k_dL_law_663.2.2.1, rfl⟩
theorem dL_law_666 : Dc mL_law 666 (.iload 4) 2 668 := ⟨k_dL_law_663.2.2.2.1, rfl⟩
theorem dL_law_668 : Dc mL_law 668 (.iconst 2) 1 669 := ⟨k_dL_law_663.2.2.2.2.1, rfl⟩
theorem dL_law_669 : Dc mL_law 669 (.iadd) 1 670 := ⟨k_dL_law_663.2.2.2.2.2, rfl⟩
theorem k_dL_law_670 : decode (mL_law).2.1 670 = .ok ((.iaload), 1) ∧ decode (mL_law).2.1 671 = .ok ((.invokevirtual 74), 3) ∧ decode (mL_law).2.1 674 = .ok ((.pop), 1) ∧ decode (mL_law).2.1 675 = .ok ((.aload_n 2), 1) ∧ decode (mL_law).2.1 676 = .ok ((.aload_n 0), 1) ∧ decode (mL_law).2.1 677 = .ok ((.iload 4), 2) := by decide +kernel
theorem dL_law_670 : Dc mL_law 670 (.iaload) 1 671 := ⟨k_dL_law_670.1, rfl⟩
theorem dL_law_671 : Dc mL_law 671 (.invokevirtual 74) 3 674 := ⟨k_dL_law_670.2.1, rfl⟩
theorem dL_law_674 : Dc mL_law 674 (.pop) 1 675 := ⟨k_dL_law_670.2.2.1, rfl⟩
theorem dL_law_675 : Dc mL_law 675 (.aload_n 2) 1 676 := ⟨k_dL_law_670.2.2.2.1, rfl⟩
theorem dL_law_676 : Dc mL_law 676 (.aload_n 0) 1 677 := ⟨k_dL_law_670.2.2.2.2.1, rfl⟩
theorem dL_law_677 : Dc mL_law 677 (.iload 4) 2 679 := ⟨k_dL_law_670.2.2.2.2.2, rfl⟩
theorem k_dL_law_679 : decode (mL_law).2.1 679 = .ok ((.iconst 1), 1) ∧ decode (mL_law).2.1 680 = .ok ((.iadd), 1) ∧ decode (mL_law).2.1 681 = .ok ((.iaload), 1) ∧ decode (mL_law).2.1 682 = .ok ((.aload_n 0), 1) ∧ decode (mL_law).2.1 683 = .ok ((.iload 4), 2) ∧ decode (mL_law).2.1 685 = .ok ((.iconst 2), 1) := by decide +kernel
theorem dL_law_679 : Dc mL_law 679 (.iconst 1) 1 680 := ⟨k_dL_law_679.1, rfl⟩
theorem dL_law_680 : Dc mL_law 680 (.iadd) 1 681 := ⟨k_dL_law_679.2.1, rfl⟩
theorem dL_law_681 : Dc mL_law 681 (.iaload) 1 682 := ⟨k_dL_law_679.2.2.1, rfl⟩
theorem dL_law_682 : Dc mL_law 682 (.aload_n 0) 1 683 := ⟨k_dL_law_679.2.2.2.1, rfl⟩
theorem dL_law_683 : Dc mL_law 683 (.iload 4) 2 685 := ⟨k_dL_law_679.2.2.2.2.1, rfl⟩
theorem dL_law_685 : Dc mL_law 685 (.iconst 2) 1 686 := ⟨k_dL_law_679.2.2.2.2.2, rfl⟩
theorem k_dL_law_686 : decode (mL_law).2.1 686 = .ok ((.iadd), 1) ∧ decode (mL_law).2.1 687 = .ok ((.iaload), 1) ∧ decode (mL_law).2.1 688 = .ok ((.invokevirtual 78), 3) ∧ decode (mL_law).2.1 691 = .ok ((.pop), 1) ∧ decode (mL_law).2.1 692 = .ok ((.goto 717), 3) ∧ decode (mL_law).2.1 695 = .ok ((.aload_n 1), 1) := by decide +kernel
theorem dL_law_686 : Dc mL_law 686 (.iadd) 1 687 := ⟨k_dL_law_686.1, rfl⟩
theorem dL_law_687 : Dc mL_law 687 (.iaload) 1 688 := ⟨k_dL_law_686.2.1, rfl⟩
theorem dL_law_688 : Dc mL_law 688 (.invokevirtual 78) 3 691 := ⟨k_dL_law_686.2.2.1, rfl⟩
theorem dL_law_691 : Dc mL_law 691 (.pop) 1 692 := ⟨k_dL_law_686.2.2.2.1, rfl⟩
theorem dL_law_692 : Dc mL_law 692 (.goto 717) 3 695 := ⟨k_dL_law_686.2.2.2.2.1, rfl⟩
theorem dL_law_695 : Dc mL_law 695 (.aload_n 1) 1 696 := ⟨k_dL_law_686.2.2.2.2.2, rfl⟩
theorem k_dL_law_696 : decode (mL_law).2.1 696 = .ok ((.aload_n 0), 1) ∧ decode (mL_law).2.1 697 = .ok ((.iload 4), 2) ∧ decode (mL_law).2.1 699 = .ok ((.iconst 1), 1) ∧ decode (mL_law).2.1 700 = .ok ((.iadd), 1) ∧ decode (mL_law).2.1 701 = .ok ((.iaload), 1) ∧ decode (mL_law).2.1 702 = .ok ((.aload_n 0), 1) := by decide +kernel
theorem dL_law_696 : Dc mL_law 696 (.aload_n 0) 1 697 := ⟨k_dL_law_696.1, rfl⟩
theorem dL_law_697 : Dc mL_law 697 (.iload 4) 2 699 := ⟨k_dL_law_696.2.1, rfl⟩
theorem dL_law_699 : Dc mL_law 699 (.iconst 1) 1 700 := ⟨k_dL_law_696.2.2.1, rfl⟩
theorem dL_law_700 : Dc mL_law 700 (.iadd) 1 701 := ⟨k_dL_law_696.2.2.2.1, rfl⟩
theorem dL_law_701 : Dc mL_law 701 (.iaload) 1 702 := ⟨k_dL_law_696.2.2.2.2.1, rfl⟩
theorem dL_law_702 : Dc mL_law 702 (.aload_n 0) 1 703 := ⟨k_dL_law_696.2.2.2.2.2, rfl⟩
theorem k_dL_law_703 : decode (mL_law).2.1 703 = .ok ((.iload 4), 2) ∧ decode (mL_law).2.1 705 = .ok ((.iconst 2), 1) ∧ decode (mL_law).2.1 706 = .ok ((.iadd), 1) ∧ decode (mL_law).2.1 707 = .ok ((.iaload), 1) ∧ decode (mL_law).2.1 708 = .ok ((.invokevirtual 79), 3) ∧ decode (mL_law).2.1 711 = .ok ((.pop), 1) := by decide +kernel
theorem dL_law_703 : Dc mL_law 703 (.iload 4) 2 705 := ⟨k_dL_law_703.1, rfl⟩
theorem dL_law_705 : Dc mL_law 705 (.iconst 2) 1 706 := ⟨k_dL_law_703.2.1, rfl⟩
theorem dL_law_706 : Dc mL_law 706 (.iadd) 1 707 := ⟨k_dL_law_703.2.2.1, rfl⟩
theorem dL_law_707 : Dc mL_law 707 (.iaload) 1 708 := ⟨k_dL_law_703.2.2.2.1, rfl⟩
theorem dL_law_708 : Dc mL_law 708 (.invokevirtual 79) 3 711 := ⟨k_dL_law_703.2.2.2.2.1, rfl⟩
theorem dL_law_711 : Dc mL_law 711 (.pop) 1 712 := ⟨k_dL_law_703.2.2.2.2.2, rfl⟩
theorem k_dL_law_712 : decode (mL_law).2.1 712 = .ok ((.aload_n 2), 1) ∧ decode (mL_law).2.1 713 = .ok ((.aload_n 0), 1) ∧ decode (mL_law).2.1 714 = .ok ((.iload 4), 2) ∧ decode (mL_law).2.1 716 = .ok ((.iconst 1), 1) ∧ decode (mL_law).2.1 717 = .ok ((.iadd), 1) ∧ decode (mL_law).2.1 718 = .ok ((.iaload), 1) := by decide +kernel
theorem dL_law_712 : Dc mL_law 712 (.aload_n 2) 1 713 := ⟨k_dL_law_712.1, rfl⟩
theorem dL_law_713 : Dc mL_law 713 (.aload_n 0) 1 714 := ⟨k_dL_law_712.2.1, rfl⟩
theorem dL_law_714 : Dc mL_law 714 (.iload 4) 2 716 := ⟨k_dL_law_712.2.2.1, rfl⟩
theorem dL_law_716 : Dc mL_law 716 (.iconst 1) 1 717 := ⟨k_dL_law_712.2.2.2.1, rfl⟩
theorem dL_law_717 : Dc mL_law 717 (.iadd) 1 718 := ⟨k_dL_law_712.2.2.2.2.1, rfl⟩
theorem dL_law_718 : Dc mL_law 718 (.iaload) 1 719 := ⟨k_dL_law_712.2.2.2.2.2, rfl⟩
theorem k_dL_law_719 : decode (mL_law).2.1 719 = .ok ((.aload_n 0), 1) ∧ decode (mL_law).2.1 720 = .ok ((.iload 4), 2) ∧ decode (mL_law).2.1 722 = .ok ((.iconst 2), 1) ∧ decode (mL_law).2.1 723 = .ok ((.iadd), 1) ∧ decode (mL_law).2.1 724 = .ok ((.iaload), 1) ∧ decode (mL_law).2.1 725 = .ok ((.invokevirtual 82), 3) := by decide +kernel
theorem dL_law_719 : Dc mL_law 719 (.aload_n 0) 1 720 := ⟨k_dL_law_719.1, rfl⟩
theorem dL_law_720 : Dc mL_law 720 (.iload 4) 2 722 := ⟨k_dL_law_719.2.1, rfl⟩
theorem dL_law_722 : Dc mL_law 722 (.iconst 2) 1 723 := ⟨k_dL_law_719.2.2.1, rfl⟩
theorem dL_law_723 : Dc mL_law 723 (.iadd) 1 724 := ⟨k_dL_law_719.2.2.2.1, rfl⟩
theorem dL_law_724 : Dc mL_law 724 (.iaload) 1 725 := ⟨k_dL_law_719.2.2.2.2.1, rfl⟩
theorem dL_law_725 : Dc mL_law 725 (.invokevirtual 82) 3 728 := ⟨k_dL_law_719.2.2.2.2.2, rfl⟩
theorem k_dL_law_728 : decode (mL_law).2.1 728 = .ok ((.pop), 1) ∧ decode (mL_law).2.1 729 = .ok ((.goto 680), 3) ∧ decode (mL_law).2.1 732 = .ok ((.aload_n 1), 1) ∧ decode (mL_law).2.1 733 = .ok ((.aload_n 0), 1) ∧ decode (mL_law).2.1 734 = .ok ((.iload 4), 2) ∧ decode (mL_law).2.1 736 = .ok ((.iconst 1), 1) := by decide +kernel
theorem dL_law_728 : Dc mL_law 728 (.pop) 1 729 := ⟨k_dL_law_728.1, rfl⟩
theorem dL_law_729 : Dc mL_law 729 (.goto 680) 3 732 := ⟨k_dL_law_728.2.1, rfl⟩
theorem dL_law_732 : Dc mL_law 732 (.aload_n 1) 1 733 := ⟨k_dL_law_728.2.2.1, rfl⟩
theorem dL_law_733 : Dc mL_law 733 (.aload_n 0) 1 734 := ⟨k_dL_law_728.2.2.2.1, rfl⟩
theorem dL_law_734 : Dc mL_law 734 (.iload 4) 2 736 := ⟨k_dL_law_728.2.2.2.2.1, rfl⟩
theorem dL_law_736 : Dc mL_law 736 (.iconst 1) 1 737 := ⟨k_dL_law_728.2.2.2.2.2, rfl⟩
theorem k_dL_law_737 : decode (mL_law).2.1 737 = .ok ((.iadd), 1) ∧ decode (mL_law).2.1 738 = .ok ((.iaload), 1) ∧ decode (mL_law).2.1 739 = .ok ((.invokevirtual 83), 3) ∧ decode (mL_law).2.1 742 = .ok ((.pop), 1) ∧ decode (mL_law).2.1 743 = .ok ((.aload_n 2), 1) ∧ decode (mL_law).2.1 744 = .ok ((.aload_n 0), 1) := by decide +kernel
theorem dL_law_737 : Dc mL_law 737 (.iadd) 1 738 := ⟨k_dL_law_737.1, rfl⟩
theorem dL_law_738 : Dc mL_law 738 (.iaload) 1 739 := ⟨k_dL_law_737.2.1, rfl⟩
theorem dL_law_739 : Dc mL_law 739 (.invokevirtual 83) 3 742 := ⟨k_dL_law_737.2.2.1, rfl⟩
theorem dL_law_742 : Dc mL_law 742 (.pop) 1 743 := ⟨k_dL_law_737.2.2.2.1, rfl⟩
theorem dL_law_743 : Dc mL_law 743 (.aload_n 2) 1 744 := ⟨k_dL_law_737.2.2.2.2.1, rfl⟩
theorem dL_law_744 : Dc mL_law 744 (.aload_n 0) 1 745 := ⟨k_dL_law_737.2.2.2.2.2, rfl⟩
theorem k_dL_law_745 : decode (mL_law).2.1 745 = .ok ((.iload 4), 2) ∧ decode (mL_law).2.1 747 = .ok ((.iconst 1), 1) ∧ decode (mL_law).2.1 748 = .ok ((.iadd), 1) ∧ decode (mL_law).2.1 749 = .ok ((.iaload), 1) ∧ decode (mL_law).2.1 750 = .ok ((.invokevirtual 87), 3) ∧ decode (mL_law).2.1 753 = .ok ((.pop), 1) := by decide +kernel
theorem dL_law_745 : Dc mL_law 745 (.iload 4) 2 747 := ⟨k_dL_law_745.1, rfl⟩
theorem dL_law_747 : Dc mL_law 747 (.iconst 1) 1 748 := ⟨k_dL_law_745.2.1, rfl⟩
theorem dL_law_748 : Dc mL_law 748 (.iadd) 1 749 := ⟨k_dL_law_745.2.2.1, rfl⟩
theorem dL_law_749 : Dc mL_law 749 (.iaload) 1 750 := ⟨k_dL_law_745.2.2.2.1, rfl⟩
theorem dL_law_750 : Dc mL_law 750 (.invokevirtual 87) 3 753 := ⟨k_dL_law_745.2.2.2.2.1, rfl⟩
theorem dL_law_753 : Dc mL_law 753 (.pop) 1 754 := ⟨k_dL_law_745.2.2.2.2.2, rfl⟩
theorem k_dL_law_754 : decode (mL_law).2.1 754 = .ok ((.goto 655), 3) ∧ decode (mL_law).2.1 757 = .ok ((.aload_n 1), 1) ∧ decode (mL_law).2.1 758 = .ok ((.aload_n 0), 1) ∧ decode (mL_law).2.1 759 = .ok ((.iload 4), 2) ∧ decode (mL_law).2.1 761 = .ok ((.iconst 1), 1) ∧ decode (mL_law).2.1 762 = .ok ((.iadd), 1) := by decide +kernel
theorem dL_law_754 : Dc mL_law 754 (.goto 655) 3 757 := ⟨k_dL_law_754.1, rfl⟩
theorem dL_law_757 : Dc mL_law 757 (.aload_n 1) 1 758 := ⟨k_dL_law_754.2.1, rfl⟩
theorem dL_law_758 : Dc mL_law 758 (.aload_n 0) 1 759 := ⟨k_dL_law_754.2.2.1, rfl⟩
theorem dL_law_759 : Dc mL_law 759 (.iload 4) 2 761 := ⟨k_dL_law_754.2.2.2.1, rfl⟩
theorem dL_law_761 : Dc mL_law 761 (.iconst 1) 1 762 := ⟨k_dL_law_754.2.2.2.2.1, rfl⟩
theorem dL_law_762 : Dc mL_law 762 (.iadd) 1 763 := ⟨k_dL_law_754.2.2.2.2.2, rfl⟩
theorem k_dL_law_763 : decode (mL_law).2.1 763 = .ok ((.iaload), 1) ∧ decode (mL_law).2.1 764 = .ok ((.invokevirtual 88), 3) ∧ decode (mL_law).2.1 767 = .ok ((.pop), 1) ∧ decode (mL_law).2.1 768 = .ok ((.aload_n 2), 1) ∧ decode (mL_law).2.1 769 = .ok ((.aload_n 0), 1) ∧ decode (mL_law).2.1 770 = .ok ((.iload 4), 2) := by decide +kernel
theorem dL_law_763 : Dc mL_law 763 (.iaload) 1 764 := ⟨k_dL_law_763.1, rfl⟩
theorem dL_law_764 : Dc mL_law 764 (.invokevirtual 88) 3 767 := ⟨k_dL_law_763.2.1, rfl⟩
theorem dL_law_767 : Dc mL_law 767 (.pop) 1 768 := ⟨k_dL_law_763.2.2.1, rfl⟩
theorem dL_law_768 : Dc mL_law 768 (.aload_n 2) 1 769 := ⟨k_dL_law_763.2.2.2.1, rfl⟩
theorem dL_law_769 : Dc mL_law 769 (.aload_n 0) 1 770 := ⟨k_dL_law_763.2.2.2.2.1, rfl⟩
theorem dL_law_770 : Dc mL_law 770 (.iload 4) 2 772 := ⟨k_dL_law_763.2.2.2.2.2, rfl⟩
theorem k_dL_law_772 : decode (mL_law).2.1 772 = .ok ((.iconst 1), 1) ∧ decode (mL_law).2.1 773 = .ok ((.iadd), 1) ∧ decode (mL_law).2.1 774 = .ok ((.iaload), 1) ∧ decode (mL_law).2.1 775 = .ok ((.invokevirtual 91), 3) ∧ decode (mL_law).2.1 778 = .ok ((.pop), 1) ∧ decode (mL_law).2.1 779 = .ok ((.goto 630), 3) := by decide +kernel
theorem dL_law_772 : Dc mL_law 772 (.iconst 1) 1 773 := ⟨k_dL_law_772.1, rfl⟩
theorem dL_law_773 : Dc mL_law 773 (.iadd) 1 774 := ⟨k_dL_law_772.2.1, rfl⟩
theorem dL_law_774 : Dc mL_law 774 (.iaload) 1 775 := ⟨k_dL_law_772.2.2.1, rfl⟩
theorem dL_law_775 : Dc mL_law 775 (.invokevirtual 91) 3 778 := ⟨k_dL_law_772.2.2.2.1, rfl⟩
theorem dL_law_778 : Dc mL_law 778 (.pop) 1 779 := ⟨k_dL_law_772.2.2.2.2.1, rfl⟩
theorem dL_law_779 : Dc mL_law 779 (.goto 630) 3 782 := ⟨k_dL_law_772.2.2.2.2.2, rfl⟩
theorem k_dL_law_782 : decode (mL_law).2.1 782 = .ok ((.aload_n 1), 1) ∧ decode (mL_law).2.1 783 = .ok ((.aload_n 0), 1) ∧ decode (mL_law).2.1 784 = .ok ((.iload 4), 2) ∧ decode (mL_law).2.1 786 = .ok ((.iconst 1), 1) ∧ decode (mL_law).2.1 787 = .ok ((.iadd), 1) ∧ decode (mL_law).2.1 788 = .ok ((.iaload), 1) := by decide +kernel
theorem dL_law_782 : Dc mL_law 782 (.aload_n 1) 1 783 := ⟨k_dL_law_782.1, rfl⟩
theorem dL_law_783 : Dc mL_law 783 (.aload_n 0) 1 784 := ⟨k_dL_law_782.2.1, rfl⟩
theorem dL_law_784 : Dc mL_law 784 (.iload 4) 2 786 := ⟨k_dL_law_782.2.2.1, rfl⟩
theorem dL_law_786 : Dc mL_law 786 (.iconst 1) 1 787 := ⟨k_dL_law_782.2.2.2.1, rfl⟩
theorem dL_law_787 : Dc mL_law 787 (.iadd) 1 788 := ⟨k_dL_law_782.2.2.2.2.1, rfl⟩
theorem dL_law_788 : Dc mL_law 788 (.iaload) 1 789 := ⟨k_dL_law_782.2.2.2.2.2, rfl⟩
theorem k_dL_law_789 : decode (mL_law).2.1 789 = .ok ((.aload_n 0), 1) ∧ decode (mL_law).2.1 790 = .ok ((.iload 4), 2) ∧ decode (mL_law).2.1 792 = .ok ((.iconst 2), 1) ∧ decode (mL_law).2.1 793 = .ok ((.iadd), 1) ∧ decode (mL_law).2.1 794 = .ok ((.iaload), 1) ∧ decode (mL_law).2.1 795 = .ok ((.invokevirtual 92), 3) := by decide +kernel
theorem dL_law_789 : Dc mL_law 789 (.aload_n 0) 1 790 := ⟨k_dL_law_789.1, rfl⟩
theorem dL_law_790 : Dc mL_law 790 (.iload 4) 2 792 := ⟨k_dL_law_789.2.1, rfl⟩
theorem dL_law_792 : Dc mL_law 792 (.iconst 2) 1 793 := ⟨k_dL_law_789.2.2.1, rfl⟩
theorem dL_law_793 : Dc mL_law 793 (.iadd) 1 794 := ⟨k_dL_law_789.2.2.2.1, rfl⟩
theorem dL_law_794 : Dc mL_law 794 (.iaload) 1 795 := ⟨k_dL_law_789.2.2.2.2.1, rfl⟩
theorem dL_law_795 : Dc mL_law 795 (.invokevirtual 92) 3 798 := ⟨k_dL_law_789.2.2.2.2.2, rfl⟩
theorem k_dL_law_798 : decode (mL_law).2.1 798 = .ok ((.pop), 1) ∧ decode (mL_law).2.1 799 = .ok ((.aload_n 2), 1) ∧ decode (mL_law).2.1 800 = .ok ((.aload_n 0), 1) ∧ decode (mL_law).2.1 801 = .ok ((.iload 4), 2) ∧ decode (mL_law).2.1 803 = .ok ((.iconst 1), 1) ∧ decode (mL_law).2.1 804 = .ok ((.iadd), 1) := by decide +kernel
theorem dL_law_798 : Dc mL_law 798 (.pop) 1 799 := ⟨k_dL_law_798.1, rfl⟩
theorem dL_law_799 : Dc mL_law 799 (.aload_n 2) 1 800 := ⟨k_dL_law_798.2.1, rfl⟩
theorem dL_law_800 : Dc mL_law 800 (.aload_n 0) 1 801 := ⟨k_dL_law_798.2.2.1, rfl⟩
theorem dL_law_801 : Dc mL_law 801 (.iload 4) 2 803 := ⟨k_dL_law_798.2.2.2.1, rfl⟩
theorem dL_law_803 : Dc mL_law 803 (.iconst 1) 1 804 := ⟨k_dL_law_798.2.2.2.2.1, rfl⟩
theorem dL_law_804 : Dc mL_law 804 (.iadd) 1 805 := ⟨k_dL_law_798.2.2.2.2.2, rfl⟩
theorem k_dL_law_805 : decode (mL_law).2.1 805 = .ok ((.iaload), 1) ∧ decode (mL_law).2.1 806 = .ok ((.aload_n 0), 1) ∧ decode (mL_law).2.1 807 = .ok ((.iload 4), 2) ∧ decode (mL_law).2.1 809 = .ok ((.iconst 2), 1) ∧ decode (mL_law).2.1 810 = .ok ((.iadd), 1) ∧ decode (mL_law).2.1 811 = .ok ((.iaload), 1) := by decide +kernel
theorem dL_law_805 : Dc mL_law 805 (.iaload) 1 806 := ⟨k_dL_law_805.1, rfl⟩
theorem dL_law_806 : Dc mL_law 806 (.aload_n 0) 1 807 := ⟨k_dL_law_805.2.1, rfl⟩
theorem dL_law_807 : Dc mL_law 807 (.iload 4) 2 809 := ⟨k_dL_law_805.2.2.1, rfl⟩
theorem dL_law_809 : Dc mL_law 809 (.iconst 2) 1 810 := ⟨k_dL_law_805.2.2.2.1, rfl⟩
theorem dL_law_810 : Dc mL_law 810 (.iadd) 1 811 := ⟨k_dL_law_805.2.2.2.2.1, rfl⟩
theorem dL_law_811 : Dc mL_law 811 (.iaload) 1 812 := ⟨k_dL_law_805.2.2.2.2.2, rfl⟩
theorem k_dL_law_812 : decode (mL_law).2.1 812 = .ok ((.invokevirtual 95), 3) ∧ decode (mL_law).2.1 815 = .ok ((.pop), 1) ∧ decode (mL_law).2.1 816 = .ok ((.goto 593), 3) ∧ decode (mL_law).2.1 819 = .ok ((.aload_n 1), 1) ∧ decode (mL_law).2.1 820 = .ok ((.invokevirtual 96), 3) ∧ decode (mL_law).2.1 823 = .ok ((.pop), 1) := by decide +kernel
theorem dL_law_812 : Dc mL_law 812 (.invokevirtual 95) 3 815 := ⟨k_dL_law_812.1, rfl⟩
theorem dL_law_815 : Dc mL_law 815 (.pop) 1 816 := ⟨k_dL_law_812.2.1, rfl⟩
theorem dL_law_816 : Dc mL_law 816 (.goto 593) 3 819 := ⟨k_dL_law_812.2.2.1, rfl⟩
theorem dL_law_819 : Dc mL_law 819 (.aload_n 1) 1 820 := ⟨k_dL_law_812.2.2.2.1, rfl⟩
theorem dL_law_820 : Dc mL_law 820 (.invokevirtual 96) 3 823 := ⟨k_dL_law_812.2.2.2.2.1, rfl⟩
theorem dL_law_823 : Dc mL_law 823 (.pop) 1 824 := ⟨k_dL_law_812.2.2.2.2.2, rfl⟩
theorem k_dL_law_824 : decode (mL_law).2.1 824 = .ok ((.aload_n 2), 1) ∧ decode (mL_law).2.1 825 = .ok ((.invokevirtual 99), 3) ∧ decode (mL_law).2.1 828 = .ok ((.pop), 1) ∧ decode (mL_law).2.1 829 = .ok ((.goto 580), 3) ∧ decode (mL_law).2.1 832 = .ok ((.aload_n 1), 1) ∧ decode (mL_law).2.1 833 = .ok ((.invokevirtual 100), 3) := by decide +kernel
theorem dL_law_824 : Dc mL_law 824 (.aload_n 2) 1 825 := ⟨k_dL_law_824.1, rfl⟩
theorem dL_law_825 : Dc mL_law 825 (.invokevirtual 99) 3 828 := ⟨k_dL_law_824.2.1, rfl⟩
theorem dL_law_828 : Dc mL_law 828 (.pop) 1 829 := ⟨k_dL_law_824.2.2.1, rfl⟩
theorem dL_law_829 : Dc mL_law 829 (.goto 580) 3 832 := ⟨k_dL_law_824.2.2.2.1, rfl⟩
theorem dL_law_832 : Dc mL_law 832 (.aload_n 1) 1 833 := ⟨k_dL_law_824.2.2.2.2.1, rfl⟩
theorem dL_law_833 : Dc mL_law 833 (.invokevirtual 100) 3 836 := ⟨k_dL_law_824.2.2.2.2.2, rfl⟩
theorem k_dL_law_836 : decode (mL_law).2.1 836 = .ok ((.pop), 1) ∧ decode (mL_law).2.1 837 = .ok ((.aload_n 2), 1) ∧ decode (mL_law).2.1 838 = .ok ((.invokevirtual 103), 3) ∧ decode (mL_law).2.1 841 = .ok ((.pop), 1) ∧ decode (mL_law).2.1 842 = .ok ((.goto 567), 3) ∧ decode (mL_law).2.1 845 = .ok ((.aload_n 1), 1) := by decide +kernel
theorem dL_law_836 : Dc mL_law 836 (.pop) 1 837 := ⟨k_dL_law_836.1, rfl⟩
theorem dL_law_837 : Dc mL_law 837 (.aload_n 2) 1 838 := ⟨k_dL_law_836.2.1, rfl⟩
theorem dL_law_838 : Dc mL_law 838 (.invokevirtual 103) 3 841 := ⟨k_dL_law_836.2.2.1, rfl⟩
theorem dL_law_841 : Dc mL_law 841 (.pop) 1 842 := ⟨k_dL_law_836.2.2.2.1, rfl⟩
theorem dL_law_842 : Dc mL_law 842 (.goto 567) 3 845 := ⟨k_dL_law_836.2.2.2.2.1, rfl⟩
theorem dL_law_845 : Dc mL_law 845 (.aload_n 1) 1 846 := ⟨k_dL_law_836.2.2.2.2.2, rfl⟩
theorem k_dL_law_846 : decode (mL_law).2.1 846 = .ok ((.aload_n 0), 1) ∧ decode (mL_law).2.1 847 = .ok ((.iload 4), 2) ∧ decode (mL_law).2.1 849 = .ok ((.iconst 1), 1) ∧ decode (mL_law).2.1 850 = .ok ((.iadd), 1) ∧ decode (mL_law).2.1 851 = .ok ((.iaload), 1) ∧ decode (mL_law).2.1 852 = .ok ((.invokevirtual 104), 3) := by decide +kernel
theorem dL_law_846 : Dc mL_law 846 (.aload_n 0) 1 847 := ⟨k_dL_law_846.1, rfl⟩
theorem dL_law_847 : Dc mL_law 847 (.iload 4) 2 849 := ⟨k_dL_law_846.2.1, rfl⟩
theorem dL_law_849 : Dc mL_law 849 (.iconst 1) 1 850 := ⟨k_dL_law_846.2.2.1, rfl⟩
theorem dL_law_850 : Dc mL_law 850 (.iadd) 1 851 := ⟨k_dL_law_846.2.2.2.1, rfl⟩
theorem dL_law_851 : Dc mL_law 851 (.iaload) 1 852 := ⟨k_dL_law_846.2.2.2.2.1, rfl⟩
theorem dL_law_852 : Dc mL_law 852 (.invokevirtual 104) 3 855 := ⟨k_dL_law_846.2.2.2.2.2, rfl⟩
theorem k_dL_law_855 : decode (mL_law).2.1 855 = .ok ((.pop), 1) ∧ decode (mL_law).2.1 856 = .ok ((.aload_n 2), 1) ∧ decode (mL_law).2.1 857 = .ok ((.aload_n 0), 1) ∧ decode (mL_law).2.1 858 = .ok ((.iload 4), 2) ∧ decode (mL_law).2.1 860 = .ok ((.iconst 1), 1) ∧ decode (mL_law).2.1 861 = .ok ((.iadd), 1) := by decide +kernel
theorem dL_law_855 : Dc mL_law 855 (.pop) 1 856 := ⟨k_dL_law_855.1, rfl⟩
theorem dL_law_856 : Dc mL_law 856 (.aload_n 2) 1 857 := ⟨k_dL_law_855.2.1, rfl⟩
theorem dL_law_857 : Dc mL_law 857 (.aload_n 0) 1 858 := ⟨k_dL_law_855.2.2.1, rfl⟩
theorem dL_law_858 : Dc mL_law 858 (.iload 4) 2 860 := ⟨k_dL_law_855.2.2.2.1, rfl⟩
theorem dL_law_860 : Dc mL_law 860 (.iconst 1) 1 861 := ⟨k_dL_law_855.2.2.2.2.1, rfl⟩
theorem dL_law_861 : Dc mL_law 861 (.iadd) 1 862 := ⟨k_dL_law_855.2.2.2.2.2, rfl⟩
theorem k_dL_law_862 : decode (mL_law).2.1 862 = .ok ((.iaload), 1) ∧ decode (mL_law).2.1 863 = .ok ((.invokevirtual 107), 3) ∧ decode (mL_law).2.1 866 = .ok ((.pop), 1) ∧ decode (mL_law).2.1 867 = .ok ((.goto 542), 3) ∧ decode (mL_law).2.1 870 = .ok ((.aload_n 1), 1) ∧ decode (mL_law).2.1 871 = .ok ((.aload_n 0), 1) := by decide +kernel
theorem dL_law_862 : Dc mL_law 862 (.iaload) 1 863 := ⟨k_dL_law_862.1, rfl⟩
theorem dL_law_863 : Dc mL_law 863 (.invokevirtual 107) 3 866 := ⟨k_dL_law_862.2.1, rfl⟩
theorem dL_law_866 : Dc mL_law 866 (.pop) 1 867 := ⟨k_dL_law_862.2.2.1, rfl⟩
theorem dL_law_867 : Dc mL_law 867 (.goto 542) 3 870 := ⟨k_dL_law_862.2.2.2.1, rfl⟩
theorem dL_law_870 : Dc mL_law 870 (.aload_n 1) 1 871 := ⟨k_dL_law_862.2.2.2.2.1, rfl⟩
theorem dL_law_871 : Dc mL_law 871 (.aload_n 0) 1 872 := ⟨k_dL_law_862.2.2.2.2.2, rfl⟩
theorem k_dL_law_872 : decode (mL_law).2.1 872 = .ok ((.iload 4), 2) ∧ decode (mL_law).2.1 874 = .ok ((.iconst 1), 1) ∧ decode (mL_law).2.1 875 = .ok ((.iadd), 1) ∧ decode (mL_law).2.1 876 = .ok ((.iaload), 1) ∧ decode (mL_law).2.1 877 = .ok ((.invokevirtual 108), 3) ∧ decode (mL_law).2.1 880 = .ok ((.pop), 1) := by decide +kernel
theorem dL_law_872 : Dc mL_law 872 (.iload 4) 2 874 := ⟨k_dL_law_872.1, rfl⟩
theorem dL_law_874 : Dc mL_law 874 (.iconst 1) 1 875 := ⟨k_dL_law_872.2.1, rfl⟩
theorem dL_law_875 : Dc mL_law 875 (.iadd) 1 876 := ⟨k_dL_law_872.2.2.1, rfl⟩
theorem dL_law_876 : Dc mL_law 876 (.iaload) 1 877 := ⟨k_dL_law_872.2.2.2.1, rfl⟩
theorem dL_law_877 : Dc mL_law 877 (.invokevirtual 108) 3 880 := ⟨k_dL_law_872.2.2.2.2.1, rfl⟩
theorem dL_law_880 : Dc mL_law 880 (.pop) 1 881 := ⟨k_dL_law_872.2.2.2.2.2, rfl⟩
theorem k_dL_law_881 : decode (mL_law).2.1 881 = .ok ((.aload_n 2), 1) ∧ decode (mL_law).2.1 882 = .ok ((.aload_n 0), 1) ∧ decode (mL_law).2.1 883 = .ok ((.iload 4), 2) ∧ decode (mL_law).2.1 885 = .ok ((.iconst 1), 1) ∧ decode (mL_law).2.1 886 = .ok ((.iadd), 1) ∧ decode (mL_law).2.1 887 = .ok ((.iaload), 1) := by decide +kernel
theorem dL_law_881 : Dc mL_law 881 (.aload_n 2) 1 882 := ⟨k_dL_law_881.1, rfl⟩
theorem dL_law_882 : Dc mL_law 882 (.aload_n 0) 1 883 := ⟨k_dL_law_881.2.1, rfl⟩
theorem dL_law_883 : Dc mL_law 883 (.iload 4) 2 885 := ⟨k_dL_law_881.2.2.1, rfl⟩
theorem dL_law_885 : Dc mL_law 885 (.iconst 1) 1 886 := ⟨k_dL_law_881.2.2.2.1, rfl⟩
theorem dL_law_886 : Dc mL_law 886 (.iadd) 1 887 := ⟨k_dL_law_881.2.2.2.2.1, rfl⟩
theorem dL_law_887 : Dc mL_law 887 (.iaload) 1 888 := ⟨k_dL_law_881.2.2.2.2.2, rfl⟩
theorem k_dL_law_888 : decode (mL_law).2.1 888 = .ok ((.invokevirtual 111), 3) ∧ decode (mL_law).2.1 891 = .ok ((.pop), 1) ∧ decode (mL_law).2.1 892 = .ok ((.goto 517), 3) ∧ decode (mL_law).2.1 895 = .ok ((.aload_n 1), 1) ∧ decode (mL_law).2.1 896 = .ok ((.invokevirtual 112), 3) ∧ decode (mL_law).2.1 899 = .ok ((.pop), 1) := by decide +kernel
theorem dL_law_888 : Dc mL_law 888 (.invokevirtual 111) 3 891 := ⟨k_dL_law_888.1, rfl⟩
theorem dL_law_891 : Dc mL_law 891 (.pop) 1 892 := ⟨k_dL_law_888.2.1, rfl⟩
theorem dL_law_892 : Dc mL_law 892 (.goto 517) 3 895 := ⟨k_dL_law_888.2.2.1, rfl⟩
theorem dL_law_895 : Dc mL_law 895 (.aload_n 1) 1 896 := ⟨k_dL_law_888.2.2.2.1, rfl⟩
theorem dL_law_896 : Dc mL_law 896 (.invokevirtual 112) 3 899 := ⟨k_dL_law_888.2.2.2.2.1, rfl⟩
theorem dL_law_899 : Dc mL_law 899 (.pop) 1 900 := ⟨k_dL_law_888.2.2.2.2.2, rfl⟩
theorem k_dL_law_900 : decode (mL_law).2.1 900 = .ok ((.aload_n 2), 1) ∧ decode (mL_law).2.1 901 = .ok ((.invokevirtual 115), 3) ∧ decode (mL_law).2.1 904 = .ok ((.pop), 1) ∧ decode (mL_law).2.1 905 = .ok ((.goto 504), 3) ∧ decode (mL_law).2.1 908 = .ok ((.aload_n 1), 1) ∧ decode (mL_law).2.1 909 = .ok ((.aload_n 0), 1) := by decide +kernel
theorem dL_law_900 : Dc mL_law 900 (.aload_n 2) 1 901 := ⟨k_dL_law_900.1, rfl⟩
theorem dL_law_901 : Dc mL_law 901 (.invokevirtual 115) 3 904 := ⟨k_dL_law_900.2.1, rfl⟩
theorem dL_law_904 : Dc mL_law 904 (.pop) 1 905 := ⟨k_dL_law_900.2.2.1, rfl⟩
theorem dL_law_905 : Dc mL_law 905 (.goto 504) 3 908 := ⟨k_dL_law_900.2.2.2.1, rfl⟩
theorem dL_law_908 : Dc mL_law 908 (.aload_n 1) 1 909 := ⟨k_dL_law_900.2.2.2.2.1, rfl⟩
theorem dL_law_909 : Dc mL_law 909 (.aload_n 0) 1 910 := ⟨k_dL_law_900.2.2.2.2.2, rfl⟩
theorem k_dL_law_910 : decode (mL_law).2.1 910 = .ok ((.iload 4), 2) ∧ decode (mL_law).2.1 912 = .ok ((.iconst 1), 1) ∧ decode (mL_law).2.1 913 = .ok ((.iadd), 1) ∧ decode (mL_law).2.1 914 = .ok ((.iaload), 1) ∧ decode (mL_law).2.1 915 = .ok ((.invokevirtual 116), 3) ∧ decode (mL_law).2.1 918 = .ok ((.pop), 1) := by decide +kernel
theorem dL_law_910 : Dc mL_law 910 (.iload 4) 2 912 := ⟨k_dL_law_910.1, rfl⟩
theorem dL_law_912 : Dc mL_law 912 (.iconst 1) 1 913 := ⟨k_dL_law_910.2.1, rfl⟩
theorem dL_law_913 : Dc mL_law 913 (.iadd) 1 914 := ⟨k_dL_law_910.2.2.1, rfl⟩
theorem dL_law_914 : Dc mL_law 914 (.iaload) 1 915 := ⟨k_dL_law_910.2.2.2.1, rfl⟩
theorem dL_law_915 : Dc mL_law 915 (.invokevirtual 116) 3 918 := ⟨k_dL_law_910.2.2.2.2.1, rfl⟩
theorem dL_law_918 : Dc mL_law 918 (.pop) 1 919 := ⟨k_dL_law_910.2.2.2.2.2, rfl⟩
theorem k_dL_law_919 : decode (mL_law).2.1 919 = .ok ((.aload_n 2), 1) ∧ decode (mL_law).2.1 920 = .ok ((.aload_n 0), 1) ∧ decode (mL_law).2.1 921 = .ok ((.iload 4), 2) ∧ decode (mL_law).2.1 923 = .ok ((.iconst 1), 1) ∧ decode (mL_law).2.1 924 = .ok ((.iadd), 1) ∧ decode (mL_law).2.1 925 = .ok ((.iaload), 1) := by decide +kernel
theorem dL_law_919 : Dc mL_law 919 (.aload_n 2) 1 920 := ⟨k_dL_law_919.1, rfl⟩
theorem dL_law_920 : Dc mL_law 920 (.aload_n 0) 1 921 := ⟨k_dL_law_919.2.1, rfl⟩
theorem dL_law_921 : Dc mL_law 921 (.iload 4) 2 923 := ⟨k_dL_law_919.2.2.1, rfl⟩
theorem dL_law_923 : Dc mL_law 923 (.iconst 1) 1 924 := ⟨k_dL_law_919.2.2.2.1, rfl⟩
theorem dL_law_924 : Dc mL_law 924 (.iadd) 1 925 := ⟨k_dL_law_919.2.2.2.2.1, rfl⟩
theorem dL_law_925 : Dc mL_law 925 (.iaload) 1 926 := ⟨k_dL_law_919.2.2.2.2.2, rfl⟩
theorem k_dL_law_926 : decode (mL_law).2.1 926 = .ok ((.invokevirtual 119), 3) ∧ decode (mL_law).2.1 929 = .ok ((.pop), 1) ∧ decode (mL_law).2.1 930 = .ok ((.goto 479), 3) ∧ decode (mL_law).2.1 933 = .ok ((.aload_n 1), 1) ∧ decode (mL_law).2.1 934 = .ok ((.aload_n 0), 1) ∧ decode (mL_law).2.1 935 = .ok ((.iload 4), 2) := by decide +kernel
theorem dL_law_926 : Dc mL_law 926 (.invokevirtual 119) 3 929 := ⟨k_dL_law_926.1, rfl⟩
theorem dL_law_929 : Dc mL_law 929 (.pop) 1 930 := ⟨k_dL_law_926.2.1, rfl⟩
theorem dL_law_930 : Dc mL_law 930 (.goto 479) 3 933 := ⟨k_dL_law_926.2.2.1, rfl⟩
theorem dL_law_933 : Dc mL_law 933 (.aload_n 1) 1 934 := ⟨k_dL_law_926.2.2.2.1, rfl⟩
theorem dL_law_934 : Dc mL_law 934 (.aload_n 0) 1 935 := ⟨k_dL_law_926.2.2.2.2.1, rfl⟩
theorem dL_law_935 : Dc mL_law 935 (.iload 4) 2 937 := ⟨k_dL_law_926.2.2.2.2.2, rfl⟩
theorem k_dL_law_937 : decode (mL_law).2.1 937 = .ok ((.iconst 1), 1) ∧ decode (mL_law).2.1 938 = .ok ((.iadd), 1) ∧ decode (mL_law).2.1 939 = .ok ((.iaload), 1) ∧ decode (mL_law).2.1 940 = .ok ((.aload_n 0), 1) ∧ decode (mL_law).2.1 941 = .ok ((.iload 4), 2) ∧ decode (mL_law).2.1 943 = .ok ((.iconst 2), 1) := by decide +kernel
theorem dL_law_937 : Dc mL_law 937 (.iconst 1) 1 938 := ⟨k_dL_law_937.1, rfl⟩
theorem dL_law_938 : Dc mL_law 938 (.iadd) 1 939 := ⟨k_dL_law_937.2.1, rfl⟩
theorem dL_law_939 : Dc mL_law 939 (.iaload) 1 940 := ⟨k_dL_law_937.2.2.1, rfl⟩
theorem dL_law_940 : Dc mL_law 940 (.aload_n 0) 1 941 := ⟨k_dL_law_937.2.2.2.1, rfl⟩
theorem dL_law_941 : Dc mL_law 941 (.iload 4) 2 943 := ⟨k_dL_law_937.2.2.2.2.1, rfl⟩
theorem dL_law_943 : Dc mL_law 943 (.iconst 2) 1 944 := ⟨k_dL_law_937.2.2.2.2.2, rfl⟩
theorem k_dL_law_944 : decode (mL_law).2.1 944 = .ok ((.iadd), 1) ∧ decode (mL_law).2.1 945 = .ok ((.iaload), 1) ∧ decode (mL_law).2.1 946 = .ok ((.invokevirtual 120), 3) ∧ decode (mL_law).2.1 949 = .ok ((.pop), 1) ∧ decode (mL_law).2.1 950 = .ok ((.aload_n 2), 1) ∧ decode (mL_law).2.1 951 = .ok ((.aload_n 0), 1) := by decide +kernel
theorem dL_law_944 : Dc mL_law 944 (.iadd) 1 945 := ⟨k_dL_law_944.1, rfl⟩
theorem dL_law_945 : Dc mL_law 945 (.iaload) 1 946 := ⟨k_dL_law_944.2.1, rfl⟩
theorem dL_law_946 : Dc mL_law 946 (.invokevirtual 120) 3 949 := ⟨k_dL_law_944.2.2.1, rfl⟩
theorem dL_law_949 : Dc mL_law 949 (.pop) 1 950 := ⟨k_dL_law_944.2.2.2.1, rfl⟩
theorem dL_law_950 : Dc mL_law 950 (.aload_n 2) 1 951 := ⟨k_dL_law_944.2.2.2.2.1, rfl⟩
theorem dL_law_951 : Dc mL_law 951 (.aload_n 0) 1 952 := ⟨k_dL_law_944.2.2.2.2.2, rfl⟩
theorem k_dL_law_952 : decode (mL_law).2.1 952 = .ok ((.iload 4), 2) ∧ decode (mL_law).2.1 954 = .ok ((.iconst 1), 1) ∧ decode (mL_law).2.1 955 = .ok ((.iadd), 1) ∧ decode (mL_law).2.1 956 = .ok ((.iaload), 1) ∧ decode (mL_law).2.1 957 = .ok ((.aload_n 0), 1) ∧ decode (mL_law).2.1 958 = .ok ((.iload 4), 2) := by decide +kernel
theorem dL_law_952 : Dc mL_law 952 (.iload 4) 2 954 := ⟨k_dL_law_952.1, rfl⟩
theorem dL_law_954 : Dc mL_law 954 (.iconst 1) 1 955 := ⟨k_dL_law_952.2.1, rfl⟩
theorem dL_law_955 : Dc mL_law 955 (.iadd) 1 956 := ⟨k_dL_law_952.2.2.1, rfl⟩
theorem dL_law_956 : Dc mL_law 956 (.iaload) 1 957 := ⟨k_dL_law_952.2.2.2.1, rfl⟩
theorem dL_law_957 : Dc mL_law 957 (.aload_n 0) 1 958 := ⟨k_dL_law_952.2.2.2.2.1, rfl⟩
theorem dL_law_958 : Dc mL_law 958 (.iload 4) 2 960 := ⟨k_dL_law_952.2.2.2.2.2, rfl⟩
theorem k_dL_law_960 : decode (mL_law).2.1 960 = .ok ((.iconst 2), 1) ∧ decode (mL_law).2.1 961 = .ok ((.iadd), 1) ∧ decode (mL_law).2.1 962 = .ok ((.iaload), 1) ∧ decode (mL_law).2.1 963 = .ok ((.invokevirtual 123), 3) ∧ decode (mL_law).2.1 966 = .ok ((.pop), 1) ∧ decode (mL_law).2.1 967 = .ok ((.goto 442), 3) := by decide +kernel
theorem dL_law_960 : Dc mL_law 960 (.iconst 2) 1 961 := ⟨k_dL_law_960.1, rfl⟩
theorem dL_law_961 : Dc mL_law 961 (.iadd) 1 962 := ⟨k_dL_law_960.2.1, rfl⟩
theorem dL_law_962 : Dc mL_law 962 (.iaload) 1 963 := ⟨k_dL_law_960.2.2.1, rfl⟩
theorem dL_law_963 : Dc mL_law 963 (.invokevirtual 123) 3 966 := ⟨k_dL_law_960.2.2.2.1, rfl⟩
theorem dL_law_966 : Dc mL_law 966 (.pop) 1 967 := ⟨k_dL_law_960.2.2.2.2.1, rfl⟩
theorem dL_law_967 : Dc mL_law 967 (.goto 442) 3 970 := ⟨k_dL_law_960.2.2.2.2.2, rfl⟩
theorem k_dL_law_970 : decode (mL_law).2.1 970 = .ok ((.aload_n 1), 1) ∧ decode (mL_law).2.1 971 = .ok ((.aload_n 0), 1) ∧ decode (mL_law).2.1 972 = .ok ((.iload 4), 2) ∧ decode (mL_law).2.1 974 = .ok ((.iconst 1), 1) ∧ decode (mL_law).2.1 975 = .ok ((.iadd), 1) ∧ decode (mL_law).2.1 976 = .ok ((.iaload), 1) := by decide +kernel
theorem dL_law_970 : Dc mL_law 970 (.aload_n 1) 1 971 := ⟨k_dL_law_970.1, rfl⟩
theorem dL_law_971 : Dc mL_law 971 (.aload_n 0) 1 972 := ⟨k_dL_law_970.2.1, rfl⟩
theorem dL_law_972 : Dc mL_law 972 (.iload 4) 2 974 := ⟨k_dL_law_970.2.2.1, rfl⟩
theorem dL_law_974 : Dc mL_law 974 (.iconst 1) 1 975 := ⟨k_dL_law_970.2.2.2.1, rfl⟩
theorem dL_law_975 : Dc mL_law 975 (.iadd) 1 976 := ⟨k_dL_law_970.2.2.2.2.1, rfl⟩
theorem dL_law_976 : Dc mL_law 976 (.iaload) 1 977 := ⟨k_dL_law_970.2.2.2.2.2, rfl⟩
theorem k_dL_law_977 : decode (mL_law).2.1 977 = .ok ((.aload_n 0), 1) ∧ decode (mL_law).2.1 978 = .ok ((.iload 4), 2) ∧ decode (mL_law).2.1 980 = .ok ((.iconst 2), 1) ∧ decode (mL_law).2.1 981 = .ok ((.iadd), 1) ∧ decode (mL_law).2.1 982 = .ok ((.iaload), 1) ∧ decode (mL_law).2.1 983 = .ok ((.aload_n 0), 1) := by decide +kernel
theorem dL_law_977 : Dc mL_law 977 (.aload_n 0) 1 978 := ⟨k_dL_law_977.1, rfl⟩
theorem dL_law_978 : Dc mL_law 978 (.iload 4) 2 980 := ⟨k_dL_law_977.2.1, rfl⟩
theorem dL_law_980 : Dc mL_law 980 (.iconst 2) 1 981 := ⟨k_dL_law_977.2.2.1, rfl⟩
theorem dL_law_981 : Dc mL_law 981 (.iadd) 1 982 := ⟨k_dL_law_977.2.2.2.1, rfl⟩
theorem dL_law_982 : Dc mL_law 982 (.iaload) 1 983 := ⟨k_dL_law_977.2.2.2.2.1, rfl⟩
theorem dL_law_983 : Dc mL_law 983 (.aload_n 0) 1 984 := ⟨k_dL_law_977.2.2.2.2.2, rfl⟩
theorem k_dL_law_984 : decode (mL_law).2.1 984 = .ok ((.iload 4), 2) ∧ decode (mL_law).2.1 986 = .ok ((.iconst 3), 1) ∧ decode (mL_law).2.1 987 = .ok ((.iadd), 1) ∧ decode (mL_law).2.1 988 = .ok ((.iaload), 1) ∧ decode (mL_law).2.1 989 = .ok ((.invokevirtual 124), 3) ∧ decode (mL_law).2.1 992 = .ok ((.pop), 1) := by decide +kernel
theorem dL_law_984 : Dc mL_law 984 (.iload 4) 2 986 := ⟨k_dL_law_984.1, rfl⟩
theorem dL_law_986 : Dc mL_law 986 (.iconst 3) 1 987 := ⟨k_dL_law_984.2.1, rfl⟩
theorem dL_law_987 : Dc mL_law 987 (.iadd) 1 988 := ⟨k_dL_law_984.2.2.1, rfl⟩
theorem dL_law_988 : Dc mL_law 988 (.iaload) 1 989 := ⟨k_dL_law_984.2.2.2.1, rfl⟩
theorem dL_law_989 : Dc mL_law 989 (.invokevirtual 124) 3 992 := ⟨k_dL_law_984.2.2.2.2.1, rfl⟩
theorem dL_law_992 : Dc mL_law 992 (.pop) 1 993 := ⟨k_dL_law_984.2.2.2.2.2, rfl⟩
theorem k_dL_law_993 : decode (mL_law).2.1 993 = .ok ((.aload_n 2), 1) ∧ decode (mL_law).2.1 994 = .ok ((.aload_n 0), 1) ∧ decode (mL_law).2.1 995 = .ok ((.iload 4), 2) ∧ decode (mL_law).2.1 997 = .ok ((.iconst 1), 1) ∧ decode (mL_law).2.1 998 = .ok ((.iadd), 1) ∧ decode (mL_law).2.1 999 = .ok ((.iaload), 1) := by decide +kernel
theorem dL_law_993 : Dc mL_law 993 (.aload_n 2) 1 994 := ⟨k_dL_law_993.1, rfl⟩
theorem dL_law_994 : Dc mL_law 994 (.aload_n 0) 1 995 := ⟨k_dL_law_993.2.1, rfl⟩
theorem dL_law_995 : Dc mL_law 995 (.iload 4) 2 997 := ⟨k_dL_law_993.2.2.1, rfl⟩
theorem dL_law_997 : Dc mL_law 997 (.iconst 1) 1 998 := ⟨k_dL_law_993.2.2.2.1, rfl⟩
theorem dL_law_998 : Dc mL_law 998 (.iadd) 1 999 := ⟨k_dL_law_993.2.2.2.2.1, rfl⟩
theorem dL_law_999 : Dc mL_law 999 (.iaload) 1 1000 := ⟨k_dL_law_993.2.2.2.2.2, rfl⟩
theorem k_dL_law_1000 : decode (mL_law).2.1 1000 = .ok ((.aload_n 0), 1) ∧ decode (mL_law).2.1 1001 = .ok ((.iload 4), 2) ∧ decode (mL_law).2.1 1003 = .ok ((.iconst 2), 1) ∧ decode (mL_law).2.1 1004 = .ok ((.iadd), 1) ∧ decode (mL_law).2.1 1005 = .ok ((.iaload), 1) ∧ decode (mL_law).2.1 1006 = .ok ((.aload_n 0), 1) := by decide +kernel
theorem dL_law_1000 : Dc mL_law 1000 (.aload_n 0) 1 1001 := ⟨k_dL_law_1000.1, rfl⟩
theorem dL_law_1001 : Dc mL_law 1001 (.iload 4) 2 1003 := ⟨k_dL_law_1000.2.1, rfl⟩
theorem dL_law_1003 : Dc mL_law 1003 (.iconst 2) 1 1004 := ⟨k_dL_law_1000.2.2.1, rfl⟩
theorem dL_law_1004 : Dc mL_law 1004 (.iadd) 1 1005 := ⟨k_dL_law_1000.2.2.2.1, rfl⟩
theorem dL_law_1005 : Dc mL_law 1005 (.iaload) 1 1006 := ⟨k_dL_law_1000.2.2.2.2.1, rfl⟩
theorem dL_law_1006 : Dc mL_law 1006 (.aload_n 0) 1 1007 := ⟨k_dL_law_1000.2.2.2.2.2, rfl⟩
theorem k_dL_law_1007 : decode (mL_law).2.1 1007 = .ok ((.iload 4), 2) ∧ decode (mL_law).2.1 1009 = .ok ((.iconst 3), 1) ∧ decode (mL_law).2.1 1010 = .ok ((.iadd), 1) ∧ decode (mL_law).2.1 1011 = .ok ((.iaload), 1) ∧ decode (mL_law).2.1 1012 = .ok ((.invokevirtual 128), 3) ∧ decode (mL_law).2.1 1015 = .ok ((.pop), 1) := by decide +kernel
theorem dL_law_1007 : Dc mL_law 1007 (.iload 4) 2 1009 := ⟨k_dL_law_1007.1, rfl⟩
theorem dL_law_1009 : Dc mL_law 1009 (.iconst 3) 1 1010 := ⟨k_dL_law_1007.2.1, rfl⟩
theorem dL_law_1010 : Dc mL_law 1010 (.iadd) 1 1011 := ⟨k_dL_law_1007.2.2.1, rfl⟩
theorem dL_law_1011 : Dc mL_law 1011 (.iaload) 1 1012 := ⟨k_dL_law_1007.2.2.2.1, rfl⟩
theorem dL_law_1012 : Dc mL_law 1012 (.invokevirtual 128) 3 1015 := ⟨k_dL_law_1007.2.2.2.2.1, rfl⟩
theorem dL_law_1015 : Dc mL_law 1015 (.pop) 1 1016 := ⟨k_dL_law_1007.2.2.2.2.2, rfl⟩
theorem k_dL_law_1016 : decode (mL_law).2.1 1016 = .ok ((.goto 393), 3) ∧ decode (mL_law).2.1 1019 = .ok ((.aload_n 1), 1) ∧ decode (mL_law).2.1 1020 = .ok ((.aload_n 0), 1) ∧ decode (mL_law).2.1 1021 = .ok ((.iload 4), 2) ∧ decode (mL_law).2.1 1023 = .ok ((.iconst 1), 1) ∧ decode (mL_law).2.1 1024 = .ok ((.iadd), 1) := by decide +kernel
theorem dL_law_1016 : Dc mL_law 1016 (.goto 393) 3 1019 := ⟨k_dL_law_1016.1, rfl⟩
theorem dL_law_1019 : Dc mL_law 1019 (.aload_n 1) 1 1020 := ⟨k_dL_law_1016.2.1, rfl⟩
theorem dL_law_1020 : Dc mL_law 1020 (.aload_n 0) 1 1021 := ⟨k_dL_law_1016.2.2.1, rfl⟩
theorem dL_law_1021 : Dc mL_law 1021 (.iload 4) 2 1023 := ⟨k_dL_law_1016.2.2.2.1, rfl⟩
theorem dL_law_1023 : Dc mL_law 1023 (.iconst 1) 1 1024 := ⟨k_dL_law_1016.2.2.2.2.1, rfl⟩
theorem dL_law_1024 : Dc mL_law 1024 (.iadd) 1 1025 := ⟨k_dL_law_1016.2.2.2.2.2, rfl⟩
theorem k_dL_law_1025 : decode (mL_law).2.1 1025 = .ok ((.iaload), 1) ∧ decode (mL_law).2.1 1026 = .ok ((.aload_n 0), 1) ∧ decode (mL_law).2.1 1027 = .ok ((.iload 4), 2) ∧ decode (mL_law).2.1 1029 = .ok ((.iconst 2), 1) ∧ decode (mL_law).2.1 1030 = .ok ((.iadd), 1) ∧ decode (mL_law).2.1 1031 = .ok ((.iaload), 1) := by decide +kernel
theorem dL_law_1025 : Dc mL_law 1025 (.iaload) 1 1026 := ⟨k_dL_law_1025.1, rfl⟩
theorem dL_law_1026 : Dc mL_law 1026 (.aload_n 0) 1 1027 := ⟨k_dL_law_1025.2.1, rfl⟩
theorem dL_law_1027 : Dc mL_law 1027 (.iload 4) 2 1029 := ⟨k_dL_law_1025.2.2.1, rfl⟩
theorem dL_law_1029 : Dc mL_law 1029 (.iconst 2) 1 1030 := ⟨k_dL_law_1025.2.2.2.1, rfl⟩
theorem dL_law_1030 : Dc mL_law 1030 (.iadd) 1 1031 := ⟨k_dL_law_1025.2.2.2.2.1, rfl⟩
theorem dL_law_1031 : Dc mL_law 1031 (.iaload) 1 1032 := ⟨k_dL_law_1025.2.2.2.2.2, rfl⟩
theorem k_dL_law_1032 : decode (mL_law).2.1 1032 = .ok ((.invokevirtual 129), 3) ∧ decode (mL_law).2.1 1035 = .ok ((.pop2), 1) ∧ decode (mL_law).2.1 1036 = .ok ((.aload_n 2), 1) ∧ decode (mL_law).2.1 1037 = .ok ((.aload_n 0), 1) ∧ decode (mL_law).2.1 1038 = .ok ((.iload 4), 2) ∧ decode (mL_law).2.1 1040 = .ok ((.iconst 1), 1) := by decide +kernel
theorem dL_law_1032 : Dc mL_law 1032 (.invokevirtual 129) 3 1035 := ⟨k_dL_law_1032.1, rfl⟩
theorem dL_law_1035 : Dc mL_law 1035 (.pop2) 1 1036 := ⟨k_dL_law_1032.2.1, rfl⟩
theorem dL_law_1036 : Dc mL_law 1036 (.aload_n 2) 1 1037 := ⟨k_dL_law_1032.2.2.1, rfl⟩
theorem dL_law_1037 : Dc mL_law 1037 (.aload_n 0) 1 1038 := ⟨k_dL_law_1032.2.2.2.1, rfl⟩
theorem dL_law_1038 : Dc mL_law 1038 (.iload 4) 2 1040 := ⟨k_dL_law_1032.2.2.2.2.1, rfl⟩
theorem dL_law_1040 : Dc mL_law 1040 (.iconst 1) 1 1041 := ⟨k_dL_law_1032.2.2.2.2.2, rfl⟩
theorem k_dL_law_1041 : decode (mL_law).2.1 1041 = .ok ((.iadd), 1) ∧ decode (mL_law).2.1 1042 = .ok ((.iaload), 1) ∧ decode (mL_law).2.1 1043 = .ok ((.aload_n 0), 1) ∧ decode (mL_law).2.1 1044 = .ok ((.iload 4), 2) ∧ decode (mL_law).2.1 1046 = .ok ((.iconst 2), 1) ∧ decode (mL_law).2.1 1047 = .ok ((.iadd), 1) := by decide +kernel
theorem dL_law_1041 : Dc mL_law 1041 (.iadd) 1 1042 := ⟨k_dL_law_1041.1, rfl⟩
theorem dL_law_1042 : Dc mL_law 1042 (.iaload) 1 1043 := ⟨k_dL_law_1041.2.1, rfl⟩
theorem dL_law_1043 : Dc mL_law 1043 (.aload_n 0) 1 1044 := ⟨k_dL_law_1041.2.2.1, rfl⟩
theorem dL_law_1044 : Dc mL_law 1044 (.iload 4) 2 1046 := ⟨k_dL_law_1041.2.2.2.1, rfl⟩
theorem dL_law_1046 : Dc mL_law 1046 (.iconst 2) 1 1047 := ⟨k_dL_law_1041.2.2.2.2.1, rfl⟩
theorem dL_law_1047 : Dc mL_law 1047 (.iadd) 1 1048 := ⟨k_dL_law_1041.2.2.2.2.2, rfl⟩
theorem k_dL_law_1048 : decode (mL_law).2.1 1048 = .ok ((.iaload), 1) ∧ decode (mL_law).2.1 1049 = .ok ((.invokevirtual 133), 3) ∧ decode (mL_law).2.1 1052 = .ok ((.pop2), 1) ∧ decode (mL_law).2.1 1053 = .ok ((.goto 356), 3) ∧ decode (mL_law).2.1 1056 = .ok ((.aload_n 1), 1) ∧ decode (mL_law).2.1 1057 = .ok ((.aload_n 0), 1) := by decide +kernel
theorem dL_law_1048 : Dc mL_law 1048 (.iaload) 1 1049 := ⟨k_dL_law_1048.1, rfl⟩
theorem dL_law_1049 : Dc mL_law 1049 (.invokevirtual 133) 3 1052 := ⟨k_dL_law_1048.2.1, rfl⟩
theorem dL_law_1052 : Dc mL_law 1052 (.pop2) 1 1053 := ⟨k_dL_law_1048.2.2.1, rfl⟩
theorem dL_law_1053 : Dc mL_law 1053 (.goto 356) 3 1056 := ⟨k_dL_law_1048.2.2.2.1, rfl⟩
theorem dL_law_1056 : Dc mL_law 1056 (.aload_n 1) 1 1057 := ⟨k_dL_law_1048.2.2.2.2.1, rfl⟩
theorem dL_law_1057 : Dc mL_law 1057 (.aload_n 0) 1 1058 := ⟨k_dL_law_1048.2.2.2.2.2, rfl⟩
theorem k_dL_law_1058 : decode (mL_law).2.1 1058 = .ok ((.iload 4), 2) ∧ decode (mL_law).2.1 1060 = .ok ((.iconst 1), 1) ∧ decode (mL_law).2.1 1061 = .ok ((.iadd), 1) ∧ decode (mL_law).2.1 1062 = .ok ((.iaload), 1) ∧ decode (mL_law).2.1 1063 = .ok ((.invokevirtual 134), 3) ∧ decode (mL_law).2.1 1066 = .ok ((.pop), 1) := by decide +kernel
theorem dL_law_1058 : Dc mL_law 1058 (.iload 4) 2 1060 := ⟨k_dL_law_1058.1, rfl⟩
theorem dL_law_1060 : Dc mL_law 1060 (.iconst 1) 1 1061 := ⟨k_dL_law_1058.2.1, rfl⟩
theorem dL_law_1061 : Dc mL_law 1061 (.iadd) 1 1062 := ⟨k_dL_law_1058.2.2.1, rfl⟩
theorem dL_law_1062 : Dc mL_law 1062 (.iaload) 1 1063 := ⟨k_dL_law_1058.2.2.2.1, rfl⟩
theorem dL_law_1063 : Dc mL_law 1063 (.invokevirtual 134) 3 1066 := ⟨k_dL_law_1058.2.2.2.2.1, rfl⟩
theorem dL_law_1066 : Dc mL_law 1066 (.pop) 1 1067 := ⟨k_dL_law_1058.2.2.2.2.2, rfl⟩
theorem k_dL_law_1067 : decode (mL_law).2.1 1067 = .ok ((.aload_n 2), 1) ∧ decode (mL_law).2.1 1068 = .ok ((.aload_n 0), 1) ∧ decode (mL_law).2.1 1069 = .ok ((.iload 4), 2) ∧ decode (mL_law).2.1 1071 = .ok ((.iconst 1), 1) ∧ decode (mL_law).2.1 1072 = .ok ((.iadd), 1) ∧ decode (mL_law).2.1 1073 = .ok ((.iaload), 1) := by decide +kernel
theorem dL_law_1067 : Dc mL_law 1067 (.aload_n 2) 1 1068 := ⟨k_dL_law_1067.1, rfl⟩
theorem dL_law_1068 : Dc mL_law 1068 (.aload_n 0) 1 1069 := ⟨k_dL_law_1067.2.1, rfl⟩
theorem dL_law_1069 : Dc mL_law 1069 (.iload 4) 2 1071 := ⟨k_dL_law_1067.2.2.1, rfl⟩
theorem dL_law_1071 : Dc mL_law 1071 (.iconst 1) 1 1072 := ⟨k_dL_law_1067.2.2.2.1, rfl⟩
theorem dL_law_1072 : Dc mL_law 1072 (.iadd) 1 1073 := ⟨k_dL_law_1067.2.2.2.2.1, rfl⟩
theorem dL_law_1073 : Dc mL_law 1073 (.iaload) 1 1074 := ⟨k_dL_law_1067.2.2.2.2.2, rfl⟩
theorem k_dL_law_1074 : decode (mL_law).2.1 1074 = .ok ((.invokevirtual 137), 3) ∧ decode (mL_law).2.1 1077 = .ok ((.pop), 1) ∧ decode (mL_law).2.1 1078 = .ok ((.goto 331), 3) ∧ decode (mL_law).2.1 1081 = .ok ((.aload_n 1), 1) ∧ decode (mL_law).2.1 1082 = .ok ((.invokevirtual 138), 3) ∧ decode (mL_law).2.1 1085 = .ok ((.pop), 1) := by decide +kernel
theorem dL_law_1074 : Dc mL_law 1074 (.invokevirtual 137) 3 1077 := ⟨k_dL_law_1074.1, rfl⟩
theorem dL_law_1077 : Dc mL_law 1077 (.pop) 1 1078 := ⟨k_dL_law_1074.2.1, rfl⟩
theorem dL_law_1078 : Dc mL_law 1078 (.goto 331) 3 1081 := ⟨k_dL_law_1074.2.2.1, rfl⟩
theorem dL_law_1081 : Dc mL_law 1081 (.aload_n 1) 1 1082 := ⟨k_dL_law_1074.2.2.2.1, rfl⟩
theorem dL_law_1082 : Dc mL_law 1082 (.invokevirtual 138) 3 1085 := ⟨k_dL_law_1074.2.2.2.2.1, rfl⟩
theorem dL_law_1085 : Dc mL_law 1085 (.pop) 1 1086 := ⟨k_dL_law_1074.2.2.2.2.2, rfl⟩
theorem k_dL_law_1086 : decode (mL_law).2.1 1086 = .ok ((.aload_n 2), 1) ∧ decode (mL_law).2.1 1087 = .ok ((.invokevirtual 141), 3) ∧ decode (mL_law).2.1 1090 = .ok ((.pop), 1) ∧ decode (mL_law).2.1 1091 = .ok ((.goto 318), 3) ∧ decode (mL_law).2.1 1094 = .ok ((.aload_n 1), 1) ∧ decode (mL_law).2.1 1095 = .ok ((.invokevirtual 142), 3) := by decide +kernel
theorem dL_law_1086 : Dc mL_law 1086 (.aload_n 2) 1 1087 := ⟨k_dL_law_1086.1, rfl⟩
theorem dL_law_1087 : Dc mL_law 1087 (.invokevirtual 141) 3 1090 := ⟨k_dL_law_1086.2.1, rfl⟩
theorem dL_law_1090 : Dc mL_law 1090 (.pop) 1 1091 := ⟨k_dL_law_1086.2.2.1, rfl⟩
theorem dL_law_1091 : Dc mL_law 1091 (.goto 318) 3 1094 := ⟨k_dL_law_1086.2.2.2.1, rfl⟩
theorem dL_law_1094 : Dc mL_law 1094 (.aload_n 1) 1 1095 := ⟨k_dL_law_1086.2.2.2.2.1, rfl⟩
theorem dL_law_1095 : Dc mL_law 1095 (.invokevirtual 142) 3 1098 := ⟨k_dL_law_1086.2.2.2.2.2, rfl⟩
theorem k_dL_law_1098 : decode (mL_law).2.1 1098 = .ok ((.pop), 1) ∧ decode (mL_law).2.1 1099 = .ok ((.aload_n 2), 1) ∧ decode (mL_law).2.1 1100 = .ok ((.invokevirtual 145), 3) ∧ decode (mL_law).2.1 1103 = .ok ((.pop), 1) ∧ decode (mL_law).2.1 1104 = .ok ((.goto 305), 3) ∧ decode (mL_law).2.1 1107 = .ok ((.aload_n 1), 1) := by decide +kernel
theorem dL_law_1098 : Dc mL_law 1098 (.pop) 1 1099 := ⟨k_dL_law_1098.1, rfl⟩
theorem dL_law_1099 : Dc mL_law 1099 (.aload_n 2) 1 1100 := ⟨k_dL_law_1098.2.1, rfl⟩
theorem dL_law_1100 : Dc mL_law 1100 (.invokevirtual 145) 3 1103 := ⟨k_dL_law_1098.2.2.1, rfl⟩
theorem dL_law_1103 : Dc mL_law 1103 (.pop) 1 1104 := ⟨k_dL_law_1098.2.2.2.1, rfl⟩
theorem dL_law_1104 : Dc mL_law 1104 (.goto 305) 3 1107 := ⟨k_dL_law_1098.2.2.2.2.1, rfl⟩
theorem dL_law_1107 : Dc mL_law 1107 (.aload_n 1) 1 1108 := ⟨k_dL_law_1098.2.2.2.2.2, rfl⟩
theorem k_dL_law_1108 : decode (mL_law).2.1 1108 = .ok ((.aload_n 0), 1) ∧ decode (mL_law).2.1 1109 = .ok ((.iload 4), 2) ∧ decode (mL_law).2.1 1111 = .ok ((.iconst 1), 1) ∧ decode (mL_law).2.1 1112 = .ok ((.iadd), 1) ∧ decode (mL_law).2.1 1113 = .ok ((.iaload), 1) ∧ decode (mL_law).2.1 1114 = .ok ((.aload_n 0), 1) := by decide +kernel
theorem dL_law_1108 : Dc mL_law 1108 (.aload_n 0) 1 1109 := ⟨k_dL_law_1108.1, rfl⟩
theorem dL_law_1109 : Dc mL_law 1109 (.iload 4) 2 1111 := ⟨k_dL_law_1108.2.1, rfl⟩
theorem dL_law_1111 : Dc mL_law 1111 (.iconst 1) 1 1112 := ⟨k_dL_law_1108.2.2.1, rfl⟩
theorem dL_law_1112 : Dc mL_law 1112 (.iadd) 1 1113 := ⟨k_dL_law_1108.2.2.2.1, rfl⟩
theorem dL_law_1113 : Dc mL_law 1113 (.iaload) 1 1114 := ⟨k_dL_law_1108.2.2.2.2.1, rfl⟩
theorem dL_law_1114 : Dc mL_law 1114 (.aload_n 0) 1 1115 := ⟨k_dL_law_1108.2.2.2.2.2, rfl⟩
theorem k_dL_law_1115 : decode (mL_law).2.1 1115 = .ok ((.iload 4), 2) ∧ decode (mL_law).2.1 1117 = .ok ((.iconst 2), 1) ∧ decode (mL_law).2.1 1118 = .ok ((.iadd), 1) ∧ decode (mL_law).2.1 1119 = .ok ((.iaload), 1) ∧ decode (mL_law).2.1 1120 = .ok ((.aload_n 0), 1) ∧ decode (mL_law).2.1 1121 = .ok ((.iload 4), 2) := by decide +kernel
theorem dL_law_1115 : Dc mL_law 1115 (.iload 4) 2 1117 := ⟨k_dL_law_1115.1, rfl⟩
theorem dL_law_1117 : Dc mL_law 1117 (.iconst 2) 1 1118 := ⟨k_dL_law_1115.2.1, rfl⟩
theorem dL_law_1118 : Dc mL_law 1118 (.iadd) 1 1119 := ⟨k_dL_law_1115.2.2.1, rfl⟩
theorem dL_law_1119 : Dc mL_law 1119 (.iaload) 1 1120 := ⟨k_dL_law_1115.2.2.2.1, rfl⟩
theorem dL_law_1120 : Dc mL_law 1120 (.aload_n 0) 1 1121 := ⟨k_dL_law_1115.2.2.2.2.1, rfl⟩
theorem dL_law_1121 : Dc mL_law 1121 (.iload 4) 2 1123 := ⟨k_dL_law_1115.2.2.2.2.2, rfl⟩
theorem k_dL_law_1123 : decode (mL_law).2.1 1123 = .ok ((.iconst 3), 1) ∧ decode (mL_law).2.1 1124 = .ok ((.iadd), 1) ∧ decode (mL_law).2.1 1125 = .ok ((.iaload), 1) ∧ decode (mL_law).2.1 1126 = .ok ((.ifCond .eq 7), 3) ∧ decode (mL_law).2.1 1129 = .ok ((.iconst 1), 1) ∧ decode (mL_law).2.1 1130 = .ok ((.goto 4), 3) := by decide +kernel
theorem dL_law_1123 : Dc mL_law 1123 (.iconst 3) 1 1124 := ⟨k_dL_law_1123.1, rfl⟩
theorem dL_law_1124 : Dc mL_law 1124 (.iadd) 1 1125 := ⟨k_dL_law_1123.2.1, rfl⟩
theorem dL_law_1125 : Dc mL_law 1125 (.iaload) 1 1126 := ⟨k_dL_law_1123.2.2.1, rfl⟩
theorem dL_law_1126 : Dc mL_law 1126 (.ifCond .eq 7) 3 1129 := ⟨k_dL_law_1123.2.2.2.1, rfl⟩
theorem dL_law_1129 : Dc mL_law 1129 (.iconst 1) 1 1130 := ⟨k_dL_law_1123.2.2.2.2.1, rfl⟩
theorem dL_law_1130 : Dc mL_law 1130 (.goto 4) 3 1133 := ⟨k_dL_law_1123.2.2.2.2.2, rfl⟩
theorem k_dL_law_1133 : decode (mL_law).2.1 1133 = .ok ((.iconst 0), 1) ∧ decode (mL_law).2.1 1134 = .ok ((.invokevirtual 146), 3) ∧ decode (mL_law).2.1 1137 = .ok ((.pop), 1) ∧ decode (mL_law).2.1 1138 = .ok ((.aload_n 2), 1) ∧ decode (mL_law).2.1 1139 = .ok ((.aload_n 0), 1) ∧ decode (mL_law).2.1 1140 = .ok ((.iload 4), 2) := by decide +kernel
theorem dL_law_1133 : Dc mL_law 1133 (.iconst 0) 1 1134 := ⟨k_dL_law_1133.1, rfl⟩
theorem dL_law_1134 : Dc mL_law 1134 (.invokevirtual 146) 3 1137 := ⟨k_dL_law_1133.2.1, rfl⟩
theorem dL_law_1137 : Dc mL_law 1137 (.pop) 1 1138 := ⟨k_dL_law_1133.2.2.1, rfl⟩
theorem dL_law_1138 : Dc mL_law 1138 (.aload_n 2) 1 1139 := ⟨k_dL_law_1133.2.2.2.1, rfl⟩
theorem dL_law_1139 : Dc mL_law 1139 (.aload_n 0) 1 1140 := ⟨k_dL_law_1133.2.2.2.2.1, rfl⟩
theorem dL_law_1140 : Dc mL_law 1140 (.iload 4) 2 1142 := ⟨k_dL_law_1133.2.2.2.2.2, rfl⟩
theorem k_dL_law_1142 : decode (mL_law).2.1 1142 = .ok ((.iconst 1), 1) ∧ decode (mL_law).2.1 1143 = .ok ((.iadd), 1) ∧ decode (mL_law).2.1 1144 = .ok ((.iaload), 1) ∧ decode (mL_law).2.1 1145 = .ok ((.aload_n 0), 1) ∧ decode (mL_law).2.1 1146 = .ok ((.iload 4), 2) ∧ decode (mL_law).2.1 1148 = .ok ((.iconst 2), 1) := by decide +kernel
theorem dL_law_1142 : Dc mL_law 1142 (.iconst 1) 1 1143 := ⟨k_dL_law_1142.1, rfl⟩
theorem dL_law_1143 : Dc mL_law 1143 (.iadd) 1 1144 := ⟨k_dL_law_1142.2.1, rfl⟩
theorem dL_law_1144 : Dc mL_law 1144 (.iaload) 1 1145 := ⟨k_dL_law_1142.2.2.1, rfl⟩
theorem dL_law_1145 : Dc mL_law 1145 (.aload_n 0) 1 1146 := ⟨k_dL_law_1142.2.2.2.1, rfl⟩
theorem dL_law_1146 : Dc mL_law 1146 (.iload 4) 2 1148 := ⟨k_dL_law_1142.2.2.2.2.1, rfl⟩
theorem dL_law_1148 : Dc mL_law 1148 (.iconst 2) 1 1149 := ⟨k_dL_law_1142.2.2.2.2.2, rfl⟩
theorem k_dL_law_1149 : decode (mL_law).2.1 1149 = .ok ((.iadd), 1) ∧ decode (mL_law).2.1 1150 = .ok ((.iaload), 1) ∧ decode (mL_law).2.1 1151 = .ok ((.aload_n 0), 1) ∧ decode (mL_law).2.1 1152 = .ok ((.iload 4), 2) ∧ decode (mL_law).2.1 1154 = .ok ((.iconst 3), 1) ∧ decode (mL_law).2.1 1155 = .ok ((.iadd), 1) := by decide +kernel
theorem dL_law_1149 : Dc mL_law 1149 (.iadd) 1 1150 := ⟨k_dL_law_1149.1, rfl⟩
theorem dL_law_1150 : Dc mL_law 1150 (.iaload) 1 1151 := ⟨k_dL_law_1149.2.1, rfl⟩
theorem dL_law_1151 : Dc mL_law 1151 (.aload_n 0) 1 1152 := ⟨k_dL_law_1149.2.2.1, rfl⟩
theorem dL_law_1152 : Dc mL_law 1152 (.iload 4) 2 1154 := ⟨k_dL_law_1149.2.2.2.1, rfl⟩
theorem dL_law_1154 : Dc mL_law 1154 (.iconst 3) 1 1155 := ⟨k_dL_law_1149.2.2.2.2.1, rfl⟩
theorem dL_law_1155 : Dc mL_law 1155 (.iadd) 1 1156 := ⟨k_dL_law_1149.2.2.2.2.2, rfl⟩
theorem k_dL_law_1156 : decode (mL_law).2.1 1156 = .ok ((.iaload), 1) ∧ decode (mL_law).2.1 1157 = .ok ((.ifCond .eq 7), 3) ∧ decode (mL_law).2.1 1160 = .ok ((.iconst 1), 1) ∧ decode (mL_law).2.1 1161 = .ok ((.goto 4), 3) ∧ decode (mL_law).2.1 1164 = .ok ((.iconst 0), 1) ∧ decode (mL_law).2.1 1165 = .ok ((.invokevirtual 150), 3) := by decide +kernel
theorem dL_law_1156 : Dc mL_law 1156 (.iaload) 1 1157 := ⟨k_dL_law_1156.1, rfl⟩
theorem dL_law_1157 : Dc mL_law 1157 (.ifCond .eq 7) 3 1160 := ⟨k_dL_law_1156.2.1, rfl⟩
theorem dL_law_1160 : Dc mL_law 1160 (.iconst 1) 1 1161 := ⟨k_dL_law_1156.2.2.1, rfl⟩
theorem dL_law_1161 : Dc mL_law 1161 (.goto 4) 3 1164 := ⟨k_dL_law_1156.2.2.2.1, rfl⟩
theorem dL_law_1164 : Dc mL_law 1164 (.iconst 0) 1 1165 := ⟨k_dL_law_1156.2.2.2.2.1, rfl⟩
theorem dL_law_1165 : Dc mL_law 1165 (.invokevirtual 150) 3 1168 := ⟨k_dL_law_1156.2.2.2.2.2, rfl⟩
theorem k_dL_law_1168 : decode (mL_law).2.1 1168 = .ok ((.pop), 1) ∧ decode (mL_law).2.1 1169 = .ok ((.goto 240), 3) ∧ decode (mL_law).2.1 1172 = .ok ((.aload_n 1), 1) ∧ decode (mL_law).2.1 1173 = .ok ((.aload_n 0), 1) ∧ decode (mL_law).2.1 1174 = .ok ((.iload 4), 2) ∧ decode (mL_law).2.1 1176 = .ok ((.iconst 1), 1) := by decide +kernel
theorem dL_law_1168 : Dc mL_law 1168 (.pop) 1 1169 := ⟨k_dL_law_1168.1, rfl⟩
theorem dL_law_1169 : Dc mL_law 1169 (.goto 240) 3 1172 := ⟨k_dL_law_1168.2.1, rfl⟩
theorem dL_law_1172 : Dc mL_law 1172 (.aload_n 1) 1 1173 := ⟨k_dL_law_1168.2.2.1, rfl⟩
theorem dL_law_1173 : Dc mL_law 1173 (.aload_n 0) 1 1174 := ⟨k_dL_law_1168.2.2.2.1, rfl⟩
theorem dL_law_1174 : Dc mL_law 1174 (.iload 4) 2 1176 := ⟨k_dL_law_1168.2.2.2.2.1, rfl⟩
theorem dL_law_1176 : Dc mL_law 1176 (.iconst 1) 1 1177 := ⟨k_dL_law_1168.2.2.2.2.2, rfl⟩
theorem k_dL_law_1177 : decode (mL_law).2.1 1177 = .ok ((.iadd), 1) ∧ decode (mL_law).2.1 1178 = .ok ((.iaload), 1) ∧ decode (mL_law).2.1 1179 = .ok ((.invokevirtual 151), 3) ∧ decode (mL_law).2.1 1182 = .ok ((.pop), 1) ∧ decode (mL_law).2.1 1183 = .ok ((.aload_n 2), 1) ∧ decode (mL_law).2.1 1184 = .ok ((.aload_n 0), 1) := by decide +kernel
theorem dL_law_1177 : Dc mL_law 1177 (.iadd) 1 1178 := ⟨k_dL_law_1177.1, rfl⟩
theorem dL_law_1178 : Dc mL_law 1178 (.iaload) 1 1179 := ⟨k_dL_law_1177.2.1, rfl⟩
theorem dL_law_1179 : Dc mL_law 1179 (.invokevirtual 151) 3 1182 := ⟨k_dL_law_1177.2.2.1, rfl⟩
theorem dL_law_1182 : Dc mL_law 1182 (.pop) 1 1183 := ⟨k_dL_law_1177.2.2.2.1, rfl⟩
theorem dL_law_1183 : Dc mL_law 1183 (.aload_n 2) 1 1184 := ⟨k_dL_law_1177.2.2.2.2.1, rfl⟩
theorem dL_law_1184 : Dc mL_law 1184 (.aload_n 0) 1 1185 := ⟨k_dL_law_1177.2.2.2.2.2, rfl⟩
theorem k_dL_law_1185 : decode (mL_law).2.1 1185 = .ok ((.iload 4), 2) ∧ decode (mL_law).2.1 1187 = .ok ((.iconst 1), 1) ∧ decode (mL_law).2.1 1188 = .ok ((.iadd), 1) ∧ decode (mL_law).2.1 1189 = .ok ((.iaload), 1) ∧ decode (mL_law).2.1 1190 = .ok ((.invokevirtual 154), 3) ∧ decode (mL_law).2.1 1193 = .ok ((.pop), 1) := by decide +kernel
theorem dL_law_1185 : Dc mL_law 1185 (.iload 4) 2 1187 := ⟨k_dL_law_1185.1, rfl⟩
theorem dL_law_1187 : Dc mL_law 1187 (.iconst 1) 1 1188 := ⟨k_dL_law_1185.2.1, rfl⟩
theorem dL_law_1188 : Dc mL_law 1188 (.iadd) 1 1189 := ⟨k_dL_law_1185.2.2.1, rfl⟩
theorem dL_law_1189 : Dc mL_law 1189 (.iaload) 1 1190 := ⟨k_dL_law_1185.2.2.2.1, rfl⟩
theorem dL_law_1190 : Dc mL_law 1190 (.invokevirtual 154) 3 1193 := ⟨k_dL_law_1185.2.2.2.2.1, rfl⟩
theorem dL_law_1193 : Dc mL_law 1193 (.pop) 1 1194 := ⟨k_dL_law_1185.2.2.2.2.2, rfl⟩
theorem k_dL_law_1194 : decode (mL_law).2.1 1194 = .ok ((.goto 215), 3) ∧ decode (mL_law).2.1 1197 = .ok ((.aload_n 1), 1) ∧ decode (mL_law).2.1 1198 = .ok ((.aload_n 0), 1) ∧ decode (mL_law).2.1 1199 = .ok ((.iload 4), 2) ∧ decode (mL_law).2.1 1201 = .ok ((.iconst 1), 1) ∧ decode (mL_law).2.1 1202 = .ok ((.iadd), 1) := by decide +kernel
theorem dL_law_1194 : Dc mL_law 1194 (.goto 215) 3 1197 := ⟨k_dL_law_1194.1, rfl⟩
theorem dL_law_1197 : Dc mL_law 1197 (.aload_n 1) 1 1198 := ⟨k_dL_law_1194.2.1, rfl⟩
theorem dL_law_1198 : Dc mL_law 1198 (.aload_n 0) 1 1199 := ⟨k_dL_law_1194.2.2.1, rfl⟩
theorem dL_law_1199 : Dc mL_law 1199 (.iload 4) 2 1201 := ⟨k_dL_law_1194.2.2.2.1, rfl⟩
theorem dL_law_1201 : Dc mL_law 1201 (.iconst 1) 1 1202 := ⟨k_dL_law_1194.2.2.2.2.1, rfl⟩
theorem dL_law_1202 : Dc mL_law 1202 (.iadd) 1 1203 := ⟨k_dL_law_1194.2.2.2.2.2, rfl⟩
theorem k_dL_law_1203 : decode (mL_law).2.1 1203 = .ok ((.iaload), 1) ∧ decode (mL_law).2.1 1204 = .ok ((.invokevirtual 155), 3) ∧ decode (mL_law).2.1 1207 = .ok ((.pop), 1) ∧ decode (mL_law).2.1 1208 = .ok ((.aload_n 2), 1) ∧ decode (mL_law).2.1 1209 = .ok ((.aload_n 0), 1) ∧ decode (mL_law).2.1 1210 = .ok ((.iload 4), 2) := by decide +kernel
theorem dL_law_1203 : Dc mL_law 1203 (.iaload) 1 1204 := ⟨k_dL_law_1203.1, rfl⟩
theorem dL_law_1204 : Dc mL_law 1204 (.invokevirtual 155) 3 1207 := ⟨k_dL_law_1203.2.1, rfl⟩
theorem dL_law_1207 : Dc mL_law 1207 (.pop) 1 1208 := ⟨k_dL_law_1203.2.2.1, rfl⟩
theorem dL_law_1208 : Dc mL_law 1208 (.aload_n 2) 1 1209 := ⟨k_dL_law_1203.2.2.2.1, rfl⟩
theorem dL_law_1209 : Dc mL_law 1209 (.aload_n 0) 1 1210 := ⟨k_dL_law_1203.2.2.2.2.1, rfl⟩
theorem dL_law_1210 : Dc mL_law 1210 (.iload 4) 2 1212 := ⟨k_dL_law_1203.2.2.2.2.2, rfl⟩
theorem k_dL_law_1212 : decode (mL_law).2.1 1212 = .ok ((.iconst 1), 1) ∧ decode (mL_law).2.1 1213 = .ok ((.iadd), 1) ∧ decode (mL_law).2.1 1214 = .ok ((.iaload), 1) ∧ decode (mL_law).2.1 1215 = .ok ((.invokevirtual 158), 3) ∧ decode (mL_law).2.1 1218 = .ok ((.pop), 1) ∧ decode (mL_law).2.1 1219 = .ok ((.goto 190), 3) := by decide +kernel
theorem dL_law_1212 : Dc mL_law 1212 (.iconst 1) 1 1213 := ⟨k_dL_law_1212.1, rfl⟩
theorem dL_law_1213 : Dc mL_law 1213 (.iadd) 1 1214 := ⟨k_dL_law_1212.2.1, rfl⟩
theorem dL_law_1214 : Dc mL_law 1214 (.iaload) 1 1215 := ⟨k_dL_law_1212.2.2.1, rfl⟩
theorem dL_law_1215 : Dc mL_law 1215 (.invokevirtual 158) 3 1218 := ⟨k_dL_law_1212.2.2.2.1, rfl⟩
theorem dL_law_1218 : Dc mL_law 1218 (.pop) 1 1219 := ⟨k_dL_law_1212.2.2.2.2.1, rfl⟩
theorem dL_law_1219 : Dc mL_law 1219 (.goto 190) 3 1222 := ⟨k_dL_law_1212.2.2.2.2.2, rfl⟩
theorem k_dL_law_1222 : decode (mL_law).2.1 1222 = .ok ((.aload_n 1), 1) ∧ decode (mL_law).2.1 1223 = .ok ((.aload_n 0), 1) ∧ decode (mL_law).2.1 1224 = .ok ((.iload 4), 2) ∧ decode (mL_law).2.1 1226 = .ok ((.iconst 1), 1) ∧ decode (mL_law).2.1 1227 = .ok ((.iadd), 1) ∧ decode (mL_law).2.1 1228 = .ok ((.iaload), 1) := by decide +kernel
theorem dL_law_1222 : Dc mL_law 1222 (.aload_n 1) 1 1223 := ⟨k_dL_law_1222.1, rfl⟩
theorem dL_law_1223 : Dc mL_law 1223 (.aload_n 0) 1 1224 := ⟨k_dL_law_1222.2.1, rfl⟩
theorem dL_law_1224 : Dc mL_law 1224 (.iload 4) 2 1226 := ⟨k_dL_law_1222.2.2.1, rfl⟩
theorem dL_law_1226 : Dc mL_law 1226 (.iconst 1) 1 1227 := ⟨k_dL_law_1222.2.2.2.1, rfl⟩
theorem dL_law_1227 : Dc mL_law 1227 (.iadd) 1 1228 := ⟨k_dL_law_1222.2.2.2.2.1, rfl⟩
theorem dL_law_1228 : Dc mL_law 1228 (.iaload) 1 1229 := ⟨k_dL_law_1222.2.2.2.2.2, rfl⟩
theorem k_dL_law_1229 : decode (mL_law).2.1 1229 = .ok ((.invokevirtual 159), 3) ∧ decode (mL_law).2.1 1232 = .ok ((.pop), 1) ∧ decode (mL_law).2.1 1233 = .ok ((.aload_n 2), 1) ∧ decode (mL_law).2.1 1234 = .ok ((.aload_n 0), 1) ∧ decode (mL_law).2.1 1235 = .ok ((.iload 4), 2) ∧ decode (mL_law).2.1 1237 = .ok ((.iconst 1), 1) := by decide +kernel
theorem dL_law_1229 : Dc mL_law 1229 (.invokevirtual 159) 3 1232 := ⟨k_dL_law_1229.1, rfl⟩
theorem dL_law_1232 : Dc mL_law 1232 (.pop) 1 1233 := ⟨k_dL_law_1229.2.1, rfl⟩
theorem dL_law_1233 : Dc mL_law 1233 (.aload_n 2) 1 1234 := ⟨k_dL_law_1229.2.2.1, rfl⟩
theorem dL_law_1234 : Dc mL_law 1234 (.aload_n 0) 1 1235 := ⟨k_dL_law_1229.2.2.2.1, rfl⟩
theorem dL_law_1235 : Dc mL_law 1235 (.iload 4) 2 1237 := ⟨k_dL_law_1229.2.2.2.2.1, rfl⟩
theorem dL_law_1237 : Dc mL_law 1237 (.iconst 1) 1 1238 := ⟨k_dL_law_1229.2.2.2.2.2, rfl⟩
theorem k_dL_law_1238 : decode (mL_law).2.1 1238 = .ok ((.iadd), 1) ∧ decode (mL_law).2.1 1239 = .ok ((.iaload), 1) ∧ decode (mL_law).2.1 1240 = .ok ((.invokevirtual 162), 3) ∧ decode (mL_law).2.1 1243 = .ok ((.pop), 1) ∧ decode (mL_law).2.1 1244 = .ok ((.goto 165), 3) ∧ decode (mL_law).2.1 1247 = .ok ((.aload_n 1), 1) := by decide +kernel
theorem dL_law_1238 : Dc mL_law 1238 (.iadd) 1 1239 := ⟨k_dL_law_1238.1, rfl⟩
theorem dL_law_1239 : Dc mL_law 1239 (.iaload) 1 1240 := ⟨k_dL_law_1238.2.1, rfl⟩
theorem dL_law_1240 : Dc mL_law 1240 (.invokevirtual 162) 3 1243 := ⟨k_dL_law_1238.2.2.1, rfl⟩
theorem dL_law_1243 : Dc mL_law 1243 (.pop) 1 1244 := ⟨k_dL_law_1238.2.2.2.1, rfl⟩
theorem dL_law_1244 : Dc mL_law 1244 (.goto 165) 3 1247 := ⟨k_dL_law_1238.2.2.2.2.1, rfl⟩
theorem dL_law_1247 : Dc mL_law 1247 (.aload_n 1) 1 1248 := ⟨k_dL_law_1238.2.2.2.2.2, rfl⟩
theorem k_dL_law_1248 : decode (mL_law).2.1 1248 = .ok ((.aload_n 0), 1) ∧ decode (mL_law).2.1 1249 = .ok ((.iload 4), 2) ∧ decode (mL_law).2.1 1251 = .ok ((.iconst 1), 1) ∧ decode (mL_law).2.1 1252 = .ok ((.iadd), 1) ∧ decode (mL_law).2.1 1253 = .ok ((.iaload), 1) ∧ decode (mL_law).2.1 1254 = .ok ((.aload_n 0), 1) := by decide +kernel
theorem dL_law_1248 : Dc mL_law 1248 (.aload_n 0) 1 1249 := ⟨k_dL_law_1248.1, rfl⟩
theorem dL_law_1249 : Dc mL_law 1249 (.iload 4) 2 1251 := ⟨k_dL_law_1248.2.1, rfl⟩
theorem dL_law_1251 : Dc mL_law 1251 (.iconst 1) 1 1252 := ⟨k_dL_law_1248.2.2.1, rfl⟩
theorem dL_law_1252 : Dc mL_law 1252 (.iadd) 1 1253 := ⟨k_dL_law_1248.2.2.2.1, rfl⟩
theorem dL_law_1253 : Dc mL_law 1253 (.iaload) 1 1254 := ⟨k_dL_law_1248.2.2.2.2.1, rfl⟩
theorem dL_law_1254 : Dc mL_law 1254 (.aload_n 0) 1 1255 := ⟨k_dL_law_1248.2.2.2.2.2, rfl⟩
theorem k_dL_law_1255 : decode (mL_law).2.1 1255 = .ok ((.iload 4), 2) ∧ decode (mL_law).2.1 1257 = .ok ((.iconst 2), 1) ∧ decode (mL_law).2.1 1258 = .ok ((.iadd), 1) ∧ decode (mL_law).2.1 1259 = .ok ((.iaload), 1) ∧ decode (mL_law).2.1 1260 = .ok ((.aload_n 0), 1) ∧ decode (mL_law).2.1 1261 = .ok ((.iload 4), 2) := by decide +kernel
theorem dL_law_1255 : Dc mL_law 1255 (.iload 4) 2 1257 := ⟨k_dL_law_1255.1, rfl⟩
theorem dL_law_1257 : Dc mL_law 1257 (.iconst 2) 1 1258 := ⟨k_dL_law_1255.2.1, rfl⟩
theorem dL_law_1258 : Dc mL_law 1258 (.iadd) 1 1259 := ⟨k_dL_law_1255.2.2.1, rfl⟩
theorem dL_law_1259 : Dc mL_law 1259 (.iaload) 1 1260 := ⟨k_dL_law_1255.2.2.2.1, rfl⟩
theorem dL_law_1260 : Dc mL_law 1260 (.aload_n 0) 1 1261 := ⟨k_dL_law_1255.2.2.2.2.1, rfl⟩
theorem dL_law_1261 : Dc mL_law 1261 (.iload 4) 2 1263 := ⟨k_dL_law_1255.2.2.2.2.2, rfl⟩
theorem k_dL_law_1263 : decode (mL_law).2.1 1263 = .ok ((.iconst 3), 1) ∧ decode (mL_law).2.1 1264 = .ok ((.iadd), 1) ∧ decode (mL_law).2.1 1265 = .ok ((.iaload), 1) ∧ decode (mL_law).2.1 1266 = .ok ((.invokevirtual 163), 3) ∧ decode (mL_law).2.1 1269 = .ok ((.pop), 1) ∧ decode (mL_law).2.1 1270 = .ok ((.aload_n 2), 1) := by decide +kernel
theorem dL_law_1263 : Dc mL_law 1263 (.iconst 3) 1 1264 := ⟨k_dL_law_1263.1, rfl⟩
theorem dL_law_1264 : Dc mL_law 1264 (.iadd) 1 1265 := ⟨k_dL_law_1263.2.1, rfl⟩
theorem dL_law_1265 : Dc mL_law 1265 (.iaload) 1 1266 := ⟨k_dL_law_1263.2.2.1, rfl⟩
theorem dL_law_1266 : Dc mL_law 1266 (.invokevirtual 163) 3 1269 := ⟨k_dL_law_1263.2.2.2.1, rfl⟩
theorem dL_law_1269 : Dc mL_law 1269 (.pop) 1 1270 := ⟨k_dL_law_1263.2.2.2.2.1, rfl⟩
theorem dL_law_1270 : Dc mL_law 1270 (.aload_n 2) 1 1271 := ⟨k_dL_law_1263.2.2.2.2.2, rfl⟩
theorem k_dL_law_1271 : decode (mL_law).2.1 1271 = .ok ((.aload_n 0), 1) ∧ decode (mL_law).2.1 1272 = .ok ((.iload 4), 2) ∧ decode (mL_law).2.1 1274 = .ok ((.iconst 1), 1) ∧ decode (mL_law).2.1 1275 = .ok ((.iadd), 1) ∧ decode (mL_law).2.1 1276 = .ok ((.iaload), 1) ∧ decode (mL_law).2.1 1277 = .ok ((.aload_n 0), 1) := by decide +kernel
theorem dL_law_1271 : Dc mL_law 1271 (.aload_n 0) 1 1272 := ⟨k_dL_law_1271.1, rfl⟩
theorem dL_law_1272 : Dc mL_law 1272 (.iload 4) 2 1274 := ⟨k_dL_law_1271.2.1, rfl⟩
theorem dL_law_1274 : Dc mL_law 1274 (.iconst 1) 1 1275 := ⟨k_dL_law_1271.2.2.1, rfl⟩
theorem dL_law_1275 : Dc mL_law 1275 (.iadd) 1 1276 := ⟨k_dL_law_1271.2.2.2.1, rfl⟩
theorem dL_law_1276 : Dc mL_law 1276 (.iaload) 1 1277 := ⟨k_dL_law_1271.2.2.2.2.1, rfl⟩
theorem dL_law_1277 : Dc mL_law 1277 (.aload_n 0) 1 1278 := ⟨k_dL_law_1271.2.2.2.2.2, rfl⟩
theorem k_dL_law_1278 : decode (mL_law).2.1 1278 = .ok ((.iload 4), 2) ∧ decode (mL_law).2.1 1280 = .ok ((.iconst 2), 1) ∧ decode (mL_law).2.1 1281 = .ok ((.iadd), 1) ∧ decode (mL_law).2.1 1282 = .ok ((.iaload), 1) ∧ decode (mL_law).2.1 1283 = .ok ((.aload_n 0), 1) ∧ decode (mL_law).2.1 1284 = .ok ((.iload 4), 2) := by decide +kernel
theorem dL_law_1278 : Dc mL_law 1278 (.iload 4) 2 1280 := ⟨k_dL_law_1278.1, rfl⟩
theorem dL_law_1280 : Dc mL_law 1280 (.iconst 2) 1 1281 := ⟨k_dL_law_1278.2.1, rfl⟩
theorem dL_law_1281 : Dc mL_law 1281 (.iadd) 1 1282 := ⟨k_dL_law_1278.2.2.1, rfl⟩
theorem dL_law_1282 : Dc mL_law 1282 (.iaload) 1 1283 := ⟨k_dL_law_1278.2.2.2.1, rfl⟩
theorem dL_law_1283 : Dc mL_law 1283 (.aload_n 0) 1 1284 := ⟨k_dL_law_1278.2.2.2.2.1, rfl⟩
theorem dL_law_1284 : Dc mL_law 1284 (.iload 4) 2 1286 := ⟨k_dL_law_1278.2.2.2.2.2, rfl⟩
theorem k_dL_law_1286 : decode (mL_law).2.1 1286 = .ok ((.iconst 3), 1) ∧ decode (mL_law).2.1 1287 = .ok ((.iadd), 1) ∧ decode (mL_law).2.1 1288 = .ok ((.iaload), 1) ∧ decode (mL_law).2.1 1289 = .ok ((.invokevirtual 166), 3) ∧ decode (mL_law).2.1 1292 = .ok ((.pop), 1) ∧ decode (mL_law).2.1 1293 = .ok ((.goto 116), 3) := by decide +kernel
theorem dL_law_1286 : Dc mL_law 1286 (.iconst 3) 1 1287 := ⟨k_dL_law_1286.1, rfl⟩
theorem dL_law_1287 : Dc mL_law 1287 (.iadd) 1 1288 := ⟨k_dL_law_1286.2.1, rfl⟩
theorem dL_law_1288 : Dc mL_law 1288 (.iaload) 1 1289 := ⟨k_dL_law_1286.2.2.1, rfl⟩
theorem dL_law_1289 : Dc mL_law 1289 (.invokevirtual 166) 3 1292 := ⟨k_dL_law_1286.2.2.2.1, rfl⟩
theorem dL_law_1292 : Dc mL_law 1292 (.pop) 1 1293 := ⟨k_dL_law_1286.2.2.2.2.1, rfl⟩
theorem dL_law_1293 : Dc mL_law 1293 (.goto 116) 3 1296 := ⟨k_dL_law_1286.2.2.2.2.2, rfl⟩
theorem k_dL_law_1296 : decode (mL_law).2.1 1296 = .ok ((.aload_n 1), 1) ∧ decode (mL_law).2.1 1297 = .ok ((.aload_n 0), 1) ∧ decode (mL_law).2.1 1298 = .ok ((.iload 4), 2) ∧ decode (mL_law).2.1 1300 = .ok ((.iconst 1), 1) ∧ decode (mL_law).2.1 1301 = .ok ((.iadd), 1) ∧ decode (mL_law).2.1 1302 = .ok ((.iaload), 1) := by decide +kernel
theorem dL_law_1296 : Dc mL_law 1296 (.aload_n 1) 1 1297 := ⟨k_dL_law_1296.1, rfl⟩
theorem dL_law_1297 : Dc mL_law 1297 (.aload_n 0) 1 1298 := ⟨k_dL_law_1296.2.1, rfl⟩
theorem dL_law_1298 : Dc mL_law 1298 (.iload 4) 2 1300 := ⟨k_dL_law_1296.2.2.1, rfl⟩
theorem dL_law_1300 : Dc mL_law 1300 (.iconst 1) 1 1301 := ⟨k_dL_law_1296.2.2.2.1, rfl⟩
theorem dL_law_1301 : Dc mL_law 1301 (.iadd) 1 1302 := ⟨k_dL_law_1296.2.2.2.2.1, rfl⟩
theorem dL_law_1302 : Dc mL_law 1302 (.iaload) 1 1303 := ⟨k_dL_law_1296.2.2.2.2.2, rfl⟩
theorem k_dL_law_1303 : decode (mL_law).2.1 1303 = .ok ((.aload_n 0), 1) ∧ decode (mL_law).2.1 1304 = .ok ((.iload 4), 2) ∧ decode (mL_law).2.1 1306 = .ok ((.iconst 2), 1) ∧ decode (mL_law).2.1 1307 = .ok ((.iadd), 1) ∧ decode (mL_law).2.1 1308 = .ok ((.iaload), 1) ∧ decode (mL_law).2.1 1309 = .ok ((.aload_n 0), 1) := by decide +kernel
theorem dL_law_1303 : Dc mL_law 1303 (.aload_n 0) 1 1304 := ⟨k_dL_law_1303.1, rfl⟩
theorem dL_law_1304 : Dc mL_law 1304 (.iload 4) 2 1306 := ⟨k_dL_law_1303.2.1, rfl⟩
theorem dL_law_1306 : Dc mL_law 1306 (.iconst 2) 1 1307 := ⟨k_dL_law_1303.2.2.1, rfl⟩
theorem dL_law_1307 : Dc mL_law 1307 (.iadd) 1 1308 := ⟨k_dL_law_1303.2.2.2.1, rfl⟩
theorem dL_law_1308 : Dc mL_law 1308 (.iaload) 1 1309 := ⟨k_dL_law_1303.2.2.2.2.1, rfl⟩
theorem dL_law_1309 : Dc mL_law 1309 (.aload_n 0) 1 1310 := ⟨k_dL_law_1303.2.2.2.2.2, rfl⟩
theorem k_dL_law_1310 : decode (mL_law).2.1 1310 = .ok ((.iload 4), 2) ∧ decode (mL_law).2.1 1312 = .ok ((.iconst 3), 1) ∧ decode (mL_law).2.1 1313 = .ok ((.iadd), 1) ∧ decode (mL_law).2.1 1314 = .ok ((.iaload), 1) ∧ decode (mL_law).2.1 1315 = .ok ((.invokevirtual 167), 3) ∧ decode (mL_law).2.1 1318 = .ok ((.pop), 1) := by decide +kernel
theorem dL_law_1310 : Dc mL_law 1310 (.iload 4) 2 1312 := ⟨k_dL_law_1310.1, rfl⟩
theorem dL_law_1312 : Dc mL_law 1312 (.iconst 3) 1 1313 := ⟨k_dL_law_1310.2.1, rfl⟩
theorem dL_law_1313 : Dc mL_law 1313 (.iadd) 1 1314 := ⟨k_dL_law_1310.2.2.1, rfl⟩
theorem dL_law_1314 : Dc mL_law 1314 (.iaload) 1 1315 := ⟨k_dL_law_1310.2.2.2.1, rfl⟩
theorem dL_law_1315 : Dc mL_law 1315 (.invokevirtual 167) 3 1318 := ⟨k_dL_law_1310.2.2.2.2.1, rfl⟩
theorem dL_law_1318 : Dc mL_law 1318 (.pop) 1 1319 := ⟨k_dL_law_1310.2.2.2.2.2, rfl⟩
theorem k_dL_law_1319 : decode (mL_law).2.1 1319 = .ok ((.aload_n 2), 1) ∧ decode (mL_law).2.1 1320 = .ok ((.aload_n 0), 1) ∧ decode (mL_law).2.1 1321 = .ok ((.iload 4), 2) ∧ decode (mL_law).2.1 1323 = .ok ((.iconst 1), 1) ∧ decode (mL_law).2.1 1324 = .ok ((.iadd), 1) ∧ decode (mL_law).2.1 1325 = .ok ((.iaload), 1) := by decide +kernel
theorem dL_law_1319 : Dc mL_law 1319 (.aload_n 2) 1 1320 := ⟨k_dL_law_1319.1, rfl⟩
theorem dL_law_1320 : Dc mL_law 1320 (.aload_n 0) 1 1321 := ⟨k_dL_law_1319.2.1, rfl⟩
theorem dL_law_1321 : Dc mL_law 1321 (.iload 4) 2 1323 := ⟨k_dL_law_1319.2.2.1, rfl⟩
theorem dL_law_1323 : Dc mL_law 1323 (.iconst 1) 1 1324 := ⟨k_dL_law_1319.2.2.2.1, rfl⟩
theorem dL_law_1324 : Dc mL_law 1324 (.iadd) 1 1325 := ⟨k_dL_law_1319.2.2.2.2.1, rfl⟩
theorem dL_law_1325 : Dc mL_law 1325 (.iaload) 1 1326 := ⟨k_dL_law_1319.2.2.2.2.2, rfl⟩
theorem k_dL_law_1326 : decode (mL_law).2.1 1326 = .ok ((.aload_n 0), 1) ∧ decode (mL_law).2.1 1327 = .ok ((.iload 4), 2) ∧ decode (mL_law).2.1 1329 = .ok ((.iconst 2), 1) ∧ decode (mL_law).2.1 1330 = .ok ((.iadd), 1) ∧ decode (mL_law).2.1 1331 = .ok ((.iaload), 1) ∧ decode (mL_law).2.1 1332 = .ok ((.aload_n 0), 1) := by decide +kernel
theorem dL_law_1326 : Dc mL_law 1326 (.aload_n 0) 1 1327 := ⟨k_dL_law_1326.1, rfl⟩
theorem dL_law_1327 : Dc mL_law 1327 (.iload 4) 2 1329 := ⟨k_dL_law_1326.2.1, rfl⟩
theorem dL_law_1329 : Dc mL_law 1329 (.iconst 2) 1 1330 := ⟨k_dL_law_1326.2.2.1, rfl⟩
theorem dL_law_1330 : Dc mL_law 1330 (.iadd) 1 1331 := ⟨k_dL_law_1326.2.2.2.1, rfl⟩
theorem dL_law_1331 : Dc mL_law 1331 (.iaload) 1 1332 := ⟨k_dL_law_1326.2.2.2.2.1, rfl⟩
theorem dL_law_1332 : Dc mL_law 1332 (.aload_n 0) 1 1333 := ⟨k_dL_law_1326.2.2.2.2.2, rfl⟩
theorem k_dL_law_1333 : decode (mL_law).2.1 1333 = .ok ((.iload 4), 2) ∧ decode (mL_law).2.1 1335 = .ok ((.iconst 3), 1) ∧ decode (mL_law).2.1 1336 = .ok ((.iadd), 1) ∧ decode (mL_law).2.1 1337 = .ok ((.iaload), 1) ∧ decode (mL_law).2.1 1338 = .ok ((.invokevirtual 170), 3) ∧ decode (mL_law).2.1 1341 = .ok ((.pop), 1) := by decide +kernel
theorem dL_law_1333 : Dc mL_law 1333 (.iload 4) 2 1335 := ⟨k_dL_law_1333.1, rfl⟩
theorem dL_law_1335 : Dc mL_law 1335 (.iconst 3) 1 1336 := ⟨k_dL_law_1333.2.1, rfl⟩
theorem dL_law_1336 : Dc mL_law 1336 (.iadd) 1 1337 := ⟨k_dL_law_1333.2.2.1, rfl⟩
theorem dL_law_1337 : Dc mL_law 1337 (.iaload) 1 1338 := ⟨k_dL_law_1333.2.2.2.1, rfl⟩
theorem dL_law_1338 : Dc mL_law 1338 (.invokevirtual 170) 3 1341 := ⟨k_dL_law_1333.2.2.2.2.1, rfl⟩
theorem dL_law_1341 : Dc mL_law 1341 (.pop) 1 1342 := ⟨k_dL_law_1333.2.2.2.2.2, rfl⟩
theorem k_dL_law_1342 : decode (mL_law).2.1 1342 = .ok ((.goto 67), 3) ∧ decode (mL_law).2.1 1345 = .ok ((.aload_n 1), 1) ∧ decode (mL_law).2.1 1346 = .ok ((.invokevirtual 171), 3) ∧ decode (mL_law).2.1 1349 = .ok ((.pop), 1) ∧ decode (mL_law).2.1 1350 = .ok ((.aload_n 2), 1) ∧ decode (mL_law).2.1 1351 = .ok ((.invokevirtual 174), 3) := by decide +kernel
theorem dL_law_1342 : Dc mL_law 1342 (.goto 67) 3 1345 := ⟨k_dL_law_1342.1, rfl⟩
theorem dL_law_1345 : Dc mL_law 1345 (.aload_n 1) 1 1346 := ⟨k_dL_law_1342.2.1, rfl⟩
theorem dL_law_1346 : Dc mL_law 1346 (.invokevirtual 171) 3 1349 := ⟨k_dL_law_1342.2.2.1, rfl⟩
theorem dL_law_1349 : Dc mL_law 1349 (.pop) 1 1350 := ⟨k_dL_law_1342.2.2.2.1, rfl⟩
theorem dL_law_1350 : Dc mL_law 1350 (.aload_n 2) 1 1351 := ⟨k_dL_law_1342.2.2.2.2.1, rfl⟩
theorem dL_law_1351 : Dc mL_law 1351 (.invokevirtual 174) 3 1354 := ⟨k_dL_law_1342.2.2.2.2.2, rfl⟩
theorem k_dL_law_1354 : decode (mL_law).2.1 1354 = .ok ((.pop), 1) ∧ decode (mL_law).2.1 1355 = .ok ((.goto 54), 3) ∧ decode (mL_law).2.1 1358 = .ok ((.aload_n 1), 1) ∧ decode (mL_law).2.1 1359 = .ok ((.invokevirtual 175), 3) ∧ decode (mL_law).2.1 1362 = .ok ((.pop), 1) ∧ decode (mL_law).2.1 1363 = .ok ((.aload_n 2), 1) := by decide +kernel
theorem dL_law_1354 : Dc mL_law 1354 (.pop) 1 1355 := ⟨k_dL_law_1354.1, rfl⟩
theorem dL_law_1355 : Dc mL_law 1355 (.goto 54) 3 1358 := ⟨k_dL_law_1354.2.1, rfl⟩
theorem dL_law_1358 : Dc mL_law 1358 (.aload_n 1) 1 1359 := ⟨k_dL_law_1354.2.2.1, rfl⟩
theorem dL_law_1359 : Dc mL_law 1359 (.invokevirtual 175) 3 1362 := ⟨k_dL_law_1354.2.2.2.1, rfl⟩
theorem dL_law_1362 : Dc mL_law 1362 (.pop) 1 1363 := ⟨k_dL_law_1354.2.2.2.2.1, rfl⟩
theorem dL_law_1363 : Dc mL_law 1363 (.aload_n 2) 1 1364 := ⟨k_dL_law_1354.2.2.2.2.2, rfl⟩
theorem k_dL_law_1364 : decode (mL_law).2.1 1364 = .ok ((.invokevirtual 178), 3) ∧ decode (mL_law).2.1 1367 = .ok ((.pop), 1) ∧ decode (mL_law).2.1 1368 = .ok ((.goto 41), 3) ∧ decode (mL_law).2.1 1371 = .ok ((.aload_n 1), 1) ∧ decode (mL_law).2.1 1372 = .ok ((.invokevirtual 179), 3) ∧ decode (mL_law).2.1 1375 = .ok ((.pop), 1) := by decide +kernel
theorem dL_law_1364 : Dc mL_law 1364 (.invokevirtual 178) 3 1367 := ⟨k_dL_law_1364.1, rfl⟩
theorem dL_law_1367 : Dc mL_law 1367 (.pop) 1 1368 := ⟨k_dL_law_1364.2.1, rfl⟩
theorem dL_law_1368 : Dc mL_law 1368 (.goto 41) 3 1371 := ⟨k_dL_law_1364.2.2.1, rfl⟩
theorem dL_law_1371 : Dc mL_law 1371 (.aload_n 1) 1 1372 := ⟨k_dL_law_1364.2.2.2.1, rfl⟩
theorem dL_law_1372 : Dc mL_law 1372 (.invokevirtual 179) 3 1375 := ⟨k_dL_law_1364.2.2.2.2.1, rfl⟩
theorem dL_law_1375 : Dc mL_law 1375 (.pop) 1 1376 := ⟨k_dL_law_1364.2.2.2.2.2, rfl⟩
theorem k_dL_law_1376 : decode (mL_law).2.1 1376 = .ok ((.aload_n 2), 1) ∧ decode (mL_law).2.1 1377 = .ok ((.invokevirtual 182), 3) ∧ decode (mL_law).2.1 1380 = .ok ((.pop), 1) ∧ decode (mL_law).2.1 1381 = .ok ((.goto 28), 3) ∧ decode (mL_law).2.1 1384 = .ok ((.aload_n 1), 1) ∧ decode (mL_law).2.1 1385 = .ok ((.aload_n 0), 1) := by decide +kernel
theorem dL_law_1376 : Dc mL_law 1376 (.aload_n 2) 1 1377 := ⟨k_dL_law_1376.1, rfl⟩
theorem dL_law_1377 : Dc mL_law 1377 (.invokevirtual 182) 3 1380 := ⟨k_dL_law_1376.2.1, rfl⟩
theorem dL_law_1380 : Dc mL_law 1380 (.pop) 1 1381 := ⟨k_dL_law_1376.2.2.1, rfl⟩
theorem dL_law_1381 : Dc mL_law 1381 (.goto 28) 3 1384 := ⟨k_dL_law_1376.2.2.2.1, rfl⟩
theorem dL_law_1384 : Dc mL_law 1384 (.aload_n 1) 1 1385 := ⟨k_dL_law_1376.2.2.2.2.1, rfl⟩
theorem dL_law_1385 : Dc mL_law 1385 (.aload_n 0) 1 1386 := ⟨k_dL_law_1376.2.2.2.2.2, rfl⟩
theorem k_dL_law_1386 : decode (mL_law).2.1 1386 = .ok ((.iload 4), 2) ∧ decode (mL_law).2.1 1388 = .ok ((.iconst 1), 1) ∧ decode (mL_law).2.1 1389 = .ok ((.iadd), 1) ∧ decode (mL_law).2.1 1390 = .ok ((.iaload), 1) ∧ decode (mL_law).2.1 1391 = .ok ((.invokevirtual 183), 3) ∧ decode (mL_law).2.1 1394 = .ok ((.pop), 1) := by decide +kernel
theorem dL_law_1386 : Dc mL_law 1386 (.iload 4) 2 1388 := ⟨k_dL_law_1386.1, rfl⟩
theorem dL_law_1388 : Dc mL_law 1388 (.iconst 1) 1 1389 := ⟨k_dL_law_1386.2.1, rfl⟩
theorem dL_law_1389 : Dc mL_law 1389 (.iadd) 1 1390 := ⟨k_dL_law_1386.2.2.1, rfl⟩
theorem dL_law_1390 : Dc mL_law 1390 (.iaload) 1 1391 := ⟨k_dL_law_1386.2.2.2.1, rfl⟩
theorem dL_law_1391 : Dc mL_law 1391 (.invokevirtual 183) 3 1394 := ⟨k_dL_law_1386.2.2.2.2.1, rfl⟩
theorem dL_law_1394 : Dc mL_law 1394 (.pop) 1 1395 := ⟨k_dL_law_1386.2.2.2.2.2, rfl⟩
theorem k_dL_law_1395 : decode (mL_law).2.1 1395 = .ok ((.aload_n 2), 1) ∧ decode (mL_law).2.1 1396 = .ok ((.aload_n 0), 1) ∧ decode (mL_law).2.1 1397 = .ok ((.iload 4), 2) ∧ decode (mL_law).2.1 1399 = .ok ((.iconst 1), 1) ∧ decode (mL_law).2.1 1400 = .ok ((.iadd), 1) ∧ decode (mL_law).2.1 1401 = .ok ((.iaload), 1) := by decide +kernel
theorem dL_law_1395 : Dc mL_law 1395 (.aload_n 2) 1 1396 := ⟨k_dL_law_1395.1, rfl⟩
theorem dL_law_1396 : Dc mL_law 1396 (.aload_n 0) 1 1397 := ⟨k_dL_law_1395.2.1, rfl⟩
theorem dL_law_1397 : Dc mL_law 1397 (.iload 4) 2 1399 := ⟨k_dL_law_1395.2.2.1, rfl⟩
theorem dL_law_1399 : Dc mL_law 1399 (.iconst 1) 1 1400 := ⟨k_dL_law_1395.2.2.2.1, rfl⟩
theorem dL_law_1400 : Dc mL_law 1400 (.iadd) 1 1401 := ⟨k_dL_law_1395.2.2.2.2.1, rfl⟩
theorem dL_law_1401 : Dc mL_law 1401 (.iaload) 1 1402 := ⟨k_dL_law_1395.2.2.2.2.2, rfl⟩
theorem k_dL_law_1402 : decode (mL_law).2.1 1402 = .ok ((.invokevirtual 186), 3) ∧ decode (mL_law).2.1 1405 = .ok ((.pop), 1) ∧ decode (mL_law).2.1 1406 = .ok ((.goto 3), 3) ∧ decode (mL_law).2.1 1409 = .ok ((.iinc 4 6), 3) ∧ decode (mL_law).2.1 1412 = .ok ((.goto (-1389)), 3) ∧ decode (mL_law).2.1 1415 = .ok ((.iconst 1), 1) := by decide +kernel
theorem dL_law_1402 : Dc mL_law 1402 (.invokevirtual 186) 3 1405 := ⟨k_dL_law_1402.1, rfl⟩
theorem dL_law_1405 : Dc mL_law 1405 (.pop) 1 1406 := ⟨k_dL_law_1402.2.1, rfl⟩
theorem dL_law_1406 : Dc mL_law 1406 (.goto 3) 3 1409 := ⟨k_dL_law_1402.2.2.1, rfl⟩
theorem dL_law_1409 : Dc mL_law 1409 (.iinc 4 6) 3 1412 := ⟨k_dL_law_1402.2.2.2.1, rfl⟩
theorem dL_law_1412 : Dc mL_law 1412 (.goto (-1389)) 3 1415 := ⟨k_dL_law_1402.2.2.2.2.1, rfl⟩
theorem dL_law_1415 : Dc mL_law 1415 (.iconst 1) 1 1416 := ⟨k_dL_law_1402.2.2.2.2.2, rfl⟩
theorem dL_law_1416 : Dc mL_law 1416 (.ireturn) 1 1417 := ⟨by decide +kernel, rfl⟩
