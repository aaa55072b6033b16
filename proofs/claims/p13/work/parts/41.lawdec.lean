/-! printed by wip/gen/gen_law.py: decode rows of the law -/
abbrev mL_law : Mt := (yL_law, cL_law, 7, some .boolean)
theorem k_dL_law_0 : decode (mL_law).2.1 0 = .ok ((.new 8), 3) ∧ decode (mL_law).2.1 3 = .ok ((.dup), 1) ∧ decode (mL_law).2.1 4 = .ok ((.invokespecial 17), 3) ∧ decode (mL_law).2.1 7 = .ok ((.astore_n 1), 1) ∧ decode (mL_law).2.1 8 = .ok ((.new 18), 3) ∧ decode (mL_law).2.1 11 = .ok ((.dup), 1) := by decide +kernel
theorem dL_law_0 : Dc mL_law 0 (.new 8) 3 3 := ⟨k_dL_law_0.1, rfl⟩
theorem dL_law_3 : Dc mL_law 3 (.dup) 1 4 := ⟨k_dL_law_0.2.1, rfl⟩
theorem dL_law_4 : Dc mL_law 4 (.invokespecial 17) 3 7 := ⟨k_dL_law_0.2.2.1, rfl⟩
theorem dL_law_7 : Dc mL_law 7 (.astore_n 1) 1 8 := ⟨k_dL_law_0.2.2.2.1, rfl⟩
theorem dL_law_8 : Dc mL_law 8 (.new 18) 3 11 := ⟨k_dL_law_0.2.2.2.2.1, rfl⟩
theorem dL_law_11 : Dc mL_law 11 (.dup) 1 12 := ⟨k_dL_law_0.2.2.2.2.2, rfl⟩
theorem k_dL_law_12 : decode (mL_law).2.1 12 = .ok ((.invokespecial 20), 3) ∧ decode (mL_law).2.1 15 = .ok ((.astore_n 2), 1) ∧ decode (mL_law).2.1 16 = .ok ((.iconst 1), 1) ∧ decode (mL_law).2.1 17 = .ok ((.newarray .long), 2) ∧ decode (mL_law).2.1 19 = .ok ((.astore_n 3), 1) ∧ decode (mL_law).2.1 20 = .ok ((.iconst 0), 1) := by decide +kernel
theorem dL_law_12 : Dc mL_law 12 (.invokespecial 20) 3 15 := ⟨k_dL_law_12.1, rfl⟩
theorem dL_law_15 : Dc mL_law 15 (.astore_n 2) 1 16 := ⟨k_dL_law_12.2.1, rfl⟩
theorem dL_law_16 : Dc mL_law 16 (.iconst 1) 1 17 := ⟨k_dL_law_12.2.2.1, rfl⟩
theorem dL_law_17 : Dc mL_law 17 (.newarray .long) 2 19 := ⟨k_dL_law_12.2.2.2.1, rfl⟩
theorem dL_law_19 : Dc mL_law 19 (.astore_n 3) 1 20 := ⟨k_dL_law_12.2.2.2.2.1, rfl⟩
theorem dL_law_20 : Dc mL_law 20 (.iconst 0) 1 21 := ⟨k_dL_law_12.2.2.2.2.2, rfl⟩
theorem k_dL_law_21 : decode (mL_law).2.1 21 = .ok ((.istore 4), 2) ∧ decode (mL_law).2.1 23 = .ok ((.iload 4), 2) ∧ decode (mL_law).2.1 25 = .ok ((.aload_n 0), 1) ∧ decode (mL_law).2.1 26 = .ok ((.arraylength), 1) ∧ decode (mL_law).2.1 27 = .ok ((.bipush 6), 2) ∧ decode (mL_law).2.1 29 = .ok ((.isub), 1) := by decide +kernel
theorem dL_law_21 : Dc mL_law 21 (.istore 4) 2 23 := ⟨k_dL_law_21.1, rfl⟩
theorem dL_law_23 : Dc mL_law 23 (.iload 4) 2 25 := ⟨k_dL_law_21.2.1, rfl⟩
theorem dL_law_25 : Dc mL_law 25 (.aload_n 0) 1 26 := ⟨k_dL_law_21.2.2.1, rfl⟩
theorem dL_law_26 : Dc mL_law 26 (.arraylength) 1 27 := ⟨k_dL_law_21.2.2.2.1, rfl⟩
theorem dL_law_27 : Dc mL_law 27 (.bipush 6) 2 29 := ⟨k_dL_law_21.2.2.2.2.1, rfl⟩
theorem dL_law_29 : Dc mL_law 29 (.isub) 1 30 := ⟨k_dL_law_21.2.2.2.2.2, rfl⟩
theorem k_dL_law_30 : decode (mL_law).2.1 30 = .ok ((.if_icmp .gt 1357), 3) ∧ decode (mL_law).2.1 33 = .ok ((.aload_n 0), 1) ∧ decode (mL_law).2.1 34 = .ok ((.iload 4), 2) ∧ decode (mL_law).2.1 36 = .ok ((.iaload), 1) ∧ decode (mL_law).2.1 37 = .ok ((.bipush 63), 2) ∧ decode (mL_law).2.1 39 = .ok ((.iand), 1) := by decide +kernel
theorem dL_law_30 : Dc mL_law 30 (.if_icmp .gt 1357) 3 33 := ⟨k_dL_law_30.1, rfl⟩
theorem dL_law_33 : Dc mL_law 33 (.aload_n 0) 1 34 := ⟨k_dL_law_30.2.1, rfl⟩
theorem dL_law_34 : Dc mL_law 34 (.iload 4) 2 36 := ⟨k_dL_law_30.2.2.1, rfl⟩
theorem dL_law_36 : Dc mL_law 36 (.iaload) 1 37 := ⟨k_dL_law_30.2.2.2.1, rfl⟩
theorem dL_law_37 : Dc mL_law 37 (.bipush 63) 2 39 := ⟨k_dL_law_30.2.2.2.2.1, rfl⟩
theorem dL_law_39 : Dc mL_law 39 (.iand) 1 40 := ⟨k_dL_law_30.2.2.2.2.2, rfl⟩
theorem k_dL_law_40 : decode (mL_law).2.1 40 = .ok ((.tableswitch 1341 0 37 #[168, 241, 266, 291, 328, 368, 405, 442, 479, 504, 553, 590, 627, 664, 689, 714, 751, 764, 777, 802, 827, 840, 865, 902, 951, 988, 1013, 1026, 1039, 1104, 1129, 1154, 1179, 1228, 1277, 1290, 1303, 1316]), 168) ∧ decode (mL_law).2.1 208 = .ok ((.aload_n 1), 1) ∧ decode (mL_law).2.1 209 = .ok ((.aload_n 0), 1) ∧ decode (mL_law).2.1 210 = .ok ((.iload 4), 2) ∧ decode (mL_law).2.1 212 = .ok ((.iconst 1), 1) ∧ decode (mL_law).2.1 213 = .ok ((.iadd), 1) := by decide +kernel
theorem dL_law_40 : Dc mL_law 40 (.tableswitch 1341 0 37 #[168, 241, 266, 291, 328, 368, 405, 442, 479, 504, 553, 590, 627, 664, 689, 714, 751, 764, 777, 802, 827, 840, 865, 902, 951, 988, 1013, 1026, 1039, 1104, 1129, 1154, 1179, 1228, 1277, 1290, 1303, 1316]) 168 208 := ⟨k_dL_law_40.1, rfl⟩
theorem dL_law_208 : Dc mL_law 208 (.aload_n 1) 1 209 := ⟨k_dL_law_40.2.1, rfl⟩
theorem dL_law_209 : Dc mL_law 209 (.aload_n 0) 1 210 := ⟨k_dL_law_40.2.2.1, rfl⟩
theorem dL_law_210 : Dc mL_law 210 (.iload 4) 2 212 := ⟨k_dL_law_40.2.2.2.1, rfl⟩
theorem dL_law_212 : Dc mL_law 212 (.iconst 1) 1 213 := ⟨k_dL_law_40.2.2.2.2.1, rfl⟩
theorem dL_law_213 : Dc mL_law 213 (.iadd) 1 214 := ⟨k_dL_law_40.2.2.2.2.2, rfl⟩
theorem k_dL_law_214 : decode (mL_law).2.1 214 = .ok ((.iaload), 1) ∧ decode (mL_law).2.1 215 = .ok ((.aload_n 0), 1) ∧ decode (mL_law).2.1 216 = .ok ((.iload 4), 2) ∧ decode (mL_law).2.1 218 = .ok ((.iconst 2), 1) ∧ decode (mL_law).2.1 219 = .ok ((.iadd), 1) ∧ decode (mL_law).2.1 220 = .ok ((.iaload), 1) := by decide +kernel
theorem dL_law_214 : Dc mL_law 214 (.iaload) 1 215 := ⟨k_dL_law_214.1, rfl⟩
theorem dL_law_215 : Dc mL_law 215 (.aload_n 0) 1 216 := ⟨k_dL_law_214.2.1, rfl⟩
theorem dL_law_216 : Dc mL_law 216 (.iload 4) 2 218 := ⟨k_dL_law_214.2.2.1, rfl⟩
theorem dL_law_218 : Dc mL_law 218 (.iconst 2) 1 219 := ⟨k_dL_law_214.2.2.2.1, rfl⟩
theorem dL_law_219 : Dc mL_law 219 (.iadd) 1 220 := ⟨k_dL_law_214.2.2.2.2.1, rfl⟩
theorem dL_law_220 : Dc mL_law 220 (.iaload) 1 221 := ⟨k_dL_law_214.2.2.2.2.2, rfl⟩
theorem k_dL_law_221 : decode (mL_law).2.1 221 = .ok ((.aload_n 0), 1) ∧ decode (mL_law).2.1 222 = .ok ((.iload 4), 2) ∧ decode (mL_law).2.1 224 = .ok ((.iconst 3), 1) ∧ decode (mL_law).2.1 225 = .ok ((.iadd), 1) ∧ decode (mL_law).2.1 226 = .ok ((.iaload), 1) ∧ decode (mL_law).2.1 227 = .ok ((.aload_n 0), 1) := by decide +kernel
theorem dL_law_221 : Dc mL_law 221 (.aload_n 0) 1 222 := ⟨k_dL_law_221.1, rfl⟩
theorem dL_law_222 : Dc mL_law 222 (.iload 4) 2 224 := ⟨k_dL_law_221.2.1, rfl⟩
theorem dL_law_224 : Dc mL_law 224 (.iconst 3) 1 225 := ⟨k_dL_law_221.2.2.1, rfl⟩
theorem dL_law_225 : Dc mL_law 225 (.iadd) 1 226 := ⟨k_dL_law_221.2.2.2.1, rfl⟩
theorem dL_law_226 : Dc mL_law 226 (.iaload) 1 227 := ⟨k_dL_law_221.2.2.2.2.1, rfl⟩
theorem dL_law_227 : Dc mL_law 227 (.aload_n 0) 1 228 := ⟨k_dL_law_221.2.2.2.2.2, rfl⟩
theorem k_dL_law_228 : decode (mL_law).2.1 228 = .ok ((.iload 4), 2) ∧ decode (mL_law).2.1 230 = .ok ((.iconst 4), 1) ∧ decode (mL_law).2.1 231 = .ok ((.iadd), 1) ∧ decode (mL_law).2.1 232 = .ok ((.iaload), 1) ∧ decode (mL_law).2.1 233 = .ok ((.aload_n 0), 1) ∧ decode (mL_law).2.1 234 = .ok ((.iload 4), 2) := by decide +kernel
theorem dL_law_228 : Dc mL_law 228 (.iload 4) 2 230 := ⟨k_dL_law_228.1, rfl⟩
theorem dL_law_230 : Dc mL_law 230 (.iconst 4) 1 231 := ⟨k_dL_law_228.2.1, rfl⟩
theorem dL_law_231 : Dc mL_law 231 (.iadd) 1 232 := ⟨k_dL_law_228.2.2.1, rfl⟩
theorem dL_law_232 : Dc mL_law 232 (.iaload) 1 233 := ⟨k_dL_law_228.2.2.2.1, rfl⟩
theorem dL_law_233 : Dc mL_law 233 (.aload_n 0) 1 234 := ⟨k_dL_law_228.2.2.2.2.1, rfl⟩
theorem dL_law_234 : Dc mL_law 234 (.iload 4) 2 236 := ⟨k_dL_law_228.2.2.2.2.2, rfl⟩
theorem k_dL_law_236 : decode (mL_law).2.1 236 = .ok ((.iconst 5), 1) ∧ decode (mL_law).2.1 237 = .ok ((.iadd), 1) ∧ decode (mL_law).2.1 238 = .ok ((.iaload), 1) ∧ decode (mL_law).2.1 239 = .ok ((.invokevirtual 21), 3) ∧ decode (mL_law).2.1 242 = .ok ((.pop), 1) ∧ decode (mL_law).2.1 243 = .ok ((.aload_n 2), 1) := by decide +kernel
theorem dL_law_236 : Dc mL_law 236 (.iconst 5) 1 237 := ⟨k_dL_law_236.1, rfl⟩
theorem dL_law_237 : Dc mL_law 237 (.iadd) 1 238 := ⟨k_dL_law_236.2.1, rfl⟩
theorem dL_law_238 : Dc mL_law 238 (.iaload) 1 239 := ⟨k_dL_law_236.2.2.1, rfl⟩
theorem dL_law_239 : Dc mL_law 239 (.invokevirtual 21) 3 242 := ⟨k_dL_law_236.2.2.2.1, rfl⟩
theorem dL_law_242 : Dc mL_law 242 (.pop) 1 243 := ⟨k_dL_law_236.2.2.2.2.1, rfl⟩
theorem dL_law_243 : Dc mL_law 243 (.aload_n 2) 1 244 := ⟨k_dL_law_236.2.2.2.2.2, rfl⟩
theorem k_dL_law_244 : decode (mL_law).2.1 244 = .ok ((.aload_n 0), 1) ∧ decode (mL_law).2.1 245 = .ok ((.iload 4), 2) ∧ decode (mL_law).2.1 247 = .ok ((.iconst 1), 1) ∧ decode (mL_law).2.1 248 = .ok ((.iadd), 1) ∧ decode (mL_law).2.1 249 = .ok ((.iaload), 1) ∧ decode (mL_law).2.1 250 = .ok ((.aload_n 0), 1) := by decide +kernel
theorem dL_law_244 : Dc mL_law 244 (.aload_n 0) 1 245 := ⟨k_dL_law_244.1, rfl⟩
theorem dL_law_245 : Dc mL_law 245 (.iload 4) 2 247 := ⟨k_dL_law_244.2.1, rfl⟩
theorem dL_law_247 : Dc mL_law 247 (.iconst 1) 1 248 := ⟨k_dL_law_244.2.2.1, rfl⟩
theorem dL_law_248 : Dc mL_law 248 (.iadd) 1 249 := ⟨k_dL_law_244.2.2.2.1, rfl⟩
theorem dL_law_249 : Dc mL_law 249 (.iaload) 1 250 := ⟨k_dL_law_244.2.2.2.2.1, rfl⟩
theorem dL_law_250 : Dc mL_law 250 (.aload_n 0) 1 251 := ⟨k_dL_law_244.2.2.2.2.2, rfl⟩
theorem k_dL_law_251 : decode (mL_law).2.1 251 = .ok ((.iload 4), 2) ∧ decode (mL_law).2.1 253 = .ok ((.iconst 2), 1) ∧ decode (mL_law).2.1 254 = .ok ((.iadd), 1) ∧ decode (mL_law).2.1 255 = .ok ((.iaload), 1) ∧ decode (mL_law).2.1 256 = .ok ((.aload_n 0), 1) ∧ decode (mL_law).2.1 257 = .ok ((.iload 4), 2) := by decide +kernel
theorem dL_law_251 : Dc mL_law 251 (.iload 4) 2 253 := ⟨k_dL_law_251.1, rfl⟩
theorem dL_law_253 : Dc mL_law 253 (.iconst 2) 1 254 := ⟨k_dL_law_251.2.1, rfl⟩
theorem dL_law_254 : Dc mL_law 254 (.iadd) 1 255 := ⟨k_dL_law_251.2.2.1, rfl⟩
theorem dL_law_255 : Dc mL_law 255 (.iaload) 1 256 := ⟨k_dL_law_251.2.2.2.1, rfl⟩
theorem dL_law_256 : Dc mL_law 256 (.aload_n 0) 1 257 := ⟨k_dL_law_251.2.2.2.2.1, rfl⟩
theorem dL_law_257 : Dc mL_law 257 (.iload 4) 2 259 := ⟨k_dL_law_251.2.2.2.2.2, rfl⟩
theorem k_dL_law_259 : decode (mL_law).2.1 259 = .ok ((.iconst 3), 1) ∧ decode (mL_law).2.1 260 = .ok ((.iadd), 1) ∧ decode (mL_law).2.1 261 = .ok ((.iaload), 1) ∧ decode (mL_law).2.1 262 = .ok ((.aload_n 0), 1) ∧ decode (mL_law).2.1 263 = .ok ((.iload 4), 2) ∧ decode (mL_law).2.1 265 = .ok ((.iconst 4), 1) := by decide +kernel
theorem dL_law_259 : Dc mL_law 259 (.iconst 3) 1 260 := ⟨k_dL_law_259.1, rfl⟩
theorem dL_law_260 : Dc mL_law 260 (.iadd) 1 261 := ⟨k_dL_law_259.2.1, rfl⟩
theorem dL_law_261 : Dc mL_law 261 (.iaload) 1 262 := ⟨k_dL_law_259.2.2.1, rfl⟩
theorem dL_law_262 : Dc mL_law 262 (.aload_n 0) 1 263 := ⟨k_dL_law_259.2.2.2.1, rfl⟩
theorem dL_law_263 : Dc mL_law 263 (.iload 4) 2 265 := ⟨k_dL_law_259.2.2.2.2.1, rfl⟩
theorem dL_law_265 : Dc mL_law 265 (.iconst 4) 1 266 := ⟨k_dL_law_259.2.2.2.2.2, rfl⟩
theorem k_dL_law_266 : decode (mL_law).2.1 266 = .ok ((.iadd), 1) ∧ decode (mL_law).2.1 267 = .ok ((.iaload), 1) ∧ decode (mL_law).2.1 268 = .ok ((.aload_n 0), 1) ∧ decode (mL_law).2.1 269 = .ok ((.iload 4), 2) ∧ decode (mL_law).2.1 271 = .ok ((.iconst 5), 1) ∧ decode (mL_law).2.1 272 = .ok ((.iadd), 1) := by decide +kernel
theorem dL_law_266 : Dc mL_law 266 (.iadd) 1 267 := ⟨k_dL_law_266.1, rfl⟩
theorem dL_law_267 : Dc mL_law 267 (.iaload) 1 268 := ⟨k_dL_law_266.2.1, rfl⟩
theorem dL_law_268 : Dc mL_law 268 (.aload_n 0) 1 269 := ⟨k_dL_law_266.2.2.1, rfl⟩
theorem dL_law_269 : Dc mL_law 269 (.iload 4) 2 271 := ⟨k_dL_law_266.2.2.2.1, rfl⟩
theorem dL_law_271 : Dc mL_law 271 (.iconst 5) 1 272 := ⟨k_dL_law_266.2.2.2.2.1, rfl⟩
theorem dL_law_272 : Dc mL_law 272 (.iadd) 1 273 := ⟨k_dL_law_266.2.2.2.2.2, rfl⟩
theorem k_dL_law_273 : decode (mL_law).2.1 273 = .ok ((.iaload), 1) ∧ decode (mL_law).2.1 274 = .ok ((.invokevirtual 25), 3) ∧ decode (mL_law).2.1 277 = .ok ((.pop), 1) ∧ decode (mL_law).2.1 278 = .ok ((.goto 1103), 3) ∧ decode (mL_law).2.1 281 = .ok ((.aload_n 1), 1) ∧ decode (mL_law).2.1 282 = .ok ((.aload_n 0), 1) := by decide +kernel
theorem dL_law_273 : Dc mL_law 273 (.iaload) 1 274 := ⟨k_dL_law_273.1, rfl⟩
theorem dL_law_274 : Dc mL_law 274 (.invokevirtual 25) 3 277 := ⟨k_dL_law_273.2.1, rfl⟩
theorem dL_law_277 : Dc mL_law 277 (.pop) 1 278 := ⟨k_dL_law_273.2.2.1, rfl⟩
theorem dL_law_278 : Dc mL_law 278 (.goto 1103) 3 281 := ⟨k_dL_law_273.2.2.2.1, rfl⟩
theorem dL_law_281 : Dc mL_law 281 (.aload_n 1) 1 282 := ⟨k_dL_law_273.2.2.2.2.1, rfl⟩
theorem dL_law_282 : Dc mL_law 282 (.aload_n 0) 1 283 := ⟨k_dL_law_273.2.2.2.2.2, rfl⟩
theorem k_dL_law_283 : decode (mL_law).2.1 283 = .ok ((.iload 4), 2) ∧ decode (mL_law).2.1 285 = .ok ((.iconst 1), 1) ∧ decode (mL_law).2.1 286 = .ok ((.iadd), 1) ∧ decode (mL_law).2.1 287 = .ok ((.iaload), 1) ∧ decode (mL_law).2.1 288 = .ok ((.invokevirtual 26), 3) ∧ decode (mL_law).2.1 291 = .ok ((.pop), 1) := by decide +kernel
theorem dL_law_283 : Dc mL_law 283 (.iload 4) 2 285 := ⟨k_dL_law_283.1, rfl⟩
theorem dL_law_285 : Dc mL_law 285 (.iconst 1) 1 286 := ⟨k_dL_law_283.2.1, rfl⟩
theorem dL_law_286 : Dc mL_law 286 (.iadd) 1 287 := ⟨k_dL_law_283.2.2.1, rfl⟩
theorem dL_law_287 : Dc mL_law 287 (.iaload) 1 288 := ⟨k_dL_law_283.2.2.2.1, rfl⟩
theorem dL_law_288 : Dc mL_law 288 (.invokevirtual 26) 3 291 := ⟨k_dL_law_283.2.2.2.2.1, rfl⟩
theorem dL_law_291 : Dc mL_law 291 (.pop) 1 292 := ⟨k_dL_law_283.2.2.2.2.2, rfl⟩
theorem k_dL_law_292 : decode (mL_law).2.1 292 = .ok ((.aload_n 2), 1) ∧ decode (mL_law).2.1 293 = .ok ((.aload_n 0), 1) ∧ decode (mL_law).2.1 294 = .ok ((.iload 4), 2) ∧ decode (mL_law).2.1 296 = .ok ((.iconst 1), 1) ∧ decode (mL_law).2.1 297 = .ok ((.iadd), 1) ∧ decode (mL_law).2.1 298 = .ok ((.iaload), 1) := by decide +kernel
theorem dL_law_292 : Dc mL_law 292 (.aload_n 2) 1 293 := ⟨k_dL_law_292.1, rfl⟩
theorem dL_law_293 : Dc mL_law 293 (.aload_n 0) 1 294 := ⟨k_dL_law_292.2.1, rfl⟩
theorem dL_law_294 : Dc mL_law 294 (.iload 4) 2 296 := ⟨k_dL_law_292.2.2.1, rfl⟩
theorem dL_law_296 : Dc mL_law 296 (.iconst 1) 1 297 := ⟨k_dL_law_292.2.2.2.1, rfl⟩
theorem dL_law_297 : Dc mL_law 297 (.iadd) 1 298 := ⟨k_dL_law_292.2.2.2.2.1, rfl⟩
theorem dL_law_298 : Dc mL_law 298 (.iaload) 1 299 := ⟨k_dL_law_292.2.2.2.2.2, rfl⟩
theorem k_dL_law_299 : decode (mL_law).2.1 299 = .ok ((.invokevirtual 30), 3) ∧ decode (mL_law).2.1 302 = .ok ((.pop), 1) ∧ decode (mL_law).2.1 303 = .ok ((.goto 1078), 3) ∧ decode (mL_law).2.1 306 = .ok ((.aload_n 1), 1) ∧ decode (mL_law).2.1 307 = .ok ((.aload_n 0), 1) ∧ decode (mL_law).2.1 308 = .ok ((.iload 4), 2) := by decide +kernel
theorem dL_law_299 : Dc mL_law 299 (.invokevirtual 30) 3 302 := ⟨k_dL_law_299.1, rfl⟩
theorem dL_law_302 : Dc mL_law 302 (.pop) 1 303 := ⟨k_dL_law_299.2.1, rfl⟩
theorem dL_law_303 : Dc mL_law 303 (.goto 1078) 3 306 := ⟨k_dL_law_299.2.2.1, rfl⟩
theorem dL_law_306 : Dc mL_law 306 (.aload_n 1) 1 307 := ⟨k_dL_law_299.2.2.2.1, rfl⟩
theorem dL_law_307 : Dc mL_law 307 (.aload_n 0) 1 308 := ⟨k_dL_law_299.2.2.2.2.1, rfl⟩
theorem dL_law_308 : Dc mL_law 308 (.iload 4) 2 310 := ⟨k_dL_law_299.2.2.2.2.2, rfl⟩
theorem k_dL_law_310 : decode (mL_law).2.1 310 = .ok ((.iconst 1), 1) ∧ decode (mL_law).2.1 311 = .ok ((.iadd), 1) ∧ decode (mL_law).2.1 312 = .ok ((.iaload), 1) ∧ decode (mL_law).2.1 313 = .ok ((.invokevirtual 31), 3) ∧ decode (mL_law).2.1 316 = .ok ((.pop), 1) ∧ decode (mL_law).2.1 317 = .ok ((.aload_n 2), 1) := by decide +kernel
theorem dL_law_310 : Dc mL_law 310 (.iconst 1) 1 311 := ⟨k_dL_law_310.1, rfl⟩
theorem dL_law_311 : Dc mL_law 311 (.iadd) 1 312 := ⟨k_dL_law_310.2.1, rfl⟩
theorem dL_law_312 : Dc mL_law 312 (.iaload) 1 313 := ⟨k_dL_law_310.2.2.1, rfl⟩
theorem dL_law_313 : Dc mL_law 313 (.invokevirtual 31) 3 316 := ⟨k_dL_law_310.2.2.2.1, rfl⟩
theorem dL_law_316 : Dc mL_law 316 (.pop) 1 317 := ⟨k_dL_law_310.2.2.2.2.1, rfl⟩
theorem dL_law_317 : Dc mL_law 317 (.aload_n 2) 1 318 := ⟨k_dL_law_310.2.2.2.2.2, rfl⟩
theorem k_dL_law_318 : decode (mL_law).2.1 318 = .ok ((.aload_n 0), 1) ∧ decode (mL_law).2.1 319 = .ok ((.iload 4), 2) ∧ decode (mL_law).2.1 321 = .ok ((.iconst 1), 1) ∧ decode (mL_law).2.1 322 = .ok ((.iadd), 1) ∧ decode (mL_law).2.1 323 = .ok ((.iaload), 1) ∧ decode (mL_law).2.1 324 = .ok ((.invokevirtual 34), 3) := by decide +kernel
theorem dL_law_318 : Dc mL_law 318 (.aload_n 0) 1 319 := ⟨k_dL_law_318.1, rfl⟩
theorem dL_law_319 : Dc mL_law 319 (.iload 4) 2 321 := ⟨k_dL_law_318.2.1, rfl⟩
theorem dL_law_321 : Dc mL_law 321 (.iconst 1) 1 322 := ⟨k_dL_law_318.2.2.1, rfl⟩
theorem dL_law_322 : Dc mL_law 322 (.iadd) 1 323 := ⟨k_dL_law_318.2.2.2.1, rfl⟩
theorem dL_law_323 : Dc mL_law 323 (.iaload) 1 324 := ⟨k_dL_law_318.2.2.2.2.1, rfl⟩
theorem dL_law_324 : Dc mL_law 324 (.invokevirtual 34) 3 327 := ⟨k_dL_law_318.2.2.2.2.2, rfl⟩
theorem k_dL_law_327 : decode (mL_law).2.1 327 = .ok ((.pop), 1) ∧ decode (mL_law).2.1 328 = .ok ((.goto 1053), 3) ∧ decode (mL_law).2.1 331 = .ok ((.aload_n 1), 1) ∧ decode (mL_law).2.1 332 = .ok ((.aload_n 0), 1) ∧ decode (mL_law).2.1 333 = .ok ((.iload 4), 2) ∧ decode (mL_law).2.1 335 = .ok ((.iconst 1), 1) := by decide +kernel
theorem dL_law_327 : Dc mL_law 327 (.pop) 1 328 := ⟨k_dL_law_327.1, rfl⟩
theorem dL_law_328 : Dc mL_law 328 (.goto 1053) 3 331 := ⟨k_dL_law_327.2.1, rfl⟩
theorem dL_law_331 : Dc mL_law 331 (.aload_n 1) 1 332 := ⟨k_dL_law_327.2.2.1, rfl⟩
theorem dL_law_332 : Dc mL_law 332 (.aload_n 0) 1 333 := ⟨k_dL_law_327.2.2.2.1, rfl⟩
theorem dL_law_333 : Dc mL_law 333 (.iload 4) 2 335 := ⟨k_dL_law_327.2.2.2.2.1, rfl⟩
theorem dL_law_335 : Dc mL_law 335 (.iconst 1) 1 336 := ⟨k_dL_law_327.2.2.2.2.2, rfl⟩
theorem k_dL_law_336 : decode (mL_law).2.1 336 = .ok ((.iadd), 1) ∧ decode (mL_law).2.1 337 = .ok ((.iaload), 1) ∧ decode (mL_law).2.1 338 = .ok ((.aload_n 0), 1) ∧ decode (mL_law).2.1 339 = .ok ((.iload 4), 2) ∧ decode (mL_law).2.1 341 = .ok ((.iconst 2), 1) ∧ decode (mL_law).2.1 342 = .ok ((.iadd), 1) := by decide +kernel
theorem dL_law_336 : Dc mL_law 336 (.iadd) 1 337 := ⟨k_dL_law_336.1, rfl⟩
theorem dL_law_337 : Dc mL_law 337 (.iaload) 1 338 := ⟨k_dL_law_336.2.1, rfl⟩
theorem dL_law_338 : Dc mL_law 338 (.aload_n 0) 1 339 := ⟨k_dL_law_336.2.2.1, rfl⟩
theorem dL_law_339 : Dc mL_law 339 (.iload 4) 2 341 := ⟨k_dL_law_336.2.2.2.1, rfl⟩
theorem dL_law_341 : Dc mL_law 341 (.iconst 2) 1 342 := ⟨k_dL_law_336.2.2.2.2.1, rfl⟩
theorem dL_law_342 : Dc mL_law 342 (.iadd) 1 343 := ⟨k_dL_law_336.2.2.2.2.2, rfl⟩
theorem k_dL_law_343 : decode (mL_law).2.1 343 = .ok ((.iaload), 1) ∧ decode (mL_law).2.1 344 = .ok ((.invokevirtual 35), 3) ∧ decode (mL_law).2.1 347 = .ok ((.pop), 1) ∧ decode (mL_law).2.1 348 = .ok ((.aload_n 2), 1) ∧ decode (mL_law).2.1 349 = .ok ((.aload_n 0), 1) ∧ decode (mL_law).2.1 350 = .ok ((.iload 4), 2) := by decide +kernel
theorem dL_law_343 : Dc mL_law 343 (.iaload) 1 344 := ⟨k_dL_law_343.1, rfl⟩
theorem dL_law_344 : Dc mL_law 344 (.invokevirtual 35) 3 347 := ⟨k_dL_law_343.2.1, rfl⟩
theorem dL_law_347 : Dc mL_law 347 (.pop) 1 348 := ⟨k_dL_law_343.2.2.1, rfl⟩
theorem dL_law_348 : Dc mL_law 348 (.aload_n 2) 1 349 := ⟨k_dL_law_343.2.2.2.1, rfl⟩
theorem dL_law_349 : Dc mL_law 349 (.aload_n 0) 1 350 := ⟨k_dL_law_343.2.2.2.2.1, rfl⟩
theorem dL_law_350 : Dc mL_law 350 (.iload 4) 2 352 := ⟨k_dL_law_343.2.2.2.2.2, rfl⟩
theorem k_dL_law_352 : decode (mL_law).2.1 352 = .ok ((.iconst 1), 1) ∧ decode (mL_law).2.1 353 = .ok ((.iadd), 1) ∧ decode (mL_law).2.1 354 = .ok ((.iaload), 1) ∧ decode (mL_law).2.1 355 = .ok ((.aload_n 0), 1) ∧ decode (mL_law).2.1 356 = .ok ((.iload 4), 2) ∧ decode (mL_law).2.1 358 = .ok ((.iconst 2), 1) := by decide +kernel
theorem dL_law_352 : Dc mL_law 352 (.iconst 1) 1 353 := ⟨k_dL_law_352.1, rfl⟩
theorem dL_law_353 : Dc mL_law 353 (.iadd) 1 354 := ⟨k_dL_law_352.2.1, rfl⟩
theorem dL_law_354 : Dc mL_law 354 (.iaload) 1 355 := ⟨k_dL_law_352.2.2.1, rfl⟩
theorem dL_law_355 : Dc mL_law 355 (.aload_n 0) 1 356 := ⟨k_dL_law_352.2.2.2.1, rfl⟩
theorem dL_law_356 : Dc mL_law 356 (.iload 4) 2 358 := ⟨k_dL_law_352.2.2.2.2.1, rfl⟩
theorem dL_law_358 : Dc mL_law 358 (.iconst 2) 1 359 := ⟨k_dL_law_352.2.2.2.2.2, rfl⟩
theorem k_dL_law_359 : decode (mL_law).2.1 359 = .ok ((.iadd), 1) ∧ decode (mL_law).2.1 360 = .ok ((.iaload), 1) ∧ decode (mL_law).2.1 361 = .ok ((.invokevirtual 38), 3) ∧ decode (mL_law).2.1 364 = .ok ((.pop), 1) ∧ decode (mL_law).2.1 365 = .ok ((.goto 1016), 3) ∧ decode (mL_law).2.1 368 = .ok ((.aload_n 1), 1) := by decide +kernel
theorem dL_law_359 : Dc mL_law 359 (.iadd) 1 360 := ⟨k_dL_law_359.1, rfl⟩
theorem dL_law_360 : Dc mL_law 360 (.iaload) 1 361 := ⟨k_dL_law_359.2.1, rfl⟩
theorem dL_law_361 : Dc mL_law 361 (.invokevirtual 38) 3 364 := ⟨k_dL_law_359.2.2.1, rfl⟩
theorem dL_law_364 : Dc mL_law 364 (.pop) 1 365 := ⟨k_dL_law_359.2.2.2.1, rfl⟩
theorem dL_law_365 : Dc mL_law 365 (.goto 1016) 3 368 := ⟨k_dL_law_359.2.2.2.2.1, rfl⟩
theorem dL_law_368 : Dc mL_law 368 (.aload_n 1) 1 369 := ⟨k_dL_law_359.2.2.2.2.2, rfl⟩
theorem k_dL_law_369 : decode (mL_law).2.1 369 = .ok ((.aload_n 0), 1) ∧ decode (mL_law).2.1 370 = .ok ((.iload 4), 2) ∧ decode (mL_law).2.1 372 = .ok ((.iconst 1), 1) ∧ decode (mL_law).2.1 373 = .ok ((.iadd), 1) ∧ decode (mL_law).2.1 374 = .ok ((.iaload), 1) ∧ decode (mL_law).2.1 375 = .ok ((.aload_n 0), 1) := by decide +kernel
theorem dL_law_369 : Dc mL_law 369 (.aload_n 0) 1 370 := ⟨k_dL_law_369.1, rfl⟩
theorem dL_law_370 : Dc mL_law 370 (.iload 4) 2 372 := ⟨k_dL_law_369.2.1, rfl⟩
theorem dL_law_372 : Dc mL_law 372 (.iconst 1) 1 373 := ⟨k_dL_law_369.2.2.1, rfl⟩
theorem dL_law_373 : Dc mL_law 373 (.iadd) 1 374 := ⟨k_dL_law_369.2.2.2.1, rfl⟩
theorem dL_law_374 : Dc mL_law 374 (.iaload) 1 375 := ⟨k_dL_law_369.2.2.2.2.1, rfl⟩
theorem dL_law_375 : Dc mL_law 375 (.aload_n 0) 1 376 := ⟨k_dL_law_369.2.2.2.2.2, rfl⟩
theorem k_dL_law_376 : decode (mL_law).2.1 376 = .ok ((.iload 4), 2) ∧ decode (mL_law).2.1 378 = .ok ((.iconst 2), 1) ∧ decode (mL_law).2.1 379 = .ok ((.iadd), 1) ∧ decode (mL_law).2.1 380 = .ok ((.iaload), 1) ∧ decode (mL_law).2.1 381 = .ok ((.aload_n 3), 1) ∧ decode (mL_law).2.1 382 = .ok ((.invokestatic 39), 3) := by decide +kernel
theorem dL_law_376 : Dc mL_law 376 (.iload 4) 2 378 := ⟨k_dL_law_376.1, rfl⟩
theorem dL_law_378 : Dc mL_law 378 (.iconst 2) 1 379 := ⟨k_dL_law_376.2.1, rfl⟩
theorem dL_law_379 : Dc mL_law 379 (.iadd) 1 380 := ⟨k_dL_law_376.2.2.1, rfl⟩
theorem dL_law_380 : Dc mL_law 380 (.iaload) 1 381 := ⟨k_dL_law_376.2.2.2.1, rfl⟩
theorem dL_law_381 : Dc mL_law 381 (.aload_n 3) 1 382 := ⟨k_dL_law_376.2.2.2.2.1, rfl⟩
theorem dL_law_382 : Dc mL_law 382 (.invokestatic 39) 3 385 := ⟨k_dL_law_376.2.2.2.2.2, rfl⟩
theorem k_dL_law_385 : decode (mL_law).2.1 385 = .ok ((.istore 5), 2) ∧ decode (mL_law).2.1 387 = .ok ((.aload_n 2), 1) ∧ decode (mL_law).2.1 388 = .ok ((.aload_n 0), 1) ∧ decode (mL_law).2.1 389 = .ok ((.iload 4), 2) ∧ decode (mL_law).2.1 391 = .ok ((.iconst 1), 1) ∧ decode (mL_law).2.1 392 = .ok ((.iadd), 1) := by decide +kernel
theorem dL_law_385 : Dc mL_law 385 (.istore 5) 2 387 := ⟨k_dL_law_385.1, rfl⟩
theorem dL_law_387 : Dc mL_law 387 (.aload_n 2) 1 388 := ⟨k_dL_law_385.2.1, rfl⟩
theorem dL_law_388 : Dc mL_law 388 (.aload_n 0) 1 389 := ⟨k_dL_law_385.2.2.1, rfl⟩
theorem dL_law_389 : Dc mL_law 389 (.iload 4) 2 391 := ⟨k_dL_law_385.2.2.2.1, rfl⟩
theorem dL_law_391 : Dc mL_law 391 (.iconst 1) 1 392 := ⟨k_dL_law_385.2.2.2.2.1, rfl⟩
theorem dL_law_392 : Dc mL_law 392 (.iadd) 1 393 := ⟨k_dL_law_385.2.2.2.2.2, rfl⟩
theorem k_dL_law_393 : decode (mL_law).2.1 393 = .ok ((.iaload), 1) ∧ decode (mL_law).2.1 394 = .ok ((.aload_n 0), 1) ∧ decode (mL_law).2.1 395 = .ok ((.iload 4), 2) ∧ decode (mL_law).2.1 397 = .ok ((.iconst 2), 1) ∧ decode (mL_law).2.1 398 = .ok ((.iadd), 1) ∧ decode (mL_law).2.1 399 = .ok ((.iaload), 1) := by decide +kernel
theorem dL_law_393 : Dc mL_law 393 (.iaload) 1 394 := ⟨k_dL_law_393.1, rfl⟩
theorem dL_law_394 : Dc mL_law 394 (.aload_n 0) 1 395 := ⟨k_dL_law_393.2.1, rfl⟩
theorem dL_law_395 : Dc mL_law 395 (.iload 4) 2 397 := ⟨k_dL_law_393.2.2.1, rfl⟩
theorem dL_law_397 : Dc mL_law 397 (.iconst 2) 1 398 := ⟨k_dL_law_393.2.2.2.1, rfl⟩
theorem dL_law_398 : Dc mL_law 398 (.iadd) 1 399 := ⟨k_dL_law_393.2.2.2.2.1, rfl⟩
theorem dL_law_399 : Dc mL_law 399 (.iaload) 1 400 := ⟨k_dL_law_393.2.2.2.2.2, rfl⟩
theorem k_dL_law_400 : decode (mL_law).2.1 400 = .ok ((.invokevirtual 44), 3) ∧ decode (mL_law).2.1 403 = .ok ((.istore 6), 2) ∧ decode (mL_law).2.1 405 = .ok ((.goto 976), 3) ∧ decode (mL_law).2.1 408 = .ok ((.aload_n 1), 1) ∧ decode (mL_law).2.1 409 = .ok ((.aload_n 0), 1) ∧ decode (mL_law).2.1 410 = .ok ((.iload 4), 2) := by decide +kernel
theorem dL_law_400 : Dc mL_law 400 (.invokevirtual 44) 3 403 := ⟨k_dL_law_400.1, rfl⟩
theorem dL_law_403 : Dc mL_law 403 (.istore 6) 2 405 := ⟨k_dL_law_400.2.1, rfl⟩
theorem dL_law_405 : Dc mL_law 405 (.goto 976) 3 408 := ⟨k_dL_law_400.2.2.1, rfl⟩
theorem dL_law_408 : Dc mL_law 408 (.aload_n 1) 1 409 := ⟨k_dL_law_400.2.2.2.1, rfl⟩
theorem dL_law_409 : Dc mL_law 409 (.aload_n 0) 1 410 := ⟨k_dL_law_400.2.2.2.2.1, rfl⟩
theorem dL_law_410 : Dc mL_law 410 (.iload 4) 2 412 := ⟨k_dL_law_400.2.2.2.2.2, rfl⟩
theorem k_dL_law_412 : decode (mL_law).2.1 412 = .ok ((.iconst 1), 1) ∧ decode (mL_law).2.1 413 = .ok ((.iadd), 1) ∧ decode (mL_law).2.1 414 = .ok ((.iaload), 1) ∧ decode (mL_law).2.1 415 = .ok ((.aload_n 0), 1) ∧ decode (mL_law).2.1 416 = .ok ((.iload 4), 2) ∧ decode (mL_law).2.1 418 = .ok ((.iconst 2), 1) := by decide +kernel
theorem dL_law_412 : Dc mL_law 412 (.iconst 1) 1 413 := ⟨k_dL_law_412.1, rfl⟩
theorem dL_law_413 : Dc mL_law 413 (.iadd) 1 414 := ⟨k_dL_law_412.2.1, rfl⟩
theorem dL_law_414 : Dc mL_law 414 (.iaload) 1 415 := ⟨k_dL_law_412.2.2.1, rfl⟩
theorem dL_law_415 : Dc mL_law 415 (.aload_n 0) 1 416 := ⟨k_dL_law_412.2.2.2.1, rfl⟩
theorem dL_law_416 : Dc mL_law 416 (.iload 4) 2 418 := ⟨k_dL_law_412.2.2.2.2.1, rfl⟩
theorem dL_law_418 : Dc mL_law 418 (.iconst 2) 1 419 := ⟨k_dL_law_412.2.2.2.2.2, rfl⟩
theorem k_dL_law_419 : decode (mL_law).2.1 419 = .ok ((.iadd), 1) ∧ decode (mL_law).2.1 420 = .ok ((.iaload), 1) ∧ decode (mL_law).2.1 421 = .ok ((.invokevirtual 45), 3) ∧ decode (mL_law).2.1 424 = .ok ((.pop), 1) ∧ decode (mL_law).2.1 425 = .ok ((.aload_n 2), 1) ∧ decode (mL_law).2.1 426 = .ok ((.aload_n 0), 1) := by decide +kernel
theorem dL_law_419 : Dc mL_law 419 (.iadd) 1 420 := ⟨k_dL_law_419.1, rfl⟩
theorem dL_law_420 : Dc mL_law 420 (.iaload) 1 421 := ⟨k_dL_law_419.2.1, rfl⟩
theorem dL_law_421 : Dc mL_law 421 (.invokevirtual 45) 3 424 := ⟨k_dL_law_419.2.2.1, rfl⟩
theorem dL_law_424 : Dc mL_law 424 (.pop) 1 425 := ⟨k_dL_law_419.2.2.2.1, rfl⟩
theorem dL_law_425 : Dc mL_law 425 (.aload_n 2) 1 426 := ⟨k_dL_law_419.2.2.2.2.1, rfl⟩
theorem dL_law_426 : Dc mL_law 426 (.aload_n 0) 1 427 := ⟨k_dL_law_419.2.2.2.2.2, rfl⟩
theorem k_dL_law_427 : decode (mL_law).2.1 427 = .ok ((.iload 4), 2) ∧ decode (mL_law).2.1 429 = .ok ((.iconst 1), 1) ∧ decode (mL_law).2.1 430 = .ok ((.iadd), 1) ∧ decode (mL_law).2.1 431 = .ok ((.iaload), 1) ∧ decode (mL_law).2.1 432 = .ok ((.aload_n 0), 1) ∧ decode (mL_law).2.1 433 = .ok ((.iload 4), 2) := by decide +kernel
theorem dL_law_427 : Dc mL_law 427 (.iload 4) 2 429 := ⟨k_dL_law_427.1, rfl⟩
theorem dL_law_429 : Dc mL_law 429 (.iconst 1) 1 430 := ⟨k_dL_law_427.2.1, rfl⟩
theorem dL_law_430 : Dc mL_law 430 (.iadd) 1 431 := ⟨k_dL_law_427.2.2.1, rfl⟩
theorem dL_law_431 : Dc mL_law 431 (.iaload) 1 432 := ⟨k_dL_law_427.2.2.2.1, rfl⟩
theorem dL_law_432 : Dc mL_law 432 (.aload_n 0) 1 433 := ⟨k_dL_law_427.2.2.2.2.1, rfl⟩
theorem dL_law_433 : Dc mL_law 433 (.iload 4) 2 435 := ⟨k_dL_law_427.2.2.2.2.2, rfl⟩
theorem k_dL_law_435 : decode (mL_law).2.1 435 = .ok ((.iconst 2), 1) ∧ decode (mL_law).2.1 436 = .ok ((.iadd), 1) ∧ decode (mL_law).2.1 437 = .ok ((.iaload), 1) ∧ decode (mL_law).2.1 438 = .ok ((.invokevirtual 48), 3) ∧ decode (mL_law).2.1 441 = .ok ((.pop), 1) ∧ decode (mL_law).2.1 442 = .ok ((.goto 939), 3) := by decide +kernel
theorem dL_law_435 : Dc mL_law 435 (.iconst 2) 1 436 := ⟨k_dL_law_435.1, rfl⟩
theorem dL_law_436 : Dc mL_law 436 (.iadd) 1 437 := ⟨k_dL_law_435.2.1, rfl⟩
theorem dL_law_437 : Dc mL_law 437 (.iaload) 1 438 := ⟨k_dL_law_435.2.2.1, rfl⟩
theorem dL_law_438 : Dc mL_law 438 (.invokevirtual 48) 3 441 := ⟨k_dL_law_435.2.2.2.1, rfl⟩
theorem dL_law_441 : Dc mL_law 441 (.pop) 1 442 := ⟨k_dL_law_435.2.2.2.2.1, rfl⟩
theorem dL_law_442 : Dc mL_law 442 (.goto 939) 3 445 := ⟨k_dL_law_435.2.2.2.2.2, rfl⟩
theorem k_dL_law_445 : decode (mL_law).2.1 445 = .ok ((.aload_n 1), 1) ∧ decode (mL_law).2.1 446 = .ok ((.aload_n 0), 1) ∧ decode (mL_law).2.1 447 = .ok ((.iload 4), 2) ∧ decode (mL_law).2.1 449 = .ok ((.iconst 1), 1) ∧ decode (mL_law).2.1 450 = .ok ((.iadd), 1) ∧ decode (mL_law).2.1 451 = .ok ((.iaload), 1) := by decide +kernel
theorem dL_law_445 : Dc mL_law 445 (.aload_n 1) 1 446 := ⟨k_dL_law_445.1, rfl⟩
theorem dL_law_446 : Dc mL_law 446 (.aload_n 0) 1 447 := ⟨k_dL_law_445.2.1, rfl⟩
theorem dL_law_447 : Dc mL_law 447 (.iload 4) 2 449 := ⟨k_dL_law_445.2.2.1, rfl⟩
theorem dL_law_449 : Dc mL_law 449 (.iconst 1) 1 450 := ⟨k_dL_law_445.2.2.2.1, rfl⟩
theorem dL_law_450 : Dc mL_law 450 (.iadd) 1 451 := ⟨k_dL_law_445.2.2.2.2.1, rfl⟩
theorem dL_law_451 : Dc mL_law 451 (.iaload) 1 452 := ⟨k_dL_law_445.2.2.2.2.2, rfl⟩
theorem k_dL_law_452 : decode (mL_law).2.1 452 = .ok ((.aload_n 0), 1) ∧ decode (mL_law).2.1 453 = .ok ((.iload 4), 2) ∧ decode (mL_law).2.1 455 = .ok ((.iconst 2), 1) ∧ decode (mL_law).2.1 456 = .ok ((.iadd), 1) ∧ decode (mL_law).2.1 457 = .ok ((.iaload), 1) ∧ decode (mL_law).2.1 458 = .ok ((.invokevirtual 49), 3) := by decide +kernel
theorem dL_law_452 : Dc mL_law 452 (.aload_n 0) 1 453 := ⟨k_dL_law_452.1, rfl⟩
theorem dL_law_453 : Dc mL_law 453 (.iload 4) 2 455 := ⟨k_dL_law_452.2.1, rfl⟩
theorem dL_law_455 : Dc mL_law 455 (.iconst 2) 1 456 := ⟨k_dL_law_452.2.2.1, rfl⟩
theorem dL_law_456 : Dc mL_law 456 (.iadd) 1 457 := ⟨k_dL_law_452.2.2.2.1, rfl⟩
theorem dL_law_457 : Dc mL_law 457 (.iaload) 1 458 := ⟨k_dL_law_452.2.2.2.2.1, rfl⟩
theorem dL_law_458 : Dc mL_law 458 (.invokevirtual 49) 3 461 := ⟨k_dL_law_452.2.2.2.2.2, rfl⟩
theorem k_dL_law_461 : decode (mL_law).2.1 461 = .ok ((.pop), 1) ∧ decode (mL_law).2.1 462 = .ok ((.aload_n 2), 1) ∧ decode (mL_law).2.1 463 = .ok ((.aload_n 0), 1) ∧ decode (mL_law).2.1 464 = .ok ((.iload 4), 2) ∧ decode (mL_law).2.1 466 = .ok ((.iconst 1), 1) ∧ decode (mL_law).2.1 467 = .ok ((.iadd), 1) := by decide +kernel
theorem dL_law_461 : Dc mL_law 461 (.pop) 1 462 := ⟨k_dL_law_461.1, rfl⟩
theorem dL_law_462 : Dc mL_law 462 (.aload_n 2) 1 463 := ⟨k_dL_law_461.2.1, rfl⟩
theorem dL_law_463 : Dc mL_law 463 (.aload_n 0) 1 464 := ⟨k_dL_law_461.2.2.1, rfl⟩
theorem dL_law_464 : Dc mL_law 464 (.iload 4) 2 466 := ⟨k_dL_law_461.2.2.2.1, rfl⟩
theorem dL_law_466 : Dc mL_law 466 (.iconst 1) 1 467 := ⟨k_dL_law_461.2.2.2.2.1, rfl⟩
theorem dL_law_467 : Dc mL_law 467 (.iadd) 1 468 := ⟨k_dL_law_461.2.2.2.2.2, rfl⟩
theorem k_dL_law_468 : decode (mL_law).2.1 468 = .ok ((.iaload), 1) ∧ decode (mL_law).2.1 469 = .ok ((.aload_n 0), 1) ∧ decode (mL_law).2.1 470 = .ok ((.iload 4), 2) ∧ decode (mL_law).2.1 472 = .ok ((.iconst 2), 1) ∧ decode (mL_law).2.1 473 = .ok ((.iadd), 1) ∧ decode (mL_law).2.1 474 = .ok ((.iaload), 1) := by decide +kernel
theorem dL_law_468 : Dc mL_law 468 (.iaload) 1 469 := ⟨k_dL_law_468.1, rfl⟩
theorem dL_law_469 : Dc mL_law 469 (.aload_n 0) 1 470 := ⟨k_dL_law_468.2.1, rfl⟩
theorem dL_law_470 : Dc mL_law 470 (.iload 4) 2 472 := ⟨k_dL_law_468.2.2.1, rfl⟩
theorem dL_law_472 : Dc mL_law 472 (.iconst 2) 1 473 := ⟨k_dL_law_468.2.2.2.1, rfl⟩
theorem dL_law_473 : Dc mL_law 473 (.iadd) 1 474 := ⟨k_dL_law_468.2.2.2.2.1, rfl⟩
theorem dL_law_474 : Dc mL_law 474 (.iaload) 1 475 := ⟨k_dL_law_468.2.2.2.2.2, rfl⟩
theorem k_dL_law_475 : decode (mL_law).2.1 475 = .ok ((.invokevirtual 52), 3) ∧ decode (mL_law).2.1 478 = .ok ((.pop), 1) ∧ decode (mL_law).2.1 479 = .ok ((.goto 902), 3) ∧ decode (mL_law).2.1 482 = .ok ((.aload_n 1), 1) ∧ decode (mL_law).2.1 483 = .ok ((.aload_n 0), 1) ∧ decode (mL_law).2.1 484 = .ok ((.iload 4), 2) := by decide +kernel
theorem dL_law_475 : Dc mL_law 475 (.invokevirtual 52) 3 478 := ⟨k_dL_law_475.1, rfl⟩
theorem dL_law_478 : Dc mL_law 478 (.pop) 1 479 := ⟨k_dL_law_475.2.1, rfl⟩
theorem dL_law_479 : Dc mL_law 479 (.goto 902) 3 482 := ⟨k_dL_law_475.2.2.1, rfl⟩
theorem dL_law_482 : Dc mL_law 482 (.aload_n 1) 1 483 := ⟨k_dL_law_475.2.2.2.1, rfl⟩
theorem dL_law_483 : Dc mL_law 483 (.aload_n 0) 1 484 := ⟨k_dL_law_475.2.2.2.2.1, rfl⟩
theorem dL_law_484 : Dc mL_law 484 (.iload 4) 2 486 := ⟨k_dL_law_475.2.2.2.2.2, rfl⟩
theorem k_dL_law_486 : decode (mL_law).2.1 486 = .ok ((.iconst 1), 1) ∧ decode (mL_law).2.1 487 = .ok ((.iadd), 1) ∧ decode (mL_law).2.1 488 = .ok ((.iaload), 1) ∧ decode (mL_law).2.1 489 = .ok ((.aload_n 0), 1) ∧ decode (mL_law).2.1 490 = .ok ((.iload 4), 2) ∧ decode (mL_law).2.1 492 = .ok ((.iconst 2), 1) := by decide +kernel
theorem dL_law_486 : Dc mL_law 486 (.iconst 1) 1 487 := ⟨k_dL_law_486.1, rfl⟩
theorem dL_law_487 : Dc mL_law 487 (.iadd) 1 488 := ⟨k_dL_law_486.2.1, rfl⟩
theorem dL_law_488 : Dc mL_law 488 (.iaload) 1 489 := ⟨k_dL_law_486.2.2.1, rfl⟩
theorem dL_law_489 : Dc mL_law 489 (.aload_n 0) 1 490 := ⟨k_dL_law_486.2.2.2.1, rfl⟩
theorem dL_law_490 : Dc mL_law 490 (.iload 4) 2 492 := ⟨k_dL_law_486.2.2.2.2.1, rfl⟩
theorem dL_law_492 : Dc mL_law 492 (.iconst 2) 1 493 := ⟨k_dL_law_486.2.2.2.2.2, rfl⟩
theorem k_dL_law_493 : decode (mL_law).2.1 493 = .ok ((.iadd), 1) ∧ decode (mL_law).2.1 494 = .ok ((.iaload), 1) ∧ decode (mL_law).2.1 495 = .ok ((.invokevirtual 53), 3) ∧ decode (mL_law).2.1 498 = .ok ((.pop), 1) ∧ decode (mL_law).2.1 499 = .ok ((.aload_n 2), 1) ∧ decode (mL_law).2.1 500 = .ok ((.aload_n 0), 1) := by decide +kernel
theorem dL_law_493 : Dc mL_law 493 (.iadd) 1 494 := ⟨k_dL_law_493.1, rfl⟩
theorem dL_law_494 : Dc mL_law 494 (.iaload) 1 495 := ⟨k_dL_law_493.2.1, rfl⟩
theorem dL_law_495 : Dc mL_law 495 (.invokevirtual 53) 3 498 := ⟨k_dL_law_493.2.2.1, rfl⟩
theorem dL_law_498 : Dc mL_law 498 (.pop) 1 499 := ⟨k_dL_law_493.2.2.2.1, rfl⟩
theorem dL_law_499 : Dc mL_law 499 (.aload_n 2) 1 500 := ⟨k_dL_law_493.2.2.2.2.1, rfl⟩
theorem dL_law_500 : Dc mL_law 500 (.aload_n 0) 1 501 := ⟨k_dL_law_493.2.2.2.2.2, rfl⟩
theorem k_dL_law_501 : decode (mL_law).2.1 501 = .ok ((.iload 4), 2) ∧ decode (mL_law).2.1 503 = .ok ((.iconst 1), 1) ∧ decode (mL_law).2.1 504 = .ok ((.iadd), 1) ∧ decode (mL_law).2.1 505 = .ok ((.iaload), 1) ∧ decode (mL_law).2.1 506 = .ok ((.aload_n 0), 1) ∧ decode (mL_law).2.1 507 = .ok ((.iload 4), 2) := by decide +kernel
theorem dL_law_501 : Dc mL_law 501 (.iload 4) 2 503 := ⟨k_dL_law_501.1, rfl⟩
theorem dL_law_503 : Dc mL_law 503 (.iconst 1) 1 504 := ⟨k_dL_law_501.2.1, rfl⟩
theorem dL_law_504 : Dc mL_law 504 (.iadd) 1 505 := ⟨k_dL_law_501.2.2.1, rfl⟩
theorem dL_law_505 : Dc mL_law 505 (.iaload) 1 506 := ⟨k_dL_law_501.2.2.2.1, rfl⟩
theorem dL_law_506 : Dc mL_law 506 (.aload_n 0) 1 507 := ⟨k_dL_law_501.2.2.2.2.1, rfl⟩
theorem dL_law_507 : Dc mL_law 507 (.iload 4) 2 509 := ⟨k_dL_law_501.2.2.2.2.2, rfl⟩
theorem k_dL_law_509 : decode (mL_law).2.1 509 = .ok ((.iconst 2), 1) ∧ decode (mL_law).2.1 510 = .ok ((.iadd), 1) ∧ decode (mL_law).2.1 511 = .ok ((.iaload), 1) ∧ decode (mL_law).2.1 512 = .ok ((.invokevirtual 56), 3) ∧ decode (mL_law).2.1 515 = .ok ((.pop), 1) ∧ decode (mL_law).2.1 516 = .ok ((.goto 865), 3) := by decide +kernel
theorem dL_law_509 : Dc mL_law 509 (.iconst 2) 1 510 := ⟨k_dL_law_509.1, rfl⟩
theorem dL_law_510 : Dc mL_law 510 (.iadd) 1 511 := ⟨k_dL_law_509.2.1, rfl⟩
theorem dL_law_511 : Dc mL_law 511 (.iaload) 1 512 := ⟨k_dL_law_509.2.2.1, rfl⟩
theorem dL_law_512 : Dc mL_law 512 (.invokevirtual 56) 3 515 := ⟨k_dL_law_509.2.2.2.1, rfl⟩
theorem dL_law_515 : Dc mL_law 515 (.pop) 1 516 := ⟨k_dL_law_509.2.2.2.2.1, rfl⟩
theorem dL_law_516 : Dc mL_law 516 (.goto 865) 3 519 := ⟨k_dL_law_509.2.2.2.2.2, rfl⟩
theorem k_dL_law_519 : decode (mL_law).2.1 519 = .ok ((.aload_n 1), 1) ∧ decode (mL_law).2.1 520 = .ok ((.aload_n 0), 1) ∧ decode (mL_law).2.1 521 = .ok ((.iload 4), 2) ∧ decode (mL_law).2.1 523 = .ok ((.iconst 1), 1) ∧ decode (mL_law).2.1 524 = .ok ((.iadd), 1) ∧ decode (mL_law).2.1 525 = .ok ((.iaload), 1) := by decide +kernel
theorem dL_law_519 : Dc mL_law 519 (.aload_n 1) 1 520 := ⟨k_dL_law_519.1, rfl⟩
theorem dL_law_520 : Dc mL_law 520 (.aload_n 0) 1 521 := ⟨k_dL_law_519.2.1, rfl⟩
theorem dL_law_521 : Dc mL_law 521 (.iload 4) 2 523 := ⟨k_dL_law_519.2.2.1, rfl⟩
theorem dL_law_523 : Dc mL_law 523 (.iconst 1) 1 524 := ⟨k_dL_law_519.2.2.2.1, rfl⟩
theorem dL_law_524 : Dc mL_law 524 (.iadd) 1 525 := ⟨k_dL_law_519.2.2.2.2.1, rfl⟩
theorem dL_law_525 : Dc mL_law 525 (.iaload) 1 526 := ⟨k_dL_law_519.2.2.2.2.2, rfl⟩
theorem k_dL_law_526 : decode (mL_law).2.1 526 = .ok ((.invokevirtual 57), 3) ∧ decode (mL_law).2.1 529 = .ok ((.pop), 1) ∧ decode (mL_law).2.1 530 = .ok ((.aload_n 2), 1) ∧ decode (mL_law).2.1 531 = .ok ((.aload_n 0), 1) ∧ decode (mL_law).2.1 532 = .ok ((.iload 4), 2) ∧ decode (mL_law).2.1 534 = .ok ((.iconst 1), 1) := by decide +kernel
theorem dL_law_526 : Dc mL_law 526 (.invokevirtual 57) 3 529 := ⟨k_dL_law_526.1, rfl⟩
theorem dL_law_529 : Dc mL_law 529 (.pop) 1 530 := ⟨k_dL_law_526.2.1, rfl⟩
theorem dL_law_530 : Dc mL_law 530 (.aload_n 2) 1 531 := ⟨k_dL_law_526.2.2.1, rfl⟩
theorem dL_law_531 : Dc mL_law 531 (.aload_n 0) 1 532 := ⟨k_dL_law_526.2.2.2.1, rfl⟩
theorem dL_law_532 : Dc mL_law 532 (.iload 4) 2 534 := ⟨k_dL_law_526.2.2.2.2.1, rfl⟩
theorem dL_law_534 : Dc mL_law 534 (.iconst 1) 1 535 := ⟨k_dL_law_526.2.2.2.2.2, rfl⟩
theorem k_dL_law_535 : decode (mL_law).2.1 535 = .ok ((.iadd), 1) ∧ decode (mL_law).2.1 536 = .ok ((.iaload), 1) ∧ decode (mL_law).2.1 537 = .ok ((.invokevirtual 60), 3) ∧ decode (mL_law).2.1 540 = .ok ((.pop), 1) ∧ decode (mL_law).2.1 541 = .ok ((.goto 840), 3) ∧ decode (mL_law).2.1 544 = .ok ((.aload_n 1), 1) := by decide +kernel
theorem dL_law_535 : Dc mL_law 535 (.iadd) 1 536 := ⟨k_dL_law_535.1, rfl⟩
theorem dL_law_536 : Dc mL_law 536 (.iaload) 1 537 := ⟨k_dL_law_535.2.1, rfl⟩
theorem dL_law_537 : Dc mL_law 537 (.invokevirtual 60) 3 540 := ⟨k_dL_law_535.2.2.1, rfl⟩
theorem dL_law_540 : Dc mL_law 540 (.pop) 1 541 := ⟨k_dL_law_535.2.2.2.1, rfl⟩
theorem dL_law_541 : Dc mL_law 541 (.goto 840) 3 544 := ⟨k_dL_law_535.2.2.2.2.1, rfl⟩
theorem dL_law_544 : Dc mL_law 544 (.aload_n 1) 1 545 := ⟨k_dL_law_535.2.2.2.2.2, rfl⟩
theorem k_dL_law_545 : decode (mL_law).2.1 545 = .ok ((.aload_n 0), 1) ∧ decode (mL_law).2.1 546 = .ok ((.iload 4), 2) ∧ decode (mL_law).2.1 548 = .ok ((.iconst 1), 1) ∧ decode (mL_law).2.1 549 = .ok ((.iadd), 1) ∧ decode (mL_law).2.1 550 = .ok ((.iaload), 1) ∧ decode (mL_law).2.1 551 = .ok ((.aload_n 0), 1) := by decide +kernel
theorem dL_law_545 : Dc mL_law 545 (.aload_n 0) 1 546 := ⟨k_dL_law_545.1, rfl⟩
theorem dL_law_546 : Dc mL_law 546 (.iload 4) 2 548 := ⟨k_dL_law_545.2.1, rfl⟩
theorem dL_law_548 : Dc mL_law 548 (.iconst 1) 1 549 := ⟨k_dL_law_545.2.2.1, rfl⟩
theorem dL_law_549 : Dc mL_law 549 (.iadd) 1 550 := ⟨k_dL_law_545.2.2.2.1, rfl⟩
theorem dL_law_550 : Dc mL_law 550 (.iaload) 1 551 := ⟨k_dL_law_545.2.2.2.2.1, rfl⟩
theorem dL_law_551 : Dc mL_law 551 (.aload_n 0) 1 552 := ⟨k_dL_law_545.2.2.2.2.2, rfl⟩
theorem k_dL_law_552 : decode (mL_law).2.1 552 = .ok ((.iload 4), 2) ∧ decode (mL_law).2.1 554 = .ok ((.iconst 2), 1) ∧ decode (mL_law).2.1 555 = .ok ((.iadd), 1) ∧ decode (mL_law).2.1 556 = .ok ((.iaload), 1) ∧ decode (mL_law).2.1 557 = .ok ((.aload_n 0), 1) ∧ decode (mL_law).2.1 558 = .ok ((.iload 4), 2) := by decide +kernel
theorem dL_law_552 : Dc mL_law 552 (.iload 4) 2 554 := ⟨k_dL_law_552.1, rfl⟩
theorem dL_law_554 : Dc mL_law 554 (.iconst 2) 1 555 := ⟨k_dL_law_552.2.1, rfl⟩
theorem dL_law_555 : Dc mL_law 555 (.iadd) 1 556 := ⟨k_dL_law_552.2.2.1, rfl⟩
theorem dL_law_556 : Dc mL_law 556 (.iaload) 1 557 := ⟨k_dL_law_552.2.2.2.1, rfl⟩
theorem dL_law_557 : Dc mL_law 557 (.aload_n 0) 1 558 := ⟨k_dL_law_552.2.2.2.2.1, rfl⟩
theorem dL_law_558 : Dc mL_law 558 (.iload 4) 2 560 := ⟨k_dL_law_552.2.2.2.2.2, rfl⟩
theorem k_dL_law_560 : decode (mL_law).2.1 560 = .ok ((.iconst 3), 1) ∧ decode (mL_law).2.1 561 = .ok ((.iadd), 1) ∧ decode (mL_law).2.1 562 = .ok ((.iaload), 1) ∧ decode (mL_law).2.1 563 = .ok ((.invokevirtual 61), 3) ∧ decode (mL_law).2.1 566 = .ok ((.pop2), 1) ∧ decode (mL_law).2.1 567 = .ok ((.aload_n 2), 1) := by decide +kernel
theorem dL_law_560 : Dc mL_law 560 (.iconst 3) 1 561 := ⟨k_dL_law_560.1, rfl⟩
theorem dL_law_561 : Dc mL_law 561 (.iadd) 1 562 := ⟨k_dL_law_560.2.1, rfl⟩
theorem dL_law_562 : Dc mL_law 562 (.iaload) 1 563 := ⟨k_dL_law_560.2.2.1, rfl⟩
theorem dL_law_563 : Dc mL_law 563 (.invokevirtual 61) 3 566 := ⟨k_dL_law_560.2.2.2.1, rfl⟩
theorem dL_law_566 : Dc mL_law 566 (.pop2) 1 567 := ⟨k_dL_law_560.2.2.2.2.1, rfl⟩
theorem dL_law_567 : Dc mL_law 567 (.aload_n 2) 1 568 := ⟨k_dL_law_560.2.2.2.2.2, rfl⟩
theorem k_dL_law_568 : decode (mL_law).2.1 568 = .ok ((.aload_n 0), 1) ∧ decode (mL_law).2.1 569 = .ok ((.iload 4), 2) ∧ decode (mL_law).2.1 571 = .ok ((.iconst 1), 1) ∧ decode (mL_law).2.1 572 = .ok ((.iadd), 1) ∧ decode (mL_law).2.1 573 = .ok ((.iaload), 1) ∧ decode (mL_law).2.1 574 = .ok ((.aload_n 0), 1) := by decide +kernel
theorem dL_law_568 : Dc mL_law 568 (.aload_n 0) 1 569 := ⟨k_dL_law_568.1, rfl⟩
theorem dL_law_569 : Dc mL_law 569 (.iload 4) 2 571 := ⟨k_dL_law_568.2.1, rfl⟩
theorem dL_law_571 : Dc mL_law 571 (.iconst 1) 1 572 := ⟨k_dL_law_568.2.2.1, rfl⟩
theorem dL_law_572 : Dc mL_law 572 (.iadd) 1 573 := ⟨k_dL_law_568.2.2.2.1, rfl⟩
theorem dL_law_573 : Dc mL_law 573 (.iaload) 1 574 := ⟨k_dL_law_568.2.2.2.2.1, rfl⟩
theorem dL_law_574 : Dc mL_law 574 (.aload_n 0) 1 575 := ⟨k_dL_law_568.2.2.2.2.2, rfl⟩
theorem k_dL_law_575 : decode (mL_law).2.1 575 = .ok ((.iload 4), 2) ∧ decode (mL_law).2.1 577 = .ok ((.iconst 2), 1) ∧ decode (mL_law).2.1 578 = .ok ((.iadd), 1) ∧ decode (mL_law).2.1 579 = .ok ((.iaload), 1) ∧ decode (mL_law).2.1 580 = .ok ((.aload_n 0), 1) ∧ decode (mL_law).2.1 581 = .ok ((.iload 4), 2) := by decide +kernel
theorem dL_law_575 : Dc mL_law 575 (.iload 4) 2 577 := ⟨k_dL_law_575.1, rfl⟩
theorem dL_law_577 : Dc mL_law 577 (.iconst 2) 1 578 := ⟨k_dL_law_575.2.1, rfl⟩
theorem dL_law_578 : Dc mL_law 578 (.iadd) 1 579 := ⟨k_dL_law_575.2.2.1, rfl⟩
theorem dL_law_579 : Dc mL_law 579 (.iaload) 1 580 := ⟨k_dL_law_575.2.2.2.1, rfl⟩
theorem dL_law_580 : Dc mL_law 580 (.aload_n 0) 1 581 := ⟨k_dL_law_575.2.2.2.2.1, rfl⟩
theorem dL_law_581 : Dc mL_law 581 (.iload 4) 2 583 := ⟨k_dL_law_575.2.2.2.2.2, rfl⟩
theorem k_dL_law_583 : decode (mL_law).2.1 583 = .ok ((.iconst 3), 1) ∧ decode (mL_law).2.1 584 = .ok ((.iadd), 1) ∧ decode (mL_law).2.1 585 = .ok ((.iaload), 1) ∧ decode (mL_law).2.1 586 = .ok ((.invokevirtual 65), 3) ∧ decode (mL_law).2.1 589 = .ok ((.pop2), 1) ∧ decode (mL_law).2.1 590 = .ok ((.goto 791), 3) := by decide +kernel
theorem dL_law_583 : Dc mL_law 583 (.iconst 3) 1 584 := ⟨k_dL_law_583.1, rfl⟩
theorem dL_law_584 : Dc mL_law 584 (.iadd) 1 585 := ⟨k_dL_law_583.2.1, rfl⟩
theorem dL_law_585 : Dc mL_law 585 (.iaload) 1 586 := ⟨k_dL_law_583.2.2.1, rfl⟩
theorem dL_law_586 : Dc mL_law 586 (.invokevirtual 65) 3 589 := ⟨k_dL_law_583.2.2.2.1, rfl⟩
theorem dL_law_589 : Dc mL_law 589 (.pop2) 1 590 := ⟨k_dL_law_583.2.2.2.2.1, rfl⟩
theorem dL_law_590 : Dc mL_law 590 (.goto 791) 3 593 := ⟨k_dL_law_583.2.2.2.2.2, rfl⟩
theorem k_dL_law_593 : decode (mL_law).2.1 593 = .ok ((.aload_n 1), 1) ∧ decode (mL_law).2.1 594 = .ok ((.aload_n 0), 1) ∧ decode (mL_law).2.1 595 = .ok ((.iload 4), 2) ∧ decode (mL_law).2.1 597 = .ok ((.iconst 1), 1) ∧ decode (mL_law).2.1 598 = .ok ((.iadd), 1) ∧ decode (mL_law).2.1 599 = .ok ((.iaload), 1) := by decide +kernel
theorem dL_law_593 : Dc mL_law 593 (.aload_n 1) 1 594 := ⟨k_dL_law_593.1, rfl⟩
theorem dL_law_594 : Dc mL_law 594 (.aload_n 0) 1 595 := ⟨k_dL_law_593.2.1, rfl⟩
theorem dL_law_595 : Dc mL_law 595 (.iload 4) 2 597 := ⟨k_dL_law_593.2.2.1, rfl⟩
theorem dL_law_597 : Dc mL_law 597 (.iconst 1) 1 598 := ⟨k_dL_law_593.2.2.2.1, rfl⟩
theorem dL_law_598 : Dc mL_law 598 (.iadd) 1 599 := ⟨k_dL_law_593.2.2.2.2.1, rfl⟩
theorem dL_law_599 : Dc mL_law 599 (.iaload) 1 600 := ⟨k_dL_law_593.2.2.2.2.2, rfl⟩
theorem k_dL_law_600 : decode (mL_law).2.1 600 = .ok ((.aload_n 0), 1) ∧ decode (mL_law).2.1 601 = .ok ((.iload 4), 2) ∧ decode (mL_law).2.1 603 = .ok ((.iconst 2), 1) ∧ decode (mL_law).2.1 604 = .ok ((.iadd), 1) ∧ decode (mL_law).2.1 605 = .ok ((.iaload), 1) ∧ decode (mL_law).2.1 606 = .ok ((.invokevirtual 66), 3) := by decide +kernel
theorem dL_law_600 : Dc mL_law 600 (.aload_n 0) 1 601 := ⟨k_dL_law_600.1, rfl⟩
theorem dL_law_601 : Dc mL_law 601 (.iload 4) 2 603 := ⟨k_dL_law_600.2.1, rfl⟩
theorem dL_law_603 : Dc mL_law 603 (.iconst 2) 1 604 := ⟨k_dL_law_600.2.2.1, rfl⟩
theorem dL_law_604 : Dc mL_law 604 (.iadd) 1 605 := ⟨k_dL_law_600.2.2.2.1, rfl⟩
theorem dL_law_605 : Dc mL_law 605 (.iaload) 1 606 := ⟨k_dL_law_600.2.2.2.2.1, rfl⟩
theorem dL_law_606 : Dc mL_law 606 (.invokevirtual 66) 3 609 := ⟨k_dL_law_600.2.2.2.2.2, rfl⟩
theorem k_dL_law_609 : decode (mL_law).2.1 609 = .ok ((.pop), 1) ∧ decode (mL_law).2.1 610 = .ok ((.aload_n 2), 1) ∧ decode (mL_law).2.1 611 = .ok ((.aload_n 0), 1) ∧ decode (mL_law).2.1 612 = .ok ((.iload 4), 2) ∧ decode (mL_law).2.1 614 = .ok ((.iconst 1), 1) ∧ decode (mL_law).2.1 615 = .ok ((.iadd), 1) := by decide +kernel
theorem dL_law_609 : Dc mL_law 609 (.pop) 1 610 := ⟨k_dL_law_609.1, rfl⟩
theorem dL_law_610 : Dc mL_law 610 (.aload_n 2) 1 611 := ⟨k_dL_law_609.2.1, rfl⟩
theorem dL_law_611 : Dc mL_law 611 (.aload_n 0) 1 612 := ⟨k_dL_law_609.2.2.1, rfl⟩
theorem dL_law_612 : Dc mL_law 612 (.iload 4) 2 614 := ⟨k_dL_law_609.2.2.2.1, rfl⟩
theorem dL_law_614 : Dc mL_law 614 (.iconst 1) 1 615 := ⟨k_dL_law_609.2.2.2.2.1, rfl⟩
theorem dL_law_615 : Dc mL_law 615 (.iadd) 1 616 := ⟨k_dL_law_609.2.2.2.2.2, rfl⟩
theorem k_dL_law_616 : decode (mL_law).2.1 616 = .ok ((.iaload), 1) ∧ decode (mL_law).2.1 617 = .ok ((.aload_n 0), 1) ∧ decode (mL_law).2.1 618 = .ok ((.iload 4), 2) ∧ decode (mL_law).2.1 620 = .ok ((.iconst 2), 1) ∧ decode (mL_law).2.1 621 = .ok ((.iadd), 1) ∧ decode (mL_law).2.1 622 = .ok ((.iaload), 1) := by decide +kernel
theorem dL_law_616 : Dc mL_law 616 (.iaload) 1 617 := ⟨k_dL_law_616.1, rfl⟩
theorem dL_law_617 : Dc mL_law 617 (.aload_n 0) 1 618 := ⟨k_dL_law_616.2.1, rfl⟩
theorem dL_law_618 : Dc mL_law 618 (.iload 4) 2 620 := ⟨k_dL_law_616.2.2.1, rfl⟩
theorem dL_law_620 : Dc mL_law 620 (.iconst 2) 1 621 := ⟨k_dL_law_616.2.2.2.1, rfl⟩
theorem dL_law_621 : Dc mL_law 621 (.iadd) 1 622 := ⟨k_dL_law_616.2.2.2.2.1, rfl⟩
theorem dL_law_622 : Dc mL_law 622 (.iaload) 1 623 := ⟨k_dL_law_616.2.2.2.2.2, rfl⟩
theorem k_dL_law_623 : decode (mL_law).2.1 623 = .ok ((.invokevirtual 69), 3) ∧ decode (mL_law).2.1 626 = .ok ((.pop), 1) ∧ decode (mL_law).2.1 627 = .ok ((.goto 754), 3) ∧ decode (mL_law).2.1 630 = .ok ((.aload_n 1), 1) ∧ decode (mL_law).2.1 631 = .ok ((.aload_n 0), 1) ∧ decode (mL_law).2.1 632 = .ok ((.iload 4), 2) := by decide +kernel
theorem dL_law_623 : Dc mL_law 623 (.invokevirtual 69) 3 626 := ⟨k_dL_law_623.1, rfl⟩
theorem dL_law_626 : Dc mL_law 626 (.pop) 1 627 := ⟨k_dL_law_623.2.1, rfl⟩
theorem dL_law_627 : Dc mL_law 627 (.goto 754) 3 630 := ⟨k_dL_law_623.2.2.1, rfl⟩
theorem dL_law_630 : Dc mL_law 630 (.aload_n 1) 1 631 := ⟨k_dL_law_623.2.2.2.1, rfl⟩
theorem dL_law_631 : Dc mL_law 631 (.aload_n 0) 1 632 := ⟨k_dL_law_623.2.2.2.2.1, rfl⟩
theorem dL_law_632 : Dc mL_law 632 (.iload 4) 2 634 := ⟨k_dL_law_623.2.2.2.2.2, rfl⟩
theorem k_dL_law_634 : decode (mL_law).2.1 634 = .ok ((.iconst 1), 1) ∧ decode (mL_law).2.1 635 = .ok ((.iadd), 1) ∧ decode (mL_law).2.1 636 = .ok ((.iaload), 1) ∧ decode (mL_law).2.1 637 = .ok ((.aload_n 0), 1) ∧ decode (mL_law).2.1 638 = .ok ((.iload 4), 2) ∧ decode (mL_law).2.1 640 = .ok ((.iconst 2), 1) := by decide +kernel
theorem dL_law_634 : Dc mL_law 634 (.iconst 1) 1 635 := ⟨k_dL_law_634.1, rfl⟩
theorem dL_law_635 : Dc mL_law 635 (.iadd) 1 636 := ⟨k_dL_law_634.2.1, rfl⟩
theorem dL_law_636 : Dc mL_law 636 (.iaload) 1 637 := ⟨k_dL_law_634.2.2.1, rfl⟩
theorem dL_law_637 : Dc mL_law 637 (.aload_n 0) 1 638 := ⟨k_dL_law_634.2.2.2.1, rfl⟩
theorem dL_law_638 : Dc mL_law 638 (.iload 4) 2 640 := ⟨k_dL_law_634.2.2.2.2.1, rfl⟩
theorem dL_law_640 : Dc mL_law 640 (.iconst 2) 1 641 := ⟨k_dL_law_634.2.2.2.2.2, rfl⟩
theorem k_dL_law_641 : decode (mL_law).2.1 641 = .ok ((.iadd), 1) ∧ decode (mL_law).2.1 642 = .ok ((.iaload), 1) ∧ decode (mL_law).2.1 643 = .ok ((.invokevirtual 70), 3) ∧ decode (mL_law).2.1 646 = .ok ((.aload_n 2), 1) ∧ decode (mL_law).2.1 647 = .ok ((.aload_n 0), 1) ∧ decode (mL_law).2.1 648 = .ok ((.iload 4), 2) := by decide +kernel
theorem dL_law_641 : Dc mL_law 641 (.iadd) 1 642 := ⟨k_dL_law_641.1, rfl⟩
theorem dL_law_642 : Dc mL_law 642 (.iaload) 1 643 := ⟨k_dL_law_641.2.1, rfl⟩
theorem dL_law_643 : Dc mL_law 643 (.invokevirtual 70) 3 646 := ⟨k_dL_law_641.2.2.1, rfl⟩
theorem dL_law_646 : Dc mL_law 646 (.aload_n 2) 1 647 := ⟨k_dL_law_641.2.2.2.1, rfl⟩
theorem dL_law_647 : Dc mL_law 647 (.aload_n 0) 1 648 := ⟨k_dL_law_641.2.2.2.2.1, rfl⟩
theorem dL_law_648 : Dc mL_law 648 (.iload 4) 2 650 := ⟨k_dL_law_641.2.2.2.2.2, rfl⟩
theorem k_dL_law_650 : decode (mL_law).2.1 650 = .ok ((.iconst 1), 1) ∧ decode (mL_law).2.1 651 = .ok ((.iadd), 1) ∧ decode (mL_law).2.1 652 = .ok ((.iaload), 1) ∧ decode (mL_law).2.1 653 = .ok ((.aload_n 0), 1) ∧ decode (mL_law).2.1 654 = .ok ((.iload 4), 2) ∧ decode (mL_law).2.1 656 = .ok ((.iconst 2), 1) := by decide +kernel
theorem dL_law_650 : Dc mL_law 650 (.iconst 1) 1 651 := ⟨k_dL_law_650.1, rfl⟩
theorem dL_law_651 : Dc mL_law 651 (.iadd) 1 652 := ⟨k_dL_law_650.2.1, rfl⟩
theorem dL_law_652 : Dc mL_law 652 (.iaload) 1 653 := ⟨k_dL_law_650.2.2.1, rfl⟩
theorem dL_law_653 : Dc mL_law 653 (.aload_n 0) 1 654 := ⟨k_dL_law_650.2.2.2.1, rfl⟩
theorem dL_law_654 : Dc mL_law 654 (.iload 4) 2 656 := ⟨k_dL_law_650.2.2.2.2.1, rfl⟩
theorem dL_law_656 : Dc mL_law 656 (.iconst 2) 1 657 := ⟨k_dL_law_650.2.2.2.2.2, rfl⟩
theorem k_dL_law_657 : decode (mL_law).2.1 657 = .ok ((.iadd), 1) ∧ decode (mL_law).2.1 658 = .ok ((.iaload), 1) ∧ decode (mL_law).2.1 659 = .ok ((.invokevirtual 74), 3) ∧ decode (mL_law).2.1 662 = .ok ((.if_icmp .eq 719), 3) ∧ decode (mL_law).2.1 665 = .ok ((.iconst 0), 1) ∧ decode (mL_law).2.1 666 = .ok ((.ireturn), 1) := by decide +kernel
theorem dL_law_657 : Dc mL_law 657 (.iadd) 1 658 := ⟨k_dL_law_657.1, rfl⟩
theorem dL_law_658 : Dc mL_law 658 (.iaload) 1 659 := ⟨k_dL_law_657.2.1, rfl⟩
theorem dL_law_659 : Dc mL_law 659 (.invokevirtual 74) 3 662 := ⟨k_dL_law_657.2.2.1, rfl⟩
theorem dL_law_662 : Dc mL_law 662 (.if_icmp .eq 719) 3 665 := ⟨k_dL_law_657.2.2.2.1, rfl⟩
theorem dL_law_665 : Dc mL_law 665 (.iconst 0) 1 666 := ⟨k_dL_law_657.2.2.2.2.1, rfl⟩
theorem dL_law_666 : Dc mL_law 666 (.ireturn) 1 667 := ⟨k_dL_law_657.2.2.2.2.2, rfl⟩
theorem k_dL_law_667 : decode (mL_law).2.1 667 = .ok ((.aload_n 1), 1) ∧ decode (mL_law).2.1 668 = .ok ((.aload_n 0), 1) ∧ decode (mL_law).2.1 669 = .ok ((.iload 4), 2) ∧ decode (mL_law).2.1 671 = .ok ((.iconst 1), 1) ∧ decode (mL_law).2.1 672 = .ok ((.iadd), 1) ∧ decode (mL_law).2.1 673 = .ok ((.iaload), 1) := by decide +kernel
theorem dL_law_667 : Dc mL_law 667 (.aload_n 1) 1 668 := ⟨k_dL_law_667.1, rfl⟩
theorem dL_law_668 : Dc mL_law 668 (.aload_n 0) 1 669 := ⟨k_dL_law_667.2.1, rfl⟩
theorem dL_law_669 : Dc mL_law 669 (.iload 4) 2 671 := ⟨k_dL_law_667.2.2.1, rfl⟩
theorem dL_law_671 : Dc mL_law 671 (.iconst 1) 1 672 := ⟨k_dL_law_667.2.2.2.1, rfl⟩
theorem dL_law_672 : Dc mL_law 672 (.iadd) 1 673 := ⟨k_dL_law_667.2.2.2.2.1, rfl⟩
theorem dL_law_673 : Dc mL_law 673 (.iaload) 1 674 := ⟨k_dL_law_667.2.2.2.2.2, rfl⟩
theorem k_dL_law_674 : decode (mL_law).2.1 674 = .ok ((.aload_n 0), 1) ∧ decode (mL_law).2.1 675 = .ok ((.iload 4), 2) ∧ decode (mL_law).2.1 677 = .ok ((.iconst 2), 1) ∧ decode (mL_law).2.1 678 = .ok ((.iadd), 1) ∧ decode (mL_law).2.1 679 = .ok ((.iaload), 1) ∧ decode (mL_law).2.1 680 = .ok ((.invokevirtual 75), 3) := by decide +kernel
theorem dL_law_674 : Dc mL_law 674 (.aload_n 0) 1 675 := ⟨k_dL_law_674.1, rfl⟩
theorem dL_law_675 : Dc mL_law 675 (.iload 4) 2 677 := ⟨k_dL_law_674.2.1, rfl⟩
theorem dL_law_677 : Dc mL_law 677 (.iconst 2) 1 678 := ⟨k_dL_law_674.2.2.1, rfl⟩
theorem dL_law_678 : Dc mL_law 678 (.iadd) 1 679 := ⟨k_dL_law_674.2.2.2.1, rfl⟩
theorem dL_law_679 : Dc mL_law 679 (.iaload) 1 680 := ⟨k_dL_law_674.2.2.2.2.1, rfl⟩
theorem dL_law_680 : Dc mL_law 680 (.invokevirtual 75) 3 683 := ⟨k_dL_law_674.2.2.2.2.2, rfl⟩
theorem k_dL_law_683 : decode (mL_law).2.1 683 = .ok ((.pop), 1) ∧ decode (mL_law).2.1 684 = .ok ((.aload_n 2), 1) ∧ decode (mL_law).2.1 685 = .ok ((.aload_n 0), 1) ∧ decode (mL_law).2.1 686 = .ok ((.iload 4), 2) ∧ decode (mL_law).2.1 688 = .ok ((.iconst 1), 1) ∧ decode (mL_law).2.1 689 = .ok ((.iadd), 1) := by decide +kernel
theorem dL_law_683 : Dc mL_law 683 (.pop) 1 684 := ⟨k_dL_law_683.1, rfl⟩
theorem dL_law_684 : Dc mL_law 684 (.aload_n 2) 1 685 := ⟨k_dL_law_683.2.1, rfl⟩
theorem dL_law_685 : Dc mL_law 685 (.aload_n 0) 1 686 := ⟨k_dL_law_683.2.2.1, rfl⟩
theorem dL_law_686 : Dc mL_law 686 (.iload 4) 2 688 := ⟨k_dL_law_683.2.2.2.1, rfl⟩
theorem dL_law_688 : Dc mL_law 688 (.iconst 1) 1 689 := ⟨k_dL_law_683.2.2.2.2.1, rfl⟩
theorem dL_law_689 : Dc mL_law 689 (.iadd) 1 690 := ⟨k_dL_law_683.2.2.2.2.2, rfl⟩
theorem k_dL_law_690 : decode (mL_law).2.1 690 = .ok ((.iaload), 1) ∧ decode (mL_law).2.1 691 = .ok ((.aload_n 0), 1) ∧ decode (mL_law).2.1 692 = .ok ((.iload 4), 2) ∧ decode (mL_law).2.1 694 = .ok ((.iconst 2), 1) ∧ decode (mL_law).2.1 695 = .ok ((.iadd), 1) ∧ decode (mL_law).2.1 696 = .ok ((.iaload), 1) := by decide +kernel
theorem dL_law_690 : Dc mL_law 690 (.iaload) 1 691 := ⟨k_dL_law_690.1, rfl⟩
theorem dL_law_691 : Dc mL_law 691 (.aload_n 0) 1 692 := ⟨k_dL_law_690.2.1, rfl⟩
theorem dL_law_692 : Dc mL_law 692 (.iload 4) 2 694 := ⟨k_dL_law_690.2.2.1, rfl⟩
theorem dL_law_694 : Dc mL_law 694 (.iconst 2) 1 695 := ⟨k_dL_law_690.2.2.2.1, rfl⟩
theorem dL_law_695 : Dc mL_law 695 (.iadd) 1 696 := ⟨k_dL_law_690.2.2.2.2.1, rfl⟩
theorem dL_law_696 : Dc mL_law 696 (.iaload) 1 697 := ⟨k_dL_law_690.2.2.2.2.2, rfl⟩
theorem k_dL_law_697 : decode (mL_law).2.1 697 = .ok ((.invokevirtual 78), 3) ∧ decode (mL_law).2.1 700 = .ok ((.pop), 1) ∧ decode (mL_law).2.1 701 = .ok ((.goto 680), 3) ∧ decode (mL_law).2.1 704 = .ok ((.aload_n 1), 1) ∧ decode (mL_law).2.1 705 = .ok ((.aload_n 0), 1) ∧ decode (mL_law).2.1 706 = .ok ((.iload 4), 2) := by decide +kernel
theorem dL_law_697 : Dc mL_law 697 (.invokevirtual 78) 3 700 := ⟨k_dL_law_697.1, rfl⟩
theorem dL_law_700 : Dc mL_law 700 (.pop) 1 701 := ⟨k_dL_law_697.2.1, rfl⟩
theorem dL_law_701 : Dc mL_law 701 (.goto 680) 3 704 := ⟨k_dL_law_697.2.2.1, rfl⟩
theorem dL_law_704 : Dc mL_law 704 (.aload_n 1) 1 705 := ⟨k_dL_law_697.2.2.2.1, rfl⟩
theorem dL_law_705 : Dc mL_law 705 (.aload_n 0) 1 706 := ⟨k_dL_law_697.2.2.2.2.1, rfl⟩
theorem dL_law_706 : Dc mL_law 706 (.iload 4) 2 708 := ⟨k_dL_law_697.2.2.2.2.2, rfl⟩
theorem k_dL_law_708 : decode (mL_law).2.1 708 = .ok ((.iconst 1), 1) ∧ decode (mL_law).2.1 709 = .ok ((.iadd), 1) ∧ decode (mL_law).2.1 710 = .ok ((.iaload), 1) ∧ decode (mL_law).2.1 711 = .ok ((.invokevirtual 79), 3) ∧ decode (mL_law).2.1 714 = .ok ((.pop), 1) ∧ decode (mL_law).2.1 715 = .ok ((.aload_n 2), 1) := by decide +kernel
theorem dL_law_708 : Dc mL_law 708 (.iconst 1) 1 709 := ⟨k_dL_law_708.1, rfl⟩
theorem dL_law_709 : Dc mL_law 709 (.iadd) 1 710 := ⟨k_dL_law_708.2.1, rfl⟩
theorem dL_law_710 : Dc mL_law 710 (.iaload) 1 711 := ⟨k_dL_law_708.2.2.1, rfl⟩
theorem dL_law_711 : Dc mL_law 711 (.invokevirtual 79) 3 714 := ⟨k_dL_law_708.2.2.2.1, rfl⟩
theorem dL_law_714 : Dc mL_law 714 (.pop) 1 715 := ⟨k_dL_law_708.2.2.2.2.1, rfl⟩
theorem dL_law_715 : Dc mL_law 715 (.aload_n 2) 1 716 := ⟨k_dL_law_708.2.2.2.2.2, rfl⟩
theorem k_dL_law_716 : decode (mL_law).2.1 716 = .ok ((.aload_n 0), 1) ∧ decode (mL_law).2.1 717 = .ok ((.iload 4), 2) ∧ decode (mL_law).2.1 719 = .ok ((.iconst 1), 1) ∧ decode (mL_law).2.1 720 = .ok ((.iadd), 1) ∧ decode (mL_law).2.1 721 = .ok ((.iaload), 1) ∧ decode (mL_law).2.1 722 = .ok ((.invokevirtual 83), 3) := by decide +kernel
theorem dL_law_716 : Dc mL_law 716 (.aload_n 0) 1 717 := ⟨k_dL_law_716.1, rfl⟩
theorem dL_law_717 : Dc mL_law 717 (.iload 4) 2 719 := ⟨k_dL_law_716.2.1, rfl⟩
theorem dL_law_719 : Dc mL_law 719 (.iconst 1) 1 720 := ⟨k_dL_law_716.2.2.1, rfl⟩
theorem dL_law_720 : Dc mL_law 720 (.iadd) 1 721 := ⟨k_dL_law_716.2.2.2.1, rfl⟩
theorem dL_law_721 : Dc mL_law 721 (.iaload) 1 722 := ⟨k_dL_law_716.2.2.2.2.1, rfl⟩
theorem dL_law_722 : Dc mL_law 722 (.invokevirtual 83) 3 725 := ⟨k_dL_law_716.2.2.2.2.2, rfl⟩
theorem k_dL_law_725 : decode (mL_law).2.1 725 = .ok ((.pop), 1) ∧ decode (mL_law).2.1 726 = .ok ((.goto 655), 3) ∧ decode (mL_law).2.1 729 = .ok ((.aload_n 1), 1) ∧ decode (mL_law).2.1 730 = .ok ((.aload_n 0), 1) ∧ decode (mL_law).2.1 731 = .ok ((.iload 4), 2) ∧ decode (mL_law).2.1 733 = .ok ((.iconst 1), 1) := by decide +kernel
theorem dL_law_725 : Dc mL_law 725 (.pop) 1 726 := ⟨k_dL_law_725.1, rfl⟩
theorem dL_law_726 : Dc mL_law 726 (.goto 655) 3 729 := ⟨k_dL_law_725.2.1, rfl⟩
theorem dL_law_729 : Dc mL_law 729 (.aload_n 1) 1 730 := ⟨k_dL_law_725.2.2.1, rfl⟩
theorem dL_law_730 : Dc mL_law 730 (.aload_n 0) 1 731 := ⟨k_dL_law_725.2.2.2.1, rfl⟩
theorem dL_law_731 : Dc mL_law 731 (.iload 4) 2 733 := ⟨k_dL_law_725.2.2.2.2.1, rfl⟩
theorem dL_law_733 : Dc mL_law 733 (.iconst 1) 1 734 := ⟨k_dL_law_725.2.2.2.2.2, rfl⟩
theorem k_dL_law_734 : decode (mL_law).2.1 734 = .ok ((.iadd), 1) ∧ decode (mL_law).2.1 735 = .ok ((.iaload), 1) ∧ decode (mL_law).2.1 736 = .ok ((.invokevirtual 84), 3) ∧ decode (mL_law).2.1 739 = .ok ((.pop), 1) ∧ decode (mL_law).2.1 740 = .ok ((.aload_n 2), 1) ∧ decode (mL_law).2.1 741 = .ok ((.aload_n 0), 1) := by decide +kernel
theorem dL_law_734 : Dc mL_law 734 (.iadd) 1 735 := ⟨k_dL_law_734.1, rfl⟩
theorem dL_law_735 : Dc mL_law 735 (.iaload) 1 736 := ⟨k_dL_law_734.2.1, rfl⟩
theorem dL_law_736 : Dc mL_law 736 (.invokevirtual 84) 3 739 := ⟨k_dL_law_734.2.2.1, rfl⟩
theorem dL_law_739 : Dc mL_law 739 (.pop) 1 740 := ⟨k_dL_law_734.2.2.2.1, rfl⟩
theorem dL_law_740 : Dc mL_law 740 (.aload_n 2) 1 741 := ⟨k_dL_law_734.2.2.2.2.1, rfl⟩
theorem dL_law_741 : Dc mL_law 741 (.aload_n 0) 1 742 := ⟨k_dL_law_734.2.2.2.2.2, rfl⟩
theorem k_dL_law_742 : decode (mL_law).2.1 742 = .ok ((.iload 4), 2) ∧ decode (mL_law).2.1 744 = .ok ((.iconst 1), 1) ∧ decode (mL_law).2.1 745 = .ok ((.iadd), 1) ∧ decode (mL_law).2.1 746 = .ok ((.iaload), 1) ∧ decode (mL_law).2.1 747 = .ok ((.invokevirtual 87), 3) ∧ decode (mL_law).2.1 750 = .ok ((.pop), 1) := by decide +kernel
theorem dL_law_742 : Dc mL_law 742 (.iload 4) 2 744 := ⟨k_dL_law_742.1, rfl⟩
theorem dL_law_744 : Dc mL_law 744 (.iconst 1) 1 745 := ⟨k_dL_law_742.2.1, rfl⟩
theorem dL_law_745 : Dc mL_law 745 (.iadd) 1 746 := ⟨k_dL_law_742.2.2.1, rfl⟩
theorem dL_law_746 : Dc mL_law 746 (.iaload) 1 747 := ⟨k_dL_law_742.2.2.2.1, rfl⟩
theorem dL_law_747 : Dc mL_law 747 (.invokevirtual 87) 3 750 := ⟨k_dL_law_742.2.2.2.2.1, rfl⟩
theorem dL_law_750 : Dc mL_law 750 (.pop) 1 751 := ⟨k_dL_law_742.2.2.2.2.2, rfl⟩
theorem k_dL_law_751 : decode (mL_law).2.1 751 = .ok ((.goto 630), 3) ∧ decode (mL_law).2.1 754 = .ok ((.aload_n 1), 1) ∧ decode (mL_law).2.1 755 = .ok ((.aload_n 0), 1) ∧ decode (mL_law).2.1 756 = .ok ((.iload 4), 2) ∧ decode (mL_law).2.1 758 = .ok ((.iconst 1), 1) ∧ decode (mL_law).2.1 759 = .ok ((.iadd), 1) := by decide +kernel
theorem dL_law_751 : Dc mL_law 751 (.goto 630) 3 754 := ⟨k_dL_law_751.1, rfl⟩
theorem dL_law_754 : Dc mL_law 754 (.aload_n 1) 1 755 := ⟨k_dL_law_751.2.1, rfl⟩
theorem dL_law_755 : Dc mL_law 755 (.aload_n 0) 1 756 := ⟨k_dL_law_751.2.2.1, rfl⟩
theorem dL_law_756 : Dc mL_law 756 (.iload 4) 2 758 := ⟨k_dL_law_751.2.2.2.1, rfl⟩
theorem dL_law_758 : Dc mL_law 758 (.iconst 1) 1 759 := ⟨k_dL_law_751.2.2.2.2.1, rfl⟩
theorem dL_law_759 : Dc mL_law 759 (.iadd) 1 760 := ⟨k_dL_law_751.2.2.2.2.2, rfl⟩
theorem k_dL_law_760 : decode (mL_law).2.1 760 = .ok ((.iaload), 1) ∧ decode (mL_law).2.1 761 = .ok ((.aload_n 0), 1) ∧ decode (mL_law).2.1 762 = .ok ((.iload 4), 2) ∧ decode (mL_law).2.1 764 = .ok ((.iconst 2), 1) ∧ decode (mL_law).2.1 765 = .ok ((.iadd), 1) ∧ decode (mL_law).2.1 766 = .ok ((.iaload), 1) := by decide +kernel
theorem dL_law_760 : Dc mL_law 760 (.iaload) 1 761 := ⟨k_dL_law_760.1, rfl⟩
theorem dL_law_761 : Dc mL_law 761 (.aload_n 0) 1 762 := ⟨k_dL_law_760.2.1, rfl⟩
theorem dL_law_762 : Dc mL_law 762 (.iload 4) 2 764 := ⟨k_dL_law_760.2.2.1, rfl⟩
theorem dL_law_764 : Dc mL_law 764 (.iconst 2) 1 765 := ⟨k_dL_law_760.2.2.2.1, rfl⟩
theorem dL_law_765 : Dc mL_law 765 (.iadd) 1 766 := ⟨k_dL_law_760.2.2.2.2.1, rfl⟩
theorem dL_law_766 : Dc mL_law 766 (.iaload) 1 767 := ⟨k_dL_law_760.2.2.2.2.2, rfl⟩
theorem k_dL_law_767 : decode (mL_law).2.1 767 = .ok ((.invokevirtual 88), 3) ∧ decode (mL_law).2.1 770 = .ok ((.pop), 1) ∧ decode (mL_law).2.1 771 = .ok ((.aload_n 2), 1) ∧ decode (mL_law).2.1 772 = .ok ((.aload_n 0), 1) ∧ decode (mL_law).2.1 773 = .ok ((.iload 4), 2) ∧ decode (mL_law).2.1 775 = .ok ((.iconst 1), 1) := by decide +kernel
theorem dL_law_767 : Dc mL_law 767 (.invokevirtual 88) 3 770 := ⟨k_dL_law_767.1, rfl⟩
theorem dL_law_770 : Dc mL_law 770 (.pop) 1 771 := ⟨k_dL_law_767.2.1, rfl⟩
theorem dL_law_771 : Dc mL_law 771 (.aload_n 2) 1 772 := ⟨k_dL_law_767.2.2.1, rfl⟩
theorem dL_law_772 : Dc mL_law 772 (.aload_n 0) 1 773 := ⟨k_dL_law_767.2.2.2.1, rfl⟩
theorem dL_law_773 : Dc mL_law 773 (.iload 4) 2 775 := ⟨k_dL_law_767.2.2.2.2.1, rfl⟩
theorem dL_law_775 : Dc mL_law 775 (.iconst 1) 1 776 := ⟨k_dL_law_767.2.2.2.2.2, rfl⟩
theorem k_dL_law_776 : decode (mL_law).2.1 776 = .ok ((.iadd), 1) ∧ decode (mL_law).2.1 777 = .ok ((.iaload), 1) ∧ decode (mL_law).2.1 778 = .ok ((.aload_n 0), 1) ∧ decode (mL_law).2.1 779 = .ok ((.iload 4), 2) ∧ decode (mL_law).2.1 781 = .ok ((.iconst 2), 1) ∧ decode (mL_law).2.1 782 = .ok ((.iadd), 1) := by decide +kernel
theorem dL_law_776 : Dc mL_law 776 (.iadd) 1 777 := ⟨k_dL_law_776.1, rfl⟩
theorem dL_law_777 : Dc mL_law 777 (.iaload) 1 778 := ⟨k_dL_law_776.2.1, rfl⟩
theorem dL_law_778 : Dc mL_law 778 (.aload_n 0) 1 779 := ⟨k_dL_law_776.2.2.1, rfl⟩
theorem dL_law_779 : Dc mL_law 779 (.iload 4) 2 781 := ⟨k_dL_law_776.2.2.2.1, rfl⟩
theorem dL_law_781 : Dc mL_law 781 (.iconst 2) 1 782 := ⟨k_dL_law_776.2.2.2.2.1, rfl⟩
theorem dL_law_782 : Dc mL_law 782 (.iadd) 1 783 := ⟨k_dL_law_776.2.2.2.2.2, rfl⟩
theorem k_dL_law_783 : decode (mL_law).2.1 783 = .ok ((.iaload), 1) ∧ decode (mL_law).2.1 784 = .ok ((.invokevirtual 91), 3) ∧ decode (mL_law).2.1 787 = .ok ((.pop), 1) ∧ decode (mL_law).2.1 788 = .ok ((.goto 593), 3) ∧ decode (mL_law).2.1 791 = .ok ((.aload_n 1), 1) ∧ decode (mL_law).2.1 792 = .ok ((.invokevirtual 92), 3) := by decide +kernel
theorem dL_law_783 : Dc mL_law 783 (.iaload) 1 784 := ⟨k_dL_law_783.1, rfl⟩
theorem dL_law_784 : Dc mL_law 784 (.invokevirtual 91) 3 787 := ⟨k_dL_law_783.2.1, rfl⟩
theorem dL_law_787 : Dc mL_law 787 (.pop) 1 788 := ⟨k_dL_law_783.2.2.1, rfl⟩
theorem dL_law_788 : Dc mL_law 788 (.goto 593) 3 791 := ⟨k_dL_law_783.2.2.2.1, rfl⟩
theorem dL_law_791 : Dc mL_law 791 (.aload_n 1) 1 792 := ⟨k_dL_law_783.2.2.2.2.1, rfl⟩
theorem dL_law_792 : Dc mL_law 792 (.invokevirtual 92) 3 795 := ⟨k_dL_law_783.2.2.2.2.2, rfl⟩
theorem k_dL_law_795 : decode (mL_law).2.1 795 = .ok ((.pop), 1) ∧ decode (mL_law).2.1 796 = .ok ((.aload_n 2), 1) ∧ decode (mL_law).2.1 797 = .ok ((.invokevirtual 96), 3) ∧ decode (mL_law).2.1 800 = .ok ((.pop), 1) ∧ decode (mL_law).2.1 801 = .ok ((.goto 580), 3) ∧ decode (mL_law).2.1 804 = .ok ((.aload_n 1), 1) := by decide +kernel
theorem dL_law_795 : Dc mL_law 795 (.pop) 1 796 := ⟨k_dL_law_795.1, rfl⟩
theorem dL_law_796 : Dc mL_law 796 (.aload_n 2) 1 797 := ⟨k_dL_law_795.2.1, rfl⟩
theorem dL_law_797 : Dc mL_law 797 (.invokevirtual 96) 3 800 := ⟨k_dL_law_795.2.2.1, rfl⟩
theorem dL_law_800 : Dc mL_law 800 (.pop) 1 801 := ⟨k_dL_law_795.2.2.2.1, rfl⟩
theorem dL_law_801 : Dc mL_law 801 (.goto 580) 3 804 := ⟨k_dL_law_795.2.2.2.2.1, rfl⟩
theorem dL_law_804 : Dc mL_law 804 (.aload_n 1) 1 805 := ⟨k_dL_law_795.2.2.2.2.2, rfl⟩
theorem k_dL_law_805 : decode (mL_law).2.1 805 = .ok ((.invokevirtual 97), 3) ∧ decode (mL_law).2.1 808 = .ok ((.pop), 1) ∧ decode (mL_law).2.1 809 = .ok ((.aload_n 2), 1) ∧ decode (mL_law).2.1 810 = .ok ((.invokevirtual 100), 3) ∧ decode (mL_law).2.1 813 = .ok ((.pop), 1) ∧ decode (mL_law).2.1 814 = .ok ((.goto 567), 3) := by decide +kernel
theorem dL_law_805 : Dc mL_law 805 (.invokevirtual 97) 3 808 := ⟨k_dL_law_805.1, rfl⟩
theorem dL_law_808 : Dc mL_law 808 (.pop) 1 809 := ⟨k_dL_law_805.2.1, rfl⟩
theorem dL_law_809 : Dc mL_law 809 (.aload_n 2) 1 810 := ⟨k_dL_law_805.2.2.1, rfl⟩
theorem dL_law_810 : Dc mL_law 810 (.invokevirtual 100) 3 813 := ⟨k_dL_law_805.2.2.2.1, rfl⟩
theorem dL_law_813 : Dc mL_law 813 (.pop) 1 814 := ⟨k_dL_law_805.2.2.2.2.1, rfl⟩
theorem dL_law_814 : Dc mL_law 814 (.goto 567) 3 817 := ⟨k_dL_law_805.2.2.2.2.2, rfl⟩
theorem k_dL_law_817 : decode (mL_law).2.1 817 = .ok ((.aload_n 1), 1) ∧ decode (mL_law).2.1 818 = .ok ((.aload_n 0), 1) ∧ decode (mL_law).2.1 819 = .ok ((.iload 4), 2) ∧ decode (mL_law).2.1 821 = .ok ((.iconst 1), 1) ∧ decode (mL_law).2.1 822 = .ok ((.iadd), 1) ∧ decode (mL_law).2.1 823 = .ok ((.iaload), 1) := by decide +kernel
theorem dL_law_817 : Dc mL_law 817 (.aload_n 1) 1 818 := ⟨k_dL_law_817.1, rfl⟩
theorem dL_law_818 : Dc mL_law 818 (.aload_n 0) 1 819 := ⟨k_dL_law_817.2.1, rfl⟩
theorem dL_law_819 : Dc mL_law 819 (.iload 4) 2 821 := ⟨k_dL_law_817.2.2.1, rfl⟩
theorem dL_law_821 : Dc mL_law 821 (.iconst 1) 1 822 := ⟨k_dL_law_817.2.2.2.1, rfl⟩
theorem dL_law_822 : Dc mL_law 822 (.iadd) 1 823 := ⟨k_dL_law_817.2.2.2.2.1, rfl⟩
theorem dL_law_823 : Dc mL_law 823 (.iaload) 1 824 := ⟨k_dL_law_817.2.2.2.2.2, rfl⟩
theorem k_dL_law_824 : decode (mL_law).2.1 824 = .ok ((.invokevirtual 101), 3) ∧ decode (mL_law).2.1 827 = .ok ((.pop), 1) ∧ decode (mL_law).2.1 828 = .ok ((.aload_n 2), 1) ∧ decode (mL_law).2.1 829 = .ok ((.aload_n 0), 1) ∧ decode (mL_law).2.1 830 = .ok ((.iload 4), 2) ∧ decode (mL_law).2.1 832 = .ok ((.iconst 1), 1) := by decide +kernel
theorem dL_law_824 : Dc mL_law 824 (.invokevirtual 101) 3 827 := ⟨k_dL_law_824.1, rfl⟩
theorem dL_law_827 : Dc mL_law 827 (.pop) 1 828 := ⟨k_dL_law_824.2.1, rfl⟩
theorem dL_law_828 : Dc mL_law 828 (.aload_n 2) 1 829 := ⟨k_dL_law_824.2.2.1, rfl⟩
theorem dL_law_829 : Dc mL_law 829 (.aload_n 0) 1 830 := ⟨k_dL_law_824.2.2.2.1, rfl⟩
theorem dL_law_830 : Dc mL_law 830 (.iload 4) 2 832 := ⟨k_dL_law_824.2.2.2.2.1, rfl⟩
theorem dL_law_832 : Dc mL_law 832 (.iconst 1) 1 833 := ⟨k_dL_law_824.2.2.2.2.2, rfl⟩
theorem k_dL_law_833 : decode (mL_law).2.1 833 = .ok ((.iadd), 1) ∧ decode (mL_law).2.1 834 = .ok ((.iaload), 1) ∧ decode (mL_law).2.1 835 = .ok ((.invokevirtual 104), 3) ∧ decode (mL_law).2.1 838 = .ok ((.pop), 1) ∧ decode (mL_law).2.1 839 = .ok ((.goto 542), 3) ∧ decode (mL_law).2.1 842 = .ok ((.aload_n 1), 1) := by decide +kernel
theorem dL_law_833 : Dc mL_law 833 (.iadd) 1 834 := ⟨k_dL_law_833.1, rfl⟩
theorem dL_law_834 : Dc mL_law 834 (.iaload) 1 835 := ⟨k_dL_law_833.2.1, rfl⟩
theorem dL_law_835 : Dc mL_law 835 (.invokevirtual 104) 3 838 := ⟨k_dL_law_833.2.2.1, rfl⟩
theorem dL_law_838 : Dc mL_law 838 (.pop) 1 839 := ⟨k_dL_law_833.2.2.2.1, rfl⟩
theorem dL_law_839 : Dc mL_law 839 (.goto 542) 3 842 := ⟨k_dL_law_833.2.2.2.2.1, rfl⟩
theorem dL_law_842 : Dc mL_law 842 (.aload_n 1) 1 843 := ⟨k_dL_law_833.2.2.2.2.2, rfl⟩
theorem k_dL_law_843 : decode (mL_law).2.1 843 = .ok ((.aload_n 0), 1) ∧ decode (mL_law).2.1 844 = .ok ((.iload 4), 2) ∧ decode (mL_law).2.1 846 = .ok ((.iconst 1), 1) ∧ decode (mL_law).2.1 847 = .ok ((.iadd), 1) ∧ decode (mL_law).2.1 848 = .ok ((.iaload), 1) ∧ decode (mL_law).2.1 849 = .ok ((.invokevirtual 105), 3) := by decide +kernel
theorem dL_law_843 : Dc mL_law 843 (.aload_n 0) 1 844 := ⟨k_dL_law_843.1, rfl⟩
theorem dL_law_844 : Dc mL_law 844 (.iload 4) 2 846 := ⟨k_dL_law_843.2.1, rfl⟩
theorem dL_law_846 : Dc mL_law 846 (.iconst 1) 1 847 := ⟨k_dL_law_843.2.2.1, rfl⟩
theorem dL_law_847 : Dc mL_law 847 (.iadd) 1 848 := ⟨k_dL_law_843.2.2.2.1, rfl⟩
theorem dL_law_848 : Dc mL_law 848 (.iaload) 1 849 := ⟨k_dL_law_843.2.2.2.2.1, rfl⟩
theorem dL_law_849 : Dc mL_law 849 (.invokevirtual 105) 3 852 := ⟨k_dL_law_843.2.2.2.2.2, rfl⟩
theorem k_dL_law_852 : decode (mL_law).2.1 852 = .ok ((.pop), 1) ∧ decode (mL_law).2.1 853 = .ok ((.aload_n 2), 1) ∧ decode (mL_law).2.1 854 = .ok ((.aload_n 0), 1) ∧ decode (mL_law).2.1 855 = .ok ((.iload 4), 2) ∧ decode (mL_law).2.1 857 = .ok ((.iconst 1), 1) ∧ decode (mL_law).2.1 858 = .ok ((.iadd), 1) := by decide +kernel
theorem dL_law_852 : Dc mL_law 852 (.pop) 1 853 := ⟨k_dL_law_852.1, rfl⟩
theorem dL_law_853 : Dc mL_law 853 (.aload_n 2) 1 854 := ⟨k_dL_law_852.2.1, rfl⟩
theorem dL_law_854 : Dc mL_law 854 (.aload_n 0) 1 855 := ⟨k_dL_law_852.2.2.1, rfl⟩
theorem dL_law_855 : Dc mL_law 855 (.iload 4) 2 857 := ⟨k_dL_law_852.2.2.2.1, rfl⟩
theorem dL_law_857 : Dc mL_law 857 (.iconst 1) 1 858 := ⟨k_dL_law_852.2.2.2.2.1, rfl⟩
theorem dL_law_858 : Dc mL_law 858 (.iadd) 1 859 := ⟨k_dL_law_852.2.2.2.2.2, rfl⟩
theorem k_dL_law_859 : decode (mL_law).2.1 859 = .ok ((.iaload), 1) ∧ decode (mL_law).2.1 860 = .ok ((.invokevirtual 108), 3) ∧ decode (mL_law).2.1 863 = .ok ((.pop), 1) ∧ decode (mL_law).2.1 864 = .ok ((.goto 517), 3) ∧ decode (mL_law).2.1 867 = .ok ((.aload_n 1), 1) ∧ decode (mL_law).2.1 868 = .ok ((.invokevirtual 109), 3) := by decide +kernel
theorem dL_law_859 : Dc mL_law 859 (.iaload) 1 860 := ⟨k_dL_law_859.1, rfl⟩
theorem dL_law_860 : Dc mL_law 860 (.invokevirtual 108) 3 863 := ⟨k_dL_law_859.2.1, rfl⟩
theorem dL_law_863 : Dc mL_law 863 (.pop) 1 864 := ⟨k_dL_law_859.2.2.1, rfl⟩
theorem dL_law_864 : Dc mL_law 864 (.goto 517) 3 867 := ⟨k_dL_law_859.2.2.2.1, rfl⟩
theorem dL_law_867 : Dc mL_law 867 (.aload_n 1) 1 868 := ⟨k_dL_law_859.2.2.2.2.1, rfl⟩
theorem dL_law_868 : Dc mL_law 868 (.invokevirtual 109) 3 871 := ⟨k_dL_law_859.2.2.2.2.2, rfl⟩
theorem k_dL_law_871 : decode (mL_law).2.1 871 = .ok ((.pop), 1) ∧ decode (mL_law).2.1 872 = .ok ((.aload_n 2), 1) ∧ decode (mL_law).2.1 873 = .ok ((.invokevirtual 112), 3) ∧ decode (mL_law).2.1 876 = .ok ((.pop), 1) ∧ decode (mL_law).2.1 877 = .ok ((.goto 504), 3) ∧ decode (mL_law).2.1 880 = .ok ((.aload_n 1), 1) := by decide +kernel
theorem dL_law_871 : Dc mL_law 871 (.pop) 1 872 := ⟨k_dL_law_871.1, rfl⟩
theorem dL_law_872 : Dc mL_law 872 (.aload_n 2) 1 873 := ⟨k_dL_law_871.2.1, rfl⟩
theorem dL_law_873 : Dc mL_law 873 (.invokevirtual 112) 3 876 := ⟨k_dL_law_871.2.2.1, rfl⟩
theorem dL_law_876 : Dc mL_law 876 (.pop) 1 877 := ⟨k_dL_law_871.2.2.2.1, rfl⟩
theorem dL_law_877 : Dc mL_law 877 (.goto 504) 3 880 := ⟨k_dL_law_871.2.2.2.2.1, rfl⟩
theorem dL_law_880 : Dc mL_law 880 (.aload_n 1) 1 881 := ⟨k_dL_law_871.2.2.2.2.2, rfl⟩
theorem k_dL_law_881 : decode (mL_law).2.1 881 = .ok ((.aload_n 0), 1) ∧ decode (mL_law).2.1 882 = .ok ((.iload 4), 2) ∧ decode (mL_law).2.1 884 = .ok ((.iconst 1), 1) ∧ decode (mL_law).2.1 885 = .ok ((.iadd), 1) ∧ decode (mL_law).2.1 886 = .ok ((.iaload), 1) ∧ decode (mL_law).2.1 887 = .ok ((.invokevirtual 113), 3) := by decide +kernel
theorem dL_law_881 : Dc mL_law 881 (.aload_n 0) 1 882 := ⟨k_dL_law_881.1, rfl⟩
theorem dL_law_882 : Dc mL_law 882 (.iload 4) 2 884 := ⟨k_dL_law_881.2.1, rfl⟩
theorem dL_law_884 : Dc mL_law 884 (.iconst 1) 1 885 := ⟨k_dL_law_881.2.2.1, rfl⟩
theorem dL_law_885 : Dc mL_law 885 (.iadd) 1 886 := ⟨k_dL_law_881.2.2.2.1, rfl⟩
theorem dL_law_886 : Dc mL_law 886 (.iaload) 1 887 := ⟨k_dL_law_881.2.2.2.2.1, rfl⟩
theorem dL_law_887 : Dc mL_law 887 (.invokevirtual 113) 3 890 := ⟨k_dL_law_881.2.2.2.2.2, rfl⟩
theorem k_dL_law_890 : decode (mL_law).2.1 890 = .ok ((.pop), 1) ∧ decode (mL_law).2.1 891 = .ok ((.aload_n 2), 1) ∧ decode (mL_law).2.1 892 = .ok ((.aload_n 0), 1) ∧ decode (mL_law).2.1 893 = .ok ((.iload 4), 2) ∧ decode (mL_law).2.1 895 = .ok ((.iconst 1), 1) ∧ decode (mL_law).2.1 896 = .ok ((.iadd), 1) := by decide +kernel
theorem dL_law_890 : Dc mL_law 890 (.pop) 1 891 := ⟨k_dL_law_890.1, rfl⟩
theorem dL_law_891 : Dc mL_law 891 (.aload_n 2) 1 892 := ⟨k_dL_law_890.2.1, rfl⟩
theorem dL_law_892 : Dc mL_law 892 (.aload_n 0) 1 893 := ⟨k_dL_law_890.2.2.1, rfl⟩
theorem dL_law_893 : Dc mL_law 893 (.iload 4) 2 895 := ⟨k_dL_law_890.2.2.2.1, rfl⟩
theorem dL_law_895 : Dc mL_law 895 (.iconst 1) 1 896 := ⟨k_dL_law_890.2.2.2.2.1, rfl⟩
theorem dL_law_896 : Dc mL_law 896 (.iadd) 1 897 := ⟨k_dL_law_890.2.2.2.2.2, rfl⟩
theorem k_dL_law_897 : decode (mL_law).2.1 897 = .ok ((.iaload), 1) ∧ decode (mL_law).2.1 898 = .ok ((.invokevirtual 116), 3) ∧ decode (mL_law).2.1 901 = .ok ((.pop), 1) ∧ decode (mL_law).2.1 902 = .ok ((.goto 479), 3) ∧ decode (mL_law).2.1 905 = .ok ((.aload_n 1), 1) ∧ decode (mL_law).2.1 906 = .ok ((.aload_n 0), 1) := by decide +kernel
theorem dL_law_897 : Dc mL_law 897 (.iaload) 1 898 := ⟨k_dL_law_897.1, rfl⟩
theorem dL_law_898 : Dc mL_law 898 (.invokevirtual 116) 3 901 := ⟨k_dL_law_897.2.1, rfl⟩
theorem dL_law_901 : Dc mL_law 901 (.pop) 1 902 := ⟨k_dL_law_897.2.2.1, rfl⟩
theorem dL_law_902 : Dc mL_law 902 (.goto 479) 3 905 := ⟨k_dL_law_897.2.2.2.1, rfl⟩
theorem dL_law_905 : Dc mL_law 905 (.aload_n 1) 1 906 := ⟨k_dL_law_897.2.2.2.2.1, rfl⟩
theorem dL_law_906 : Dc mL_law 906 (.aload_n 0) 1 907 := ⟨k_dL_law_897.2.2.2.2.2, rfl⟩
theorem k_dL_law_907 : decode (mL_law).2.1 907 = .ok ((.iload 4), 2) ∧ decode (mL_law).2.1 909 = .ok ((.iconst 1), 1) ∧ decode (mL_law).2.1 910 = .ok ((.iadd), 1) ∧ decode (mL_law).2.1 911 = .ok ((.iaload), 1) ∧ decode (mL_law).2.1 912 = .ok ((.aload_n 0), 1) ∧ decode (mL_law).2.1 913 = .ok ((.iload 4), 2) := by decide +kernel
theorem dL_law_907 : Dc mL_law 907 (.iload 4) 2 909 := ⟨k_dL_law_907.1, rfl⟩
theorem dL_law_909 : Dc mL_law 909 (.iconst 1) 1 910 := ⟨k_dL_law_907.2.1, rfl⟩
theorem dL_law_910 : Dc mL_law 910 (.iadd) 1 911 := ⟨k_dL_law_907.2.2.1, rfl⟩
theorem dL_law_911 : Dc mL_law 911 (.iaload) 1 912 := ⟨k_dL_law_907.2.2.2.1, rfl⟩
theorem dL_law_912 : Dc mL_law 912 (.aload_n 0) 1 913 := ⟨k_dL_law_907.2.2.2.2.1, rfl⟩
theorem dL_law_913 : Dc mL_law 913 (.iload 4) 2 915 := ⟨k_dL_law_907.2.2.2.2.2, rfl⟩
theorem k_dL_law_915 : decode (mL_law).2.1 915 = .ok ((.iconst 2), 1) ∧ decode (mL_law).2.1 916 = .ok ((.iadd), 1) ∧ decode (mL_law).2.1 917 = .ok ((.iaload), 1) ∧ decode (mL_law).2.1 918 = .ok ((.invokevirtual 117), 3) ∧ decode (mL_law).2.1 921 = .ok ((.pop), 1) ∧ decode (mL_law).2.1 922 = .ok ((.aload_n 2), 1) := by decide +kernel
theorem dL_law_915 : Dc mL_law 915 (.iconst 2) 1 916 := ⟨k_dL_law_915.1, rfl⟩
theorem dL_law_916 : Dc mL_law 916 (.iadd) 1 917 := ⟨k_dL_law_915.2.1, rfl⟩
theorem dL_law_917 : Dc mL_law 917 (.iaload) 1 918 := ⟨k_dL_law_915.2.2.1, rfl⟩
theorem dL_law_918 : Dc mL_law 918 (.invokevirtual 117) 3 921 := ⟨k_dL_law_915.2.2.2.1, rfl⟩
theorem dL_law_921 : Dc mL_law 921 (.pop) 1 922 := ⟨k_dL_law_915.2.2.2.2.1, rfl⟩
theorem dL_law_922 : Dc mL_law 922 (.aload_n 2) 1 923 := ⟨k_dL_law_915.2.2.2.2.2, rfl⟩
theorem k_dL_law_923 : decode (mL_law).2.1 923 = .ok ((.aload_n 0), 1) ∧ decode (mL_law).2.1 924 = .ok ((.iload 4), 2) ∧ decode (mL_law).2.1 926 = .ok ((.iconst 1), 1) ∧ decode (mL_law).2.1 927 = .ok ((.iadd), 1) ∧ decode (mL_law).2.1 928 = .ok ((.iaload), 1) ∧ decode (mL_law).2.1 929 = .ok ((.aload_n 0), 1) := by decide +kernel
theorem dL_law_923 : Dc mL_law 923 (.aload_n 0) 1 924 := ⟨k_dL_law_923.1, rfl⟩
theorem dL_law_924 : Dc mL_law 924 (.iload 4) 2 926 := ⟨k_dL_law_923.2.1, rfl⟩
theorem dL_law_926 : Dc mL_law 926 (.iconst 1) 1 927 := ⟨k_dL_law_923.2.2.1, rfl⟩
theorem dL_law_927 : Dc mL_law 927 (.iadd) 1 928 := ⟨k_dL_law_923.2.2.2.1, rfl⟩
theorem dL_law_928 : Dc mL_law 928 (.iaload) 1 929 := ⟨k_dL_law_923.2.2.2.2.1, rfl⟩
theorem dL_law_929 : Dc mL_law 929 (.aload_n 0) 1 930 := ⟨k_dL_law_923.2.2.2.2.2, rfl⟩
theorem k_dL_law_930 : decode (mL_law).2.1 930 = .ok ((.iload 4), 2) ∧ decode (mL_law).2.1 932 = .ok ((.iconst 2), 1) ∧ decode (mL_law).2.1 933 = .ok ((.iadd), 1) ∧ decode (mL_law).2.1 934 = .ok ((.iaload), 1) ∧ decode (mL_law).2.1 935 = .ok ((.invokevirtual 120), 3) ∧ decode (mL_law).2.1 938 = .ok ((.pop), 1) := by decide +kernel
theorem dL_law_930 : Dc mL_law 930 (.iload 4) 2 932 := ⟨k_dL_law_930.1, rfl⟩
theorem dL_law_932 : Dc mL_law 932 (.iconst 2) 1 933 := ⟨k_dL_law_930.2.1, rfl⟩
theorem dL_law_933 : Dc mL_law 933 (.iadd) 1 934 := ⟨k_dL_law_930.2.2.1, rfl⟩
theorem dL_law_934 : Dc mL_law 934 (.iaload) 1 935 := ⟨k_dL_law_930.2.2.2.1, rfl⟩
theorem dL_law_935 : Dc mL_law 935 (.invokevirtual 120) 3 938 := ⟨k_dL_law_930.2.2.2.2.1, rfl⟩
theorem dL_law_938 : Dc mL_law 938 (.pop) 1 939 := ⟨k_dL_law_930.2.2.2.2.2, rfl⟩
theorem k_dL_law_939 : decode (mL_law).2.1 939 = .ok ((.goto 442), 3) ∧ decode (mL_law).2.1 942 = .ok ((.aload_n 1), 1) ∧ decode (mL_law).2.1 943 = .ok ((.aload_n 0), 1) ∧ decode (mL_law).2.1 944 = .ok ((.iload 4), 2) ∧ decode (mL_law).2.1 946 = .ok ((.iconst 1), 1) ∧ decode (mL_law).2.1 947 = .ok ((.iadd), 1) := by decide +kernel
theorem dL_law_939 : Dc mL_law 939 (.goto 442) 3 942 := ⟨k_dL_law_939.1, rfl⟩
theorem dL_law_942 : Dc mL_law 942 (.aload_n 1) 1 943 := ⟨k_dL_law_939.2.1, rfl⟩
theorem dL_law_943 : Dc mL_law 943 (.aload_n 0) 1 944 := ⟨k_dL_law_939.2.2.1, rfl⟩
theorem dL_law_944 : Dc mL_law 944 (.iload 4) 2 946 := ⟨k_dL_law_939.2.2.2.1, rfl⟩
theorem dL_law_946 : Dc mL_law 946 (.iconst 1) 1 947 := ⟨k_dL_law_939.2.2.2.2.1, rfl⟩
theorem dL_law_947 : Dc mL_law 947 (.iadd) 1 948 := ⟨k_dL_law_939.2.2.2.2.2, rfl⟩
theorem k_dL_law_948 : decode (mL_law).2.1 948 = .ok ((.iaload), 1) ∧ decode (mL_law).2.1 949 = .ok ((.aload_n 0), 1) ∧ decode (mL_law).2.1 950 = .ok ((.iload 4), 2) ∧ decode (mL_law).2.1 952 = .ok ((.iconst 2), 1) ∧ decode (mL_law).2.1 953 = .ok ((.iadd), 1) ∧ decode (mL_law).2.1 954 = .ok ((.iaload), 1) := by decide +kernel
theorem dL_law_948 : Dc mL_law 948 (.iaload) 1 949 := ⟨k_dL_law_948.1, rfl⟩
theorem dL_law_949 : Dc mL_law 949 (.aload_n 0) 1 950 := ⟨k_dL_law_948.2.1, rfl⟩
theorem dL_law_950 : Dc mL_law 950 (.iload 4) 2 952 := ⟨k_dL_law_948.2.2.1, rfl⟩
theorem dL_law_952 : Dc mL_law 952 (.iconst 2) 1 953 := ⟨k_dL_law_948.2.2.2.1, rfl⟩
theorem dL_law_953 : Dc mL_law 953 (.iadd) 1 954 := ⟨k_dL_law_948.2.2.2.2.1, rfl⟩
theorem dL_law_954 : Dc mL_law 954 (.iaload) 1 955 := ⟨k_dL_law_948.2.2.2.2.2, rfl⟩
theorem k_dL_law_955 : decode (mL_law).2.1 955 = .ok ((.aload_n 0), 1) ∧ decode (mL_law).2.1 956 = .ok ((.iload 4), 2) ∧ decode (mL_law).2.1 958 = .ok ((.iconst 3), 1) ∧ decode (mL_law).2.1 959 = .ok ((.iadd), 1) ∧ decode (mL_law).2.1 960 = .ok ((.iaload), 1) ∧ decode (mL_law).2.1 961 = .ok ((.invokevirtual 121), 3) := by decide +kernel
theorem dL_law_955 : Dc mL_law 955 (.aload_n 0) 1 956 := ⟨k_dL_law_955.1, rfl⟩
theorem dL_law_956 : Dc mL_law 956 (.iload 4) 2 958 := ⟨k_dL_law_955.2.1, rfl⟩
theorem dL_law_958 : Dc mL_law 958 (.iconst 3) 1 959 := ⟨k_dL_law_955.2.2.1, rfl⟩
theorem dL_law_959 : Dc mL_law 959 (.iadd) 1 960 := ⟨k_dL_law_955.2.2.2.1, rfl⟩
theorem dL_law_960 : Dc mL_law 960 (.iaload) 1 961 := ⟨k_dL_law_955.2.2.2.2.1, rfl⟩
theorem dL_law_961 : Dc mL_law 961 (.invokevirtual 121) 3 964 := ⟨k_dL_law_955.2.2.2.2.2, rfl⟩
theorem k_dL_law_964 : decode (mL_law).2.1 964 = .ok ((.pop), 1) ∧ decode (mL_law).2.1 965 = .ok ((.aload_n 2), 1) ∧ decode (mL_law).2.1 966 = .ok ((.aload_n 0), 1) ∧ decode (mL_law).2.1 967 = .ok ((.iload 4), 2) ∧ decode (mL_law).2.1 969 = .ok ((.iconst 1), 1) ∧ decode (mL_law).2.1 970 = .ok ((.iadd), 1) := by decide +kernel
theorem dL_law_964 : Dc mL_law 964 (.pop) 1 965 := ⟨k_dL_law_964.1, rfl⟩
theorem dL_law_965 : Dc mL_law 965 (.aload_n 2) 1 966 := ⟨k_dL_law_964.2.1, rfl⟩
theorem dL_law_966 : Dc mL_law 966 (.aload_n 0) 1 967 := ⟨k_dL_law_964.2.2.1, rfl⟩
theorem dL_law_967 : Dc mL_law 967 (.iload 4) 2 969 := ⟨k_dL_law_964.2.2.2.1, rfl⟩
theorem dL_law_969 : Dc mL_law 969 (.iconst 1) 1 970 := ⟨k_dL_law_964.2.2.2.2.1, rfl⟩
theorem dL_law_970 : Dc mL_law 970 (.iadd) 1 971 := ⟨k_dL_law_964.2.2.2.2.2, rfl⟩
theorem k_dL_law_971 : decode (mL_law).2.1 971 = .ok ((.iaload), 1) ∧ decode (mL_law).2.1 972 = .ok ((.aload_n 0), 1) ∧ decode (mL_law).2.1 973 = .ok ((.iload 4), 2) ∧ decode (mL_law).2.1 975 = .ok ((.iconst 2), 1) ∧ decode (mL_law).2.1 976 = .ok ((.iadd), 1) ∧ decode (mL_law).2.1 977 = .ok ((.iaload), 1) := by decide +kernel
theorem dL_law_971 : Dc mL_law 971 (.iaload) 1 972 := ⟨k_dL_law_971.1, rfl⟩
theorem dL_law_972 : Dc mL_law 972 (.aload_n 0) 1 973 := ⟨k_dL_law_971.2.1, rfl⟩
theorem dL_law_973 : Dc mL_law 973 (.iload 4) 2 975 := ⟨k_dL_law_971.2.2.1, rfl⟩
theorem dL_law_975 : Dc mL_law 975 (.iconst 2) 1 976 := ⟨k_dL_law_971.2.2.2.1, rfl⟩
theorem dL_law_976 : Dc mL_law 976 (.iadd) 1 977 := ⟨k_dL_law_971.2.2.2.2.1, rfl⟩
theorem dL_law_977 : Dc mL_law 977 (.iaload) 1 978 := ⟨k_dL_law_971.2.2.2.2.2, rfl⟩
theorem k_dL_law_978 : decode (mL_law).2.1 978 = .ok ((.aload_n 0), 1) ∧ decode (mL_law).2.1 979 = .ok ((.iload 4), 2) ∧ decode (mL_law).2.1 981 = .ok ((.iconst 3), 1) ∧ decode (mL_law).2.1 982 = .ok ((.iadd), 1) ∧ decode (mL_law).2.1 983 = .ok ((.iaload), 1) ∧ decode (mL_law).2.1 984 = .ok ((.invokevirtual 125), 3) := by decide +kernel
theorem dL_law_978 : Dc mL_law 978 (.aload_n 0) 1 979 := ⟨k_dL_law_978.1, rfl⟩
theorem dL_law_979 : Dc mL_law 979 (.iload 4) 2 981 := ⟨k_dL_law_978.2.1, rfl⟩
theorem dL_law_981 : Dc mL_law 981 (.iconst 3) 1 982 := ⟨k_dL_law_978.2.2.1, rfl⟩
theorem dL_law_982 : Dc mL_law 982 (.iadd) 1 983 := ⟨k_dL_law_978.2.2.2.1, rfl⟩
theorem dL_law_983 : Dc mL_law 983 (.iaload) 1 984 := ⟨k_dL_law_978.2.2.2.2.1, rfl⟩
theorem dL_law_984 : Dc mL_law 984 (.invokevirtual 125) 3 987 := ⟨k_dL_law_978.2.2.2.2.2, rfl⟩
theorem k_dL_law_987 : decode (mL_law).2.1 987 = .ok ((.pop), 1) ∧ decode (mL_law).2.1 988 = .ok ((.goto 393), 3) ∧ decode (mL_law).2.1 991 = .ok ((.aload_n 1), 1) ∧ decode (mL_law).2.1 992 = .ok ((.aload_n 0), 1) ∧ decode (mL_law).2.1 993 = .ok ((.iload 4), 2) ∧ decode (mL_law).2.1 995 = .ok ((.iconst 1), 1) := by decide +kernel
theorem dL_law_987 : Dc mL_law 987 (.pop) 1 988 := ⟨k_dL_law_987.1, rfl⟩
theorem dL_law_988 : Dc mL_law 988 (.goto 393) 3 991 := ⟨k_dL_law_987.2.1, rfl⟩
theorem dL_law_991 : Dc mL_law 991 (.aload_n 1) 1 992 := ⟨k_dL_law_987.2.2.1, rfl⟩
theorem dL_law_992 : Dc mL_law 992 (.aload_n 0) 1 993 := ⟨k_dL_law_987.2.2.2.1, rfl⟩
theorem dL_law_993 : Dc mL_law 993 (.iload 4) 2 995 := ⟨k_dL_law_987.2.2.2.2.1, rfl⟩
theorem dL_law_995 : Dc mL_law 995 (.iconst 1) 1 996 := ⟨k_dL_law_987.2.2.2.2.2, rfl⟩
theorem k_dL_law_996 : decode (mL_law).2.1 996 = .ok ((.iadd), 1) ∧ decode (mL_law).2.1 997 = .ok ((.iaload), 1) ∧ decode (mL_law).2.1 998 = .ok ((.aload_n 0), 1) ∧ decode (mL_law).2.1 999 = .ok ((.iload 4), 2) ∧ decode (mL_law).2.1 1001 = .ok ((.iconst 2), 1) ∧ decode (mL_law).2.1 1002 = .ok ((.iadd), 1) := by decide +kernel
theorem dL_law_996 : Dc mL_law 996 (.iadd) 1 997 := ⟨k_dL_law_996.1, rfl⟩
theorem dL_law_997 : Dc mL_law 997 (.iaload) 1 998 := ⟨k_dL_law_996.2.1, rfl⟩
theorem dL_law_998 : Dc mL_law 998 (.aload_n 0) 1 999 := ⟨k_dL_law_996.2.2.1, rfl⟩
theorem dL_law_999 : Dc mL_law 999 (.iload 4) 2 1001 := ⟨k_dL_law_996.2.2.2.1, rfl⟩
theorem dL_law_1001 : Dc mL_law 1001 (.iconst 2) 1 1002 := ⟨k_dL_law_996.2.2.2.2.1, rfl⟩
theorem dL_law_1002 : Dc mL_law 1002 (.iadd) 1 1003 := ⟨k_dL_law_996.2.2.2.2.2, rfl⟩
theorem k_dL_law_1003 : decode (mL_law).2.1 1003 = .ok ((.iaload), 1) ∧ decode (mL_law).2.1 1004 = .ok ((.invokevirtual 126), 3) ∧ decode (mL_law).2.1 1007 = .ok ((.pop2), 1) ∧ decode (mL_law).2.1 1008 = .ok ((.aload_n 2), 1) ∧ decode (mL_law).2.1 1009 = .ok ((.aload_n 0), 1) ∧ decode (mL_law).2.1 1010 = .ok ((.iload 4), 2) := by decide +kernel
theorem dL_law_1003 : Dc mL_law 1003 (.iaload) 1 1004 := ⟨k_dL_law_1003.1, rfl⟩
theorem dL_law_1004 : Dc mL_law 1004 (.invokevirtual 126) 3 1007 := ⟨k_dL_law_1003.2.1, rfl⟩
theorem dL_law_1007 : Dc mL_law 1007 (.pop2) 1 1008 := ⟨k_dL_law_1003.2.2.1, rfl⟩
theorem dL_law_1008 : Dc mL_law 1008 (.aload_n 2) 1 1009 := ⟨k_dL_law_1003.2.2.2.1, rfl⟩
theorem dL_law_1009 : Dc mL_law 1009 (.aload_n 0) 1 1010 := ⟨k_dL_law_1003.2.2.2.2.1, rfl⟩
theorem dL_law_1010 : Dc mL_law 1010 (.iload 4) 2 1012 := ⟨k_dL_law_1003.2.2.2.2.2, rfl⟩
theorem k_dL_law_1012 : decode (mL_law).2.1 1012 = .ok ((.iconst 1), 1) ∧ decode (mL_law).2.1 1013 = .ok ((.iadd), 1) ∧ decode (mL_law).2.1 1014 = .ok ((.iaload), 1) ∧ decode (mL_law).2.1 1015 = .ok ((.aload_n 0), 1) ∧ decode (mL_law).2.1 1016 = .ok ((.iload 4), 2) ∧ decode (mL_law).2.1 1018 = .ok ((.iconst 2), 1) := by decide +kernel
theorem dL_law_1012 : Dc mL_law 1012 (.iconst 1) 1 1013 := ⟨k_dL_law_1012.1, rfl⟩
theorem dL_law_1013 : Dc mL_law 1013 (.iadd) 1 1014 := ⟨k_dL_law_1012.2.1, rfl⟩
theorem dL_law_1014 : Dc mL_law 1014 (.iaload) 1 1015 := ⟨k_dL_law_1012.2.2.1, rfl⟩
theorem dL_law_1015 : Dc mL_law 1015 (.aload_n 0) 1 1016 := ⟨k_dL_law_1012.2.2.2.1, rfl⟩
theorem dL_law_1016 : Dc mL_law 1016 (.iload 4) 2 1018 := ⟨k_dL_law_1012.2.2.2.2.1, rfl⟩
theorem dL_law_1018 : Dc mL_law 1018 (.iconst 2) 1 1019 := ⟨k_dL_law_1012.2.2.2.2.2, rfl⟩
theorem k_dL_law_1019 : decode (mL_law).2.1 1019 = .ok ((.iadd), 1) ∧ decode (mL_law).2.1 1020 = .ok ((.iaload), 1) ∧ decode (mL_law).2.1 1021 = .ok ((.invokevirtual 130), 3) ∧ decode (mL_law).2.1 1024 = .ok ((.pop2), 1) ∧ decode (mL_law).2.1 1025 = .ok ((.goto 356), 3) ∧ decode (mL_law).2.1 1028 = .ok ((.aload_n 1), 1) := by decide +kernel
theorem dL_law_1019 : Dc mL_law 1019 (.iadd) 1 1020 := ⟨k_dL_law_1019.1, rfl⟩
theorem dL_law_1020 : Dc mL_law 1020 (.iaload) 1 1021 := ⟨k_dL_law_1019.2.1, rfl⟩
theorem dL_law_1021 : Dc mL_law 1021 (.invokevirtual 130) 3 1024 := ⟨k_dL_law_1019.2.2.1, rfl⟩
theorem dL_law_1024 : Dc mL_law 1024 (.pop2) 1 1025 := ⟨k_dL_law_1019.2.2.2.1, rfl⟩
theorem dL_law_1025 : Dc mL_law 1025 (.goto 356) 3 1028 := ⟨k_dL_law_1019.2.2.2.2.1, rfl⟩
theorem dL_law_1028 : Dc mL_law 1028 (.aload_n 1) 1 1029 := ⟨k_dL_law_1019.2.2.2.2.2, rfl⟩
theorem k_dL_law_1029 : decode (mL_law).2.1 1029 = .ok ((.aload_n 0), 1) ∧ decode (mL_law).2.1 1030 = .ok ((.iload 4), 2) ∧ decode (mL_law).2.1 1032 = .ok ((.iconst 1), 1) ∧ decode (mL_law).2.1 1033 = .ok ((.iadd), 1) ∧ decode (mL_law).2.1 1034 = .ok ((.iaload), 1) ∧ decode (mL_law).2.1 1035 = .ok ((.invokevirtual 131), 3) := by decide +kernel
theorem dL_law_1029 : Dc mL_law 1029 (.aload_n 0) 1 1030 := ⟨k_dL_law_1029.1, rfl⟩
theorem dL_law_1030 : Dc mL_law 1030 (.iload 4) 2 1032 := ⟨k_dL_law_1029.2.1, rfl⟩
theorem dL_law_1032 : Dc mL_law 1032 (.iconst 1) 1 1033 := ⟨k_dL_law_1029.2.2.1, rfl⟩
theorem dL_law_1033 : Dc mL_law 1033 (.iadd) 1 1034 := ⟨k_dL_law_1029.2.2.2.1, rfl⟩
theorem dL_law_1034 : Dc mL_law 1034 (.iaload) 1 1035 := ⟨k_dL_law_1029.2.2.2.2.1, rfl⟩
theorem dL_law_1035 : Dc mL_law 1035 (.invokevirtual 131) 3 1038 := ⟨k_dL_law_1029.2.2.2.2.2, rfl⟩
theorem k_dL_law_1038 : decode (mL_law).2.1 1038 = .ok ((.pop), 1) ∧ decode (mL_law).2.1 1039 = .ok ((.aload_n 2), 1) ∧ decode (mL_law).2.1 1040 = .ok ((.aload_n 0), 1) ∧ decode (mL_law).2.1 1041 = .ok ((.iload 4), 2) ∧ decode (mL_law).2.1 1043 = .ok ((.iconst 1), 1) ∧ decode (mL_law).2.1 1044 = .ok ((.iadd), 1) := by decide +kernel
theorem dL_law_1038 : Dc mL_law 1038 (.pop) 1 1039 := ⟨k_dL_law_1038.1, rfl⟩
theorem dL_law_1039 : Dc mL_law 1039 (.aload_n 2) 1 1040 := ⟨k_dL_law_1038.2.1, rfl⟩
theorem dL_law_1040 : Dc mL_law 1040 (.aload_n 0) 1 1041 := ⟨k_dL_law_1038.2.2.1, rfl⟩
theorem dL_law_1041 : Dc mL_law 1041 (.iload 4) 2 1043 := ⟨k_dL_law_1038.2.2.2.1, rfl⟩
theorem dL_law_1043 : Dc mL_law 1043 (.iconst 1) 1 1044 := ⟨k_dL_law_1038.2.2.2.2.1, rfl⟩
theorem dL_law_1044 : Dc mL_law 1044 (.iadd) 1 1045 := ⟨k_dL_law_1038.2.2.2.2.2, rfl⟩
theorem k_dL_law_1045 : decode (mL_law).2.1 1045 = .ok ((.iaload), 1) ∧ decode (mL_law).2.1 1046 = .ok ((.invokevirtual 134), 3) ∧ decode (mL_law).2.1 1049 = .ok ((.pop), 1) ∧ decode (mL_law).2.1 1050 = .ok ((.goto 331), 3) ∧ decode (mL_law).2.1 1053 = .ok ((.aload_n 1), 1) ∧ decode (mL_law).2.1 1054 = .ok ((.invokevirtual 135), 3) := by decide +kernel
theorem dL_law_1045 : Dc mL_law 1045 (.iaload) 1 1046 := ⟨k_dL_law_1045.1, rfl⟩
theorem dL_law_1046 : Dc mL_law 1046 (.invokevirtual 134) 3 1049 := ⟨k_dL_law_1045.2.1, rfl⟩
theorem dL_law_1049 : Dc mL_law 1049 (.pop) 1 1050 := ⟨k_dL_law_1045.2.2.1, rfl⟩
theorem dL_law_1050 : Dc mL_law 1050 (.goto 331) 3 1053 := ⟨k_dL_law_1045.2.2.2.1, rfl⟩
theorem dL_law_1053 : Dc mL_law 1053 (.aload_n 1) 1 1054 := ⟨k_dL_law_1045.2.2.2.2.1, rfl⟩
theorem dL_law_1054 : Dc mL_law 1054 (.invokevirtual 135) 3 1057 := ⟨k_dL_law_1045.2.2.2.2.2, rfl⟩
theorem k_dL_law_1057 : decode (mL_law).2.1 1057 = .ok ((.pop), 1) ∧ decode (mL_law).2.1 1058 = .ok ((.aload_n 2), 1) ∧ decode (mL_law).2.1 1059 = .ok ((.invokevirtual 138), 3) ∧ decode (mL_law).2.1 1062 = .ok ((.pop), 1) ∧ decode (mL_law).2.1 1063 = .ok ((.goto 318), 3) ∧ decode (mL_law).2.1 1066 = .ok ((.aload_n 1), 1) := by decide +kernel
theorem dL_law_1057 : Dc mL_law 1057 (.pop) 1 1058 := ⟨k_dL_law_1057.1, rfl⟩
theorem dL_law_1058 : Dc mL_law 1058 (.aload_n 2) 1 1059 := ⟨k_dL_law_1057.2.1, rfl⟩
theorem dL_law_1059 : Dc mL_law 1059 (.invokevirtual 138) 3 1062 := ⟨k_dL_law_1057.2.2.1, rfl⟩
theorem dL_law_1062 : Dc mL_law 1062 (.pop) 1 1063 := ⟨k_dL_law_1057.2.2.2.1, rfl⟩
theorem dL_law_1063 : Dc mL_law 1063 (.goto 318) 3 1066 := ⟨k_dL_law_1057.2.2.2.2.1, rfl⟩
theorem dL_law_1066 : Dc mL_law 1066 (.aload_n 1) 1 1067 := ⟨k_dL_law_1057.2.2.2.2.2, rfl⟩
theorem k_dL_law_1067 : decode (mL_law).2.1 1067 = .ok ((.invokevirtual 139), 3) ∧ decode (mL_law).2.1 1070 = .ok ((.pop), 1) ∧ decode (mL_law).2.1 1071 = .ok ((.aload_n 2), 1) ∧ decode (mL_law).2.1 1072 = .ok ((.invokevirtual 142), 3) ∧ decode (mL_law).2.1 1075 = .ok ((.pop), 1) ∧ decode (mL_law).2.1 1076 = .ok ((.goto 305), 3) := by decide +kernel
theorem dL_law_1067 : Dc mL_law 1067 (.invokevirtual 139) 3 1070 := ⟨k_dL_law_1067.1, rfl⟩
theorem dL_law_1070 : Dc mL_law 1070 (.pop) 1 1071 := ⟨k_dL_law_1067.2.1, rfl⟩
theorem dL_law_1071 : Dc mL_law 1071 (.aload_n 2) 1 1072 := ⟨k_dL_law_1067.2.2.1, rfl⟩
theorem dL_law_1072 : Dc mL_law 1072 (.invokevirtual 142) 3 1075 := ⟨k_dL_law_1067.2.2.2.1, rfl⟩
theorem dL_law_1075 : Dc mL_law 1075 (.pop) 1 1076 := ⟨k_dL_law_1067.2.2.2.2.1, rfl⟩
theorem dL_law_1076 : Dc mL_law 1076 (.goto 305) 3 1079 := ⟨k_dL_law_1067.2.2.2.2.2, rfl⟩
theorem k_dL_law_1079 : decode (mL_law).2.1 1079 = .ok ((.aload_n 1), 1) ∧ decode (mL_law).2.1 1080 = .ok ((.aload_n 0), 1) ∧ decode (mL_law).2.1 1081 = .ok ((.iload 4), 2) ∧ decode (mL_law).2.1 1083 = .ok ((.iconst 1), 1) ∧ decode (mL_law).2.1 1084 = .ok ((.iadd), 1) ∧ decode (mL_law).2.1 1085 = .ok ((.iaload), 1) := by decide +kernel
theorem dL_law_1079 : Dc mL_law 1079 (.aload_n 1) 1 1080 := ⟨k_dL_law_1079.1, rfl⟩
theorem dL_law_1080 : Dc mL_law 1080 (.aload_n 0) 1 1081 := ⟨k_dL_law_1079.2.1, rfl⟩
theorem dL_law_1081 : Dc mL_law 1081 (.iload 4) 2 1083 := ⟨k_dL_law_1079.2.2.1, rfl⟩
theorem dL_law_1083 : Dc mL_law 1083 (.iconst 1) 1 1084 := ⟨k_dL_law_1079.2.2.2.1, rfl⟩
theorem dL_law_1084 : Dc mL_law 1084 (.iadd) 1 1085 := ⟨k_dL_law_1079.2.2.2.2.1, rfl⟩
theorem dL_law_1085 : Dc mL_law 1085 (.iaload) 1 1086 := ⟨k_dL_law_1079.2.2.2.2.2, rfl⟩
theorem k_dL_law_1086 : decode (mL_law).2.1 1086 = .ok ((.aload_n 0), 1) ∧ decode (mL_law).2.1 1087 = .ok ((.iload 4), 2) ∧ decode (mL_law).2.1 1089 = .ok ((.iconst 2), 1) ∧ decode (mL_law).2.1 1090 = .ok ((.iadd), 1) ∧ decode (mL_law).2.1 1091 = .ok ((.iaload), 1) ∧ decode (mL_law).2.1 1092 = .ok ((.aload_n 0), 1) := by decide +kernel
theorem dL_law_1086 : Dc mL_law 1086 (.aload_n 0) 1 1087 := ⟨k_dL_law_1086.1, rfl⟩
theorem dL_law_1087 : Dc mL_law 1087 (.iload 4) 2 1089 := ⟨k_dL_law_1086.2.1, rfl⟩
theorem dL_law_1089 : Dc mL_law 1089 (.iconst 2) 1 1090 := ⟨k_dL_law_1086.2.2.1, rfl⟩
theorem dL_law_1090 : Dc mL_law 1090 (.iadd) 1 1091 := ⟨k_dL_law_1086.2.2.2.1, rfl⟩
theorem dL_law_1091 : Dc mL_law 1091 (.iaload) 1 1092 := ⟨k_dL_law_1086.2.2.2.2.1, rfl⟩
theorem dL_law_1092 : Dc mL_law 1092 (.aload_n 0) 1 1093 := ⟨k_dL_law_1086.2.2.2.2.2, rfl⟩
theorem k_dL_law_1093 : decode (mL_law).2.1 1093 = .ok ((.iload 4), 2) ∧ decode (mL_law).2.1 1095 = .ok ((.iconst 3), 1) ∧ decode (mL_law).2.1 1096 = .ok ((.iadd), 1) ∧ decode (mL_law).2.1 1097 = .ok ((.iaload), 1) ∧ decode (mL_law).2.1 1098 = .ok ((.ifCond .eq 7), 3) ∧ decode (mL_law).2.1 1101 = .ok ((.iconst 1), 1) := by decide +kernel
theorem dL_law_1093 : Dc mL_law 1093 (.iload 4) 2 1095 := ⟨k_dL_law_1093.1, rfl⟩
theorem dL_law_1095 : Dc mL_law 1095 (.iconst 3) 1 1096 := ⟨k_dL_law_1093.2.1, rfl⟩
theorem dL_law_1096 : Dc mL_law 1096 (.iadd) 1 1097 := ⟨k_dL_law_1093.2.2.1, rfl⟩
theorem dL_law_1097 : Dc mL_law 1097 (.iaload) 1 1098 := ⟨k_dL_law_1093.2.2.2.1, rfl⟩
theorem dL_law_1098 : Dc mL_law 1098 (.ifCond .eq 7) 3 1101 := ⟨k_dL_law_1093.2.2.2.2.1, rfl⟩
theorem dL_law_1101 : Dc mL_law 1101 (.iconst 1) 1 1102 := ⟨k_dL_law_1093.2.2.2.2.2, rfl⟩
theorem k_dL_law_1102 : decode (mL_law).2.1 1102 = .ok ((.goto 4), 3) ∧ decode (mL_law).2.1 1105 = .ok ((.iconst 0), 1) ∧ decode (mL_law).2.1 1106 = .ok ((.invokevirtual 143), 3) ∧ decode (mL_law).2.1 1109 = .ok ((.pop), 1) ∧ decode (mL_law).2.1 1110 = .ok ((.aload_n 2), 1) ∧ decode (mL_law).2.1 1111 = .ok ((.aload_n 0), 1) := by decide +kernel
theorem dL_law_1102 : Dc mL_law 1102 (.goto 4) 3 1105 := ⟨k_dL_law_1102.1, rfl⟩
theorem dL_law_1105 : Dc mL_law 1105 (.iconst 0) 1 1106 := ⟨k_dL_law_1102.2.1, rfl⟩
theorem dL_law_1106 : Dc mL_law 1106 (.invokevirtual 143) 3 1109 := ⟨k_dL_law_1102.2.2.1, rfl⟩
theorem dL_law_1109 : Dc mL_law 1109 (.pop) 1 1110 := ⟨k_dL_law_1102.2.2.2.1, rfl⟩
theorem dL_law_1110 : Dc mL_law 1110 (.aload_n 2) 1 1111 := ⟨k_dL_law_1102.2.2.2.2.1, rfl⟩
theorem dL_law_1111 : Dc mL_law 1111 (.aload_n 0) 1 1112 := ⟨k_dL_law_1102.2.2.2.2.2, rfl⟩
theorem k_dL_law_1112 : decode (mL_law).2.1 1112 = .ok ((.iload 4), 2) ∧ decode (mL_law).2.1 1114 = .ok ((.iconst 1), 1) ∧ decode (mL_law).2.1 1115 = .ok ((.iadd), 1) ∧ decode (mL_law).2.1 1116 = .ok ((.iaload), 1) ∧ decode (mL_law).2.1 1117 = .ok ((.aload_n 0), 1) ∧ decode (mL_law).2.1 1118 = .ok ((.iload 4), 2) := by decide +kernel
theorem dL_law_1112 : Dc mL_law 1112 (.iload 4) 2 1114 := ⟨k_dL_law_1112.1, rfl⟩
theorem dL_law_1114 : Dc mL_law 1114 (.iconst 1) 1 1115 := ⟨k_dL_law_1112.2.1, rfl⟩
theorem dL_law_1115 : Dc mL_law 1115 (.iadd) 1 1116 := ⟨k_dL_law_1112.2.2.1, rfl⟩
theorem dL_law_1116 : Dc mL_law 1116 (.iaload) 1 1117 := ⟨k_dL_law_1112.2.2.2.1, rfl⟩
theorem dL_law_1117 : Dc mL_law 1117 (.aload_n 0) 1 1118 := ⟨k_dL_law_1112.2.2.2.2.1, rfl⟩
theorem dL_law_1118 : Dc mL_law 1118 (.iload 4) 2 1120 := ⟨k_dL_law_1112.2.2.2.2.2, rfl⟩
theorem k_dL_law_1120 : decode (mL_law).2.1 1120 = .ok ((.iconst 2), 1) ∧ decode (mL_law).2.1 1121 = .ok ((.iadd), 1) ∧ decode (mL_law).2.1 1122 = .ok ((.iaload), 1) ∧ decode (mL_law).2.1 1123 = .ok ((.aload_n 0), 1) ∧ decode (mL_law).2.1 1124 = .ok ((.iload 4), 2) ∧ decode (mL_law).2.1 1126 = .ok ((.iconst 3), 1) := by decide +kernel
theorem dL_law_1120 : Dc mL_law 1120 (.iconst 2) 1 1121 := ⟨k_dL_law_1120.1, rfl⟩
theorem dL_law_1121 : Dc mL_law 1121 (.iadd) 1 1122 := ⟨k_dL_law_1120.2.1, rfl⟩
theorem dL_law_1122 : Dc mL_law 1122 (.iaload) 1 1123 := ⟨k_dL_law_1120.2.2.1, rfl⟩
theorem dL_law_1123 : Dc mL_law 1123 (.aload_n 0) 1 1124 := ⟨k_dL_law_1120.2.2.2.1, rfl⟩
theorem dL_law_1124 : Dc mL_law 1124 (.iload 4) 2 1126 := ⟨k_dL_law_1120.2.2.2.2.1, rfl⟩
theorem dL_law_1126 : Dc mL_law 1126 (.iconst 3) 1 1127 := ⟨k_dL_law_1120.2.2.2.2.2, rfl⟩
theorem k_dL_law_1127 : decode (mL_law).2.1 1127 = .ok ((.iadd), 1) ∧ decode (mL_law).2.1 1128 = .ok ((.iaload), 1) ∧ decode (mL_law).2.1 1129 = .ok ((.ifCond .eq 7), 3) ∧ decode (mL_law).2.1 1132 = .ok ((.iconst 1), 1) ∧ decode (mL_law).2.1 1133 = .ok ((.goto 4), 3) ∧ decode (mL_law).2.1 1136 = .ok ((.iconst 0), 1) := by decide +kernel
theorem dL_law_1127 : Dc mL_law 1127 (.iadd) 1 1128 := ⟨k_dL_law_1127.1, rfl⟩
theorem dL_law_1128 : Dc mL_law 1128 (.iaload) 1 1129 := ⟨k_dL_law_1127.2.1, rfl⟩
theorem dL_law_1129 : Dc mL_law 1129 (.ifCond .eq 7) 3 1132 := ⟨k_dL_law_1127.2.2.1, rfl⟩
theorem dL_law_1132 : Dc mL_law 1132 (.iconst 1) 1 1133 := ⟨k_dL_law_1127.2.2.2.1, rfl⟩
theorem dL_law_1133 : Dc mL_law 1133 (.goto 4) 3 1136 := ⟨k_dL_law_1127.2.2.2.2.1, rfl⟩
theorem dL_law_1136 : Dc mL_law 1136 (.iconst 0) 1 1137 := ⟨k_dL_law_1127.2.2.2.2.2, rfl⟩
theorem k_dL_law_1137 : decode (mL_law).2.1 1137 = .ok ((.invokevirtual 147), 3) ∧ decode (mL_law).2.1 1140 = .ok ((.pop), 1) ∧ decode (mL_law).2.1 1141 = .ok ((.goto 240), 3) ∧ decode (mL_law).2.1 1144 = .ok ((.aload_n 1), 1) ∧ decode (mL_law).2.1 1145 = .ok ((.aload_n 0), 1) ∧ decode (mL_law).2.1 1146 = .ok ((.iload 4), 2) := by decide +kernel
theorem dL_law_1137 : Dc mL_law 1137 (.invokevirtual 147) 3 1140 := ⟨k_dL_law_1137.1, rfl⟩
theorem dL_law_1140 : Dc mL_law 1140 (.pop) 1 1141 := ⟨k_dL_law_1137.2.1, rfl⟩
theorem dL_law_1141 : Dc mL_law 1141 (.goto 240) 3 1144 := ⟨k_dL_law_1137.2.2.1, rfl⟩
theorem dL_law_1144 : Dc mL_law 1144 (.aload_n 1) 1 1145 := ⟨k_dL_law_1137.2.2.2.1, rfl⟩
theorem dL_law_1145 : Dc mL_law 1145 (.aload_n 0) 1 1146 := ⟨k_dL_law_1137.2.2.2.2.1, rfl⟩
theorem dL_law_1146 : Dc mL_law 1146 (.iload 4) 2 1148 := ⟨k_dL_law_1137.2.2.2.2.2, rfl⟩
theorem k_dL_law_1148 : decode (mL_law).2.1 1148 = .ok ((.iconst 1), 1) ∧ decode (mL_law).2.1 1149 = .ok ((.iadd), 1) ∧ decode (mL_law).2.1 1150 = .ok ((.iaload), 1) ∧ decode (mL_law).2.1 1151 = .ok ((.invokevirtual 148), 3) ∧ decode (mL_law).2.1 1154 = .ok ((.pop), 1) ∧ decode (mL_law).2.1 1155 = .ok ((.aload_n 2), 1) := by decide +kernel
theorem dL_law_1148 : Dc mL_law 1148 (.iconst 1) 1 1149 := ⟨k_dL_law_1148.1, rfl⟩
theorem dL_law_1149 : Dc mL_law 1149 (.iadd) 1 1150 := ⟨k_dL_law_1148.2.1, rfl⟩
theorem dL_law_1150 : Dc mL_law 1150 (.iaload) 1 1151 := ⟨k_dL_law_1148.2.2.1, rfl⟩
theorem dL_law_1151 : Dc mL_law 1151 (.invokevirtual 148) 3 1154 := ⟨k_dL_law_1148.2.2.2.1, rfl⟩
theorem dL_law_1154 : Dc mL_law 1154 (.pop) 1 1155 := ⟨k_dL_law_1148.2.2.2.2.1, rfl⟩
theorem dL_law_1155 : Dc mL_law 1155 (.aload_n 2) 1 1156 := ⟨k_dL_law_1148.2.2.2.2.2, rfl⟩
theorem k_dL_law_1156 : decode (mL_law).2.1 1156 = .ok ((.aload_n 0), 1) ∧ decode (mL_law).2.1 1157 = .ok ((.iload 4), 2) ∧ decode (mL_law).2.1 1159 = .ok ((.iconst 1), 1) ∧ decode (mL_law).2.1 1160 = .ok ((.iadd), 1) ∧ decode (mL_law).2.1 1161 = .ok ((.iaload), 1) ∧ decode (mL_law).2.1 1162 = .ok ((.invokevirtual 151), 3) := by decide +kernel
theorem dL_law_1156 : Dc mL_law 1156 (.aload_n 0) 1 1157 := ⟨k_dL_law_1156.1, rfl⟩
theorem dL_law_1157 : Dc mL_law 1157 (.iload 4) 2 1159 := ⟨k_dL_law_1156.2.1, rfl⟩
theorem dL_law_1159 : Dc mL_law 1159 (.iconst 1) 1 1160 := ⟨k_dL_law_1156.2.2.1, rfl⟩
theorem dL_law_1160 : Dc mL_law 1160 (.iadd) 1 1161 := ⟨k_dL_law_1156.2.2.2.1, rfl⟩
theorem dL_law_1161 : Dc mL_law 1161 (.iaload) 1 1162 := ⟨k_dL_law_1156.2.2.2.2.1, rfl⟩
theorem dL_law_1162 : Dc mL_law 1162 (.invokevirtual 151) 3 1165 := ⟨k_dL_law_1156.2.2.2.2.2, rfl⟩
theorem k_dL_law_1165 : decode (mL_law).2.1 1165 = .ok ((.pop), 1) ∧ decode (mL_law).2.1 1166 = .ok ((.goto 215), 3) ∧ decode (mL_law).2.1 1169 = .ok ((.aload_n 1), 1) ∧ decode (mL_law).2.1 1170 = .ok ((.aload_n 0), 1) ∧ decode (mL_law).2.1 1171 = .ok ((.iload 4), 2) ∧ decode (mL_law).2.1 1173 = .ok ((.iconst 1), 1) := by decide +kernel
theorem dL_law_1165 : Dc mL_law 1165 (.pop) 1 1166 := ⟨k_dL_law_1165.1, rfl⟩
theorem dL_law_1166 : Dc mL_law 1166 (.goto 215) 3 1169 := ⟨k_dL_law_1165.2.1, rfl⟩
theorem dL_law_1169 : Dc mL_law 1169 (.aload_n 1) 1 1170 := ⟨k_dL_law_1165.2.2.1, rfl⟩
theorem dL_law_1170 : Dc mL_law 1170 (.aload_n 0) 1 1171 := ⟨k_dL_law_1165.2.2.2.1, rfl⟩
theorem dL_law_1171 : Dc mL_law 1171 (.iload 4) 2 1173 := ⟨k_dL_law_1165.2.2.2.2.1, rfl⟩
theorem dL_law_1173 : Dc mL_law 1173 (.iconst 1) 1 1174 := ⟨k_dL_law_1165.2.2.2.2.2, rfl⟩
theorem k_dL_law_1174 : decode (mL_law).2.1 1174 = .ok ((.iadd), 1) ∧ decode (mL_law).2.1 1175 = .ok ((.iaload), 1) ∧ decode (mL_law).2.1 1176 = .ok ((.invokevirtual 152), 3) ∧ decode (mL_law).2.1 1179 = .ok ((.pop), 1) ∧ decode (mL_law).2.1 1180 = .ok ((.aload_n 2), 1) ∧ decode (mL_law).2.1 1181 = .ok ((.aload_n 0), 1) := by decide +kernel
theorem dL_law_1174 : Dc mL_law 1174 (.iadd) 1 1175 := ⟨k_dL_law_1174.1, rfl⟩
theorem dL_law_1175 : Dc mL_law 1175 (.iaload) 1 1176 := ⟨k_dL_law_1174.2.1, rfl⟩
theorem dL_law_1176 : Dc mL_law 1176 (.invokevirtual 152) 3 1179 := ⟨k_dL_law_1174.2.2.1, rfl⟩
theorem dL_law_1179 : Dc mL_law 1179 (.pop) 1 1180 := ⟨k_dL_law_1174.2.2.2.1, rfl⟩
theorem dL_law_1180 : Dc mL_law 1180 (.aload_n 2) 1 1181 := ⟨k_dL_law_1174.2.2.2.2.1, rfl⟩
theorem dL_law_1181 : Dc mL_law 1181 (.aload_n 0) 1 1182 := ⟨k_dL_law_1174.2.2.2.2.2, rfl⟩
theorem k_dL_law_1182 : decode (mL_law).2.1 1182 = .ok ((.iload 4), 2) ∧ decode (mL_law).2.1 1184 = .ok ((.iconst 1), 1) ∧ decode (mL_law).2.1 1185 = .ok ((.iadd), 1) ∧ decode (mL_law).2.1 1186 = .ok ((.iaload), 1) ∧ decode (mL_law).2.1 1187 = .ok ((.invokevirtual 155), 3) ∧ decode (mL_law).2.1 1190 = .ok ((.pop), 1) := by decide +kernel
theorem dL_law_1182 : Dc mL_law 1182 (.iload 4) 2 1184 := ⟨k_dL_law_1182.1, rfl⟩
theorem dL_law_1184 : Dc mL_law 1184 (.iconst 1) 1 1185 := ⟨k_dL_law_1182.2.1, rfl⟩
theorem dL_law_1185 : Dc mL_law 1185 (.iadd) 1 1186 := ⟨k_dL_law_1182.2.2.1, rfl⟩
theorem dL_law_1186 : Dc mL_law 1186 (.iaload) 1 1187 := ⟨k_dL_law_1182.2.2.2.1, rfl⟩
theorem dL_law_1187 : Dc mL_law 1187 (.invokevirtual 155) 3 1190 := ⟨k_dL_law_1182.2.2.2.2.1, rfl⟩
theorem dL_law_1190 : Dc mL_law 1190 (.pop) 1 1191 := ⟨k_dL_law_1182.2.2.2.2.2, rfl⟩
theorem k_dL_law_1191 : decode (mL_law).2.1 1191 = .ok ((.goto 190), 3) ∧ decode (mL_law).2.1 1194 = .ok ((.aload_n 1), 1) ∧ decode (mL_law).2.1 1195 = .ok ((.aload_n 0), 1) ∧ decode (mL_law).2.1 1196 = .ok ((.iload 4), 2) ∧ decode (mL_law).2.1 1198 = .ok ((.iconst 1), 1) ∧ decode (mL_law).2.1 1199 = .ok ((.iadd), 1) := by decide +kernel
theorem dL_law_1191 : Dc mL_law 1191 (.goto 190) 3 1194 := ⟨k_dL_law_1191.1, rfl⟩
theorem dL_law_1194 : Dc mL_law 1194 (.aload_n 1) 1 1195 := ⟨k_dL_law_1191.2.1, rfl⟩
theorem dL_law_1195 : Dc mL_law 1195 (.aload_n 0) 1 1196 := ⟨k_dL_law_1191.2.2.1, rfl⟩
theorem dL_law_1196 : Dc mL_law 1196 (.iload 4) 2 1198 := ⟨k_dL_law_1191.2.2.2.1, rfl⟩
theorem dL_law_1198 : Dc mL_law 1198 (.iconst 1) 1 1199 := ⟨k_dL_law_1191.2.2.2.2.1, rfl⟩
theorem dL_law_1199 : Dc mL_law 1199 (.iadd) 1 1200 := ⟨k_dL_law_1191.2.2.2.2.2, rfl⟩
theorem k_dL_law_1200 : decode (mL_law).2.1 1200 = .ok ((.iaload), 1) ∧ decode (mL_law).2.1 1201 = .ok ((.invokevirtual 156), 3) ∧ decode (mL_law).2.1 1204 = .ok ((.pop), 1) ∧ decode (mL_law).2.1 1205 = .ok ((.aload_n 2), 1) ∧ decode (mL_law).2.1 1206 = .ok ((.aload_n 0), 1) ∧ decode (mL_law).2.1 1207 = .ok ((.iload 4), 2) := by decide +kernel
theorem dL_law_1200 : Dc mL_law 1200 (.iaload) 1 1201 := ⟨k_dL_law_1200.1, rfl⟩
theorem dL_law_1201 : Dc mL_law 1201 (.invokevirtual 156) 3 1204 := ⟨k_dL_law_1200.2.1, rfl⟩
theorem dL_law_1204 : Dc mL_law 1204 (.pop) 1 1205 := ⟨k_dL_law_1200.2.2.1, rfl⟩
theorem dL_law_1205 : Dc mL_law 1205 (.aload_n 2) 1 1206 := ⟨k_dL_law_1200.2.2.2.1, rfl⟩
theorem dL_law_1206 : Dc mL_law 1206 (.aload_n 0) 1 1207 := ⟨k_dL_law_1200.2.2.2.2.1, rfl⟩
theorem dL_law_1207 : Dc mL_law 1207 (.iload 4) 2 1209 := ⟨k_dL_law_1200.2.2.2.2.2, rfl⟩
theorem k_dL_law_1209 : decode (mL_law).2.1 1209 = .ok ((.iconst 1), 1) ∧ decode (mL_law).2.1 1210 = .ok ((.iadd), 1) ∧ decode (mL_law).2.1 1211 = .ok ((.iaload), 1) ∧ decode (mL_law).2.1 1212 = .ok ((.invokevirtual 159), 3) ∧ decode (mL_law).2.1 1215 = .ok ((.pop), 1) ∧ decode (mL_law).2.1 1216 = .ok ((.goto 165), 3) := by decide +kernel
theorem dL_law_1209 : Dc mL_law 1209 (.iconst 1) 1 1210 := ⟨k_dL_law_1209.1, rfl⟩
theorem dL_law_1210 : Dc mL_law 1210 (.iadd) 1 1211 := ⟨k_dL_law_1209.2.1, rfl⟩
theorem dL_law_1211 : Dc mL_law 1211 (.iaload) 1 1212 := ⟨k_dL_law_1209.2.2.1, rfl⟩
theorem dL_law_1212 : Dc mL_law 1212 (.invokevirtual 159) 3 1215 := ⟨k_dL_law_1209.2.2.2.1, rfl⟩
theorem dL_law_1215 : Dc mL_law 1215 (.pop) 1 1216 := ⟨k_dL_law_1209.2.2.2.2.1, rfl⟩
theorem dL_law_1216 : Dc mL_law 1216 (.goto 165) 3 1219 := ⟨k_dL_law_1209.2.2.2.2.2, rfl⟩
theorem k_dL_law_1219 : decode (mL_law).2.1 1219 = .ok ((.aload_n 1), 1) ∧ decode (mL_law).2.1 1220 = .ok ((.aload_n 0), 1) ∧ decode (mL_law).2.1 1221 = .ok ((.iload 4), 2) ∧ decode (mL_law).2.1 1223 = .ok ((.iconst 1), 1) ∧ decode (mL_law).2.1 1224 = .ok ((.iadd), 1) ∧ decode (mL_law).2.1 1225 = .ok ((.iaload), 1) := by decide +kernel
theorem dL_law_1219 : Dc mL_law 1219 (.aload_n 1) 1 1220 := ⟨k_dL_law_1219.1, rfl⟩
theorem dL_law_1220 : Dc mL_law 1220 (.aload_n 0) 1 1221 := ⟨k_dL_law_1219.2.1, rfl⟩
theorem dL_law_1221 : Dc mL_law 1221 (.iload 4) 2 1223 := ⟨k_dL_law_1219.2.2.1, rfl⟩
theorem dL_law_1223 : Dc mL_law 1223 (.iconst 1) 1 1224 := ⟨k_dL_law_1219.2.2.2.1, rfl⟩
theorem dL_law_1224 : Dc mL_law 1224 (.iadd) 1 1225 := ⟨k_dL_law_1219.2.2.2.2.1, rfl⟩
theorem dL_law_1225 : Dc mL_law 1225 (.iaload) 1 1226 := ⟨k_dL_law_1219.2.2.2.2.2, rfl⟩
theorem k_dL_law_1226 : decode (mL_law).2.1 1226 = .ok ((.aload_n 0), 1) ∧ decode (mL_law).2.1 1227 = .ok ((.iload 4), 2) ∧ decode (mL_law).2.1 1229 = .ok ((.iconst 2), 1) ∧ decode (mL_law).2.1 1230 = .ok ((.iadd), 1) ∧ decode (mL_law).2.1 1231 = .ok ((.iaload), 1) ∧ decode (mL_law).2.1 1232 = .ok ((.aload_n 0), 1) := by decide +kernel
theorem dL_law_1226 : Dc mL_law 1226 (.aload_n 0) 1 1227 := ⟨k_dL_law_1226.1, rfl⟩
theorem dL_law_1227 : Dc mL_law 1227 (.iload 4) 2 1229 := ⟨k_dL_law_1226.2.1, rfl⟩
theorem dL_law_1229 : Dc mL_law 1229 (.iconst 2) 1 1230 := ⟨k_dL_law_1226.2.2.1, rfl⟩
theorem dL_law_1230 : Dc mL_law 1230 (.iadd) 1 1231 := ⟨k_dL_law_1226.2.2.2.1, rfl⟩
theorem dL_law_1231 : Dc mL_law 1231 (.iaload) 1 1232 := ⟨k_dL_law_1226.2.2.2.2.1, rfl⟩
theorem dL_law_1232 : Dc mL_law 1232 (.aload_n 0) 1 1233 := ⟨k_dL_law_1226.2.2.2.2.2, rfl⟩
theorem k_dL_law_1233 : decode (mL_law).2.1 1233 = .ok ((.iload 4), 2) ∧ decode (mL_law).2.1 1235 = .ok ((.iconst 3), 1) ∧ decode (mL_law).2.1 1236 = .ok ((.iadd), 1) ∧ decode (mL_law).2.1 1237 = .ok ((.iaload), 1) ∧ decode (mL_law).2.1 1238 = .ok ((.invokevirtual 160), 3) ∧ decode (mL_law).2.1 1241 = .ok ((.pop), 1) := by decide +kernel
theorem dL_law_1233 : Dc mL_law 1233 (.iload 4) 2 1235 := ⟨k_dL_law_1233.1, rfl⟩
theorem dL_law_1235 : Dc mL_law 1235 (.iconst 3) 1 1236 := ⟨k_dL_law_1233.2.1, rfl⟩
theorem dL_law_1236 : Dc mL_law 1236 (.iadd) 1 1237 := ⟨k_dL_law_1233.2.2.1, rfl⟩
theorem dL_law_1237 : Dc mL_law 1237 (.iaload) 1 1238 := ⟨k_dL_law_1233.2.2.2.1, rfl⟩
theorem dL_law_1238 : Dc mL_law 1238 (.invokevirtual 160) 3 1241 := ⟨k_dL_law_1233.2.2.2.2.1, rfl⟩
theorem dL_law_1241 : Dc mL_law 1241 (.pop) 1 1242 := ⟨k_dL_law_1233.2.2.2.2.2, rfl⟩
theorem k_dL_law_1242 : decode (mL_law).2.1 1242 = .ok ((.aload_n 2), 1) ∧ decode (mL_law).2.1 1243 = .ok ((.aload_n 0), 1) ∧ decode (mL_law).2.1 1244 = .ok ((.iload 4), 2) ∧ decode (mL_law).2.1 1246 = .ok ((.iconst 1), 1) ∧ decode (mL_law).2.1 1247 = .ok ((.iadd), 1) ∧ decode (mL_law).2.1 1248 = .ok ((.iaload), 1) := by decide +kernel
theorem dL_law_1242 : Dc mL_law 1242 (.aload_n 2) 1 1243 := ⟨k_dL_law_1242.1, rfl⟩
theorem dL_law_1243 : Dc mL_law 1243 (.aload_n 0) 1 1244 := ⟨k_dL_law_1242.2.1, rfl⟩
theorem dL_law_1244 : Dc mL_law 1244 (.iload 4) 2 1246 := ⟨k_dL_law_1242.2.2.1, rfl⟩
theorem dL_law_1246 : Dc mL_law 1246 (.iconst 1) 1 1247 := ⟨k_dL_law_1242.2.2.2.1, rfl⟩
theorem dL_law_1247 : Dc mL_law 1247 (.iadd) 1 1248 := ⟨k_dL_law_1242.2.2.2.2.1, rfl⟩
theorem dL_law_1248 : Dc mL_law 1248 (.iaload) 1 1249 := ⟨k_dL_law_1242.2.2.2.2.2, rfl⟩
theorem k_dL_law_1249 : decode (mL_law).2.1 1249 = .ok ((.aload_n 0), 1) ∧ decode (mL_law).2.1 1250 = .ok ((.iload 4), 2) ∧ decode (mL_law).2.1 1252 = .ok ((.iconst 2), 1) ∧ decode (mL_law).2.1 1253 = .ok ((.iadd), 1) ∧ decode (mL_law).2.1 1254 = .ok ((.iaload), 1) ∧ decode (mL_law).2.1 1255 = .ok ((.aload_n 0), 1) := by decide +kernel
theorem dL_law_1249 : Dc mL_law 1249 (.aload_n 0) 1 1250 := ⟨k_dL_law_1249.1, rfl⟩
theorem dL_law_1250 : Dc mL_law 1250 (.iload 4) 2 1252 := ⟨k_dL_law_1249.2.1, rfl⟩
theorem dL_law_1252 : Dc mL_law 1252 (.iconst 2) 1 1253 := ⟨k_dL_law_1249.2.2.1, rfl⟩
theorem dL_law_1253 : Dc mL_law 1253 (.iadd) 1 1254 := ⟨k_dL_law_1249.2.2.2.1, rfl⟩
theorem dL_law_1254 : Dc mL_law 1254 (.iaload) 1 1255 := ⟨k_dL_law_1249.2.2.2.2.1, rfl⟩
theorem dL_law_1255 : Dc mL_law 1255 (.aload_n 0) 1 1256 := ⟨k_dL_law_1249.2.2.2.2.2, rfl⟩
theorem k_dL_law_1256 : decode (mL_law).2.1 1256 = .ok ((.iload 4), 2) ∧ decode (mL_law).2.1 1258 = .ok ((.iconst 3), 1) ∧ decode (mL_law).2.1 1259 = .ok ((.iadd), 1) ∧ decode (mL_law).2.1 1260 = .ok ((.iaload), 1) ∧ decode (mL_law).2.1 1261 = .ok ((.invokevirtual 163), 3) ∧ decode (mL_law).2.1 1264 = .ok ((.pop), 1) := by decide +kernel
theorem dL_law_1256 : Dc mL_law 1256 (.iload 4) 2 1258 := ⟨k_dL_law_1256.1, rfl⟩
theorem dL_law_1258 : Dc mL_law 1258 (.iconst 3) 1 1259 := ⟨k_dL_law_1256.2.1, rfl⟩
theorem dL_law_1259 : Dc mL_law 1259 (.iadd) 1 1260 := ⟨k_dL_law_1256.2.2.1, rfl⟩
theorem dL_law_1260 : Dc mL_law 1260 (.iaload) 1 1261 := ⟨k_dL_law_1256.2.2.2.1, rfl⟩
theorem dL_law_1261 : Dc mL_law 1261 (.invokevirtual 163) 3 1264 := ⟨k_dL_law_1256.2.2.2.2.1, rfl⟩
theorem dL_law_1264 : Dc mL_law 1264 (.pop) 1 1265 := ⟨k_dL_law_1256.2.2.2.2.2, rfl⟩
theorem k_dL_law_1265 : decode (mL_law).2.1 1265 = .ok ((.goto 116), 3) ∧ decode (mL_law).2.1 1268 = .ok ((.aload_n 1), 1) ∧ decode (mL_law).2.1 1269 = .ok ((.aload_n 0), 1) ∧ decode (mL_law).2.1 1270 = .ok ((.iload 4), 2) ∧ decode (mL_law).2.1 1272 = .ok ((.iconst 1), 1) ∧ decode (mL_law).2.1 1273 = .ok ((.iadd), 1) := by decide +kernel
theorem dL_law_1265 : Dc mL_law 1265 (.goto 116) 3 1268 := ⟨k_dL_law_1265.1, rfl⟩
theorem dL_law_1268 : Dc mL_law 1268 (.aload_n 1) 1 1269 := ⟨k_dL_law_1265.2.1, rfl⟩
theorem dL_law_1269 : Dc mL_law 1269 (.aload_n 0) 1 1270 := ⟨k_dL_law_1265.2.2.1, rfl⟩
theorem dL_law_1270 : Dc mL_law 1270 (.iload 4) 2 1272 := ⟨k_dL_law_1265.2.2.2.1, rfl⟩
theorem dL_law_1272 : Dc mL_law 1272 (.iconst 1) 1 1273 := ⟨k_dL_law_1265.2.2.2.2.1, rfl⟩
theorem dL_law_1273 : Dc mL_law 1273 (.iadd) 1 1274 := ⟨k_dL_law_1265.2.2.2.2.2, rfl⟩
theorem k_dL_law_1274 : decode (mL_law).2.1 1274 = .ok ((.iaload), 1) ∧ decode (mL_law).2.1 1275 = .ok ((.aload_n 0), 1) ∧ decode (mL_law).2.1 1276 = .ok ((.iload 4), 2) ∧ decode (mL_law).2.1 1278 = .ok ((.iconst 2), 1) ∧ decode (mL_law).2.1 1279 = .ok ((.iadd), 1) ∧ decode (mL_law).2.1 1280 = .ok ((.iaload), 1) := by decide +kernel
theorem dL_law_1274 : Dc mL_law 1274 (.iaload) 1 1275 := ⟨k_dL_law_1274.1, rfl⟩
theorem dL_law_1275 : Dc mL_law 1275 (.aload_n 0) 1 1276 := ⟨k_dL_law_1274.2.1, rfl⟩
theorem dL_law_1276 : Dc mL_law 1276 (.iload 4) 2 1278 := ⟨k_dL_law_1274.2.2.1, rfl⟩
theorem dL_law_1278 : Dc mL_law 1278 (.iconst 2) 1 1279 := ⟨k_dL_law_1274.2.2.2.1, rfl⟩
theorem dL_law_1279 : Dc mL_law 1279 (.iadd) 1 1280 := ⟨k_dL_law_1274.2.2.2.2.1, rfl⟩
theorem dL_law_1280 : Dc mL_law 1280 (.iaload) 1 1281 := ⟨k_dL_law_1274.2.2.2.2.2, rfl⟩
theorem k_dL_law_1281 : decode (mL_law).2.1 1281 = .ok ((.aload_n 0), 1) ∧ decode (mL_law).2.1 1282 = .ok ((.iload 4), 2) ∧ decode (mL_law).2.1 1284 = .ok ((.iconst 3), 1) ∧ decode (mL_law).2.1 1285 = .ok ((.iadd), 1) ∧ decode (mL_law).2.1 1286 = .ok ((.iaload), 1) ∧ decode (mL_law).2.1 1287 = .ok ((.invokevirtual 164), 3) := by decide +kernel
theorem dL_law_1281 : Dc mL_law 1281 (.aload_n 0) 1 1282 := ⟨k_dL_law_1281.1, rfl⟩
theorem dL_law_1282 : Dc mL_law 1282 (.iload 4) 2 1284 := ⟨k_dL_law_1281.2.1, rfl⟩
theorem dL_law_1284 : Dc mL_law 1284 (.iconst 3) 1 1285 := ⟨k_dL_law_1281.2.2.1, rfl⟩
theorem dL_law_1285 : Dc mL_law 1285 (.iadd) 1 1286 := ⟨k_dL_law_1281.2.2.2.1, rfl⟩
theorem dL_law_1286 : Dc mL_law 1286 (.iaload) 1 1287 := ⟨k_dL_law_1281.2.2.2.2.1, rfl⟩
theorem dL_law_1287 : Dc mL_law 1287 (.invokevirtual 164) 3 1290 := ⟨k_dL_law_1281.2.2.2.2.2, rfl⟩
theorem k_dL_law_1290 : decode (mL_law).2.1 1290 = .ok ((.pop), 1) ∧ decode (mL_law).2.1 1291 = .ok ((.aload_n 2), 1) ∧ decode (mL_law).2.1 1292 = .ok ((.aload_n 0), 1) ∧ decode (mL_law).2.1 1293 = .ok ((.iload 4), 2) ∧ decode (mL_law).2.1 1295 = .ok ((.iconst 1), 1) ∧ decode (mL_law).2.1 1296 = .ok ((.iadd), 1) := by decide +kernel
theorem dL_law_1290 : Dc mL_law 1290 (.pop) 1 1291 := ⟨k_dL_law_1290.1, rfl⟩
theorem dL_law_1291 : Dc mL_law 1291 (.aload_n 2) 1 1292 := ⟨k_dL_law_1290.2.1, rfl⟩
theorem dL_law_1292 : Dc mL_law 1292 (.aload_n 0) 1 1293 := ⟨k_dL_law_1290.2.2.1, rfl⟩
theorem dL_law_1293 : Dc mL_law 1293 (.iload 4) 2 1295 := ⟨k_dL_law_1290.2.2.2.1, rfl⟩
theorem dL_law_1295 : Dc mL_law 1295 (.iconst 1) 1 1296 := ⟨k_dL_law_1290.2.2.2.2.1, rfl⟩
theorem dL_law_1296 : Dc mL_law 1296 (.iadd) 1 1297 := ⟨k_dL_law_1290.2.2.2.2.2, rfl⟩
theorem k_dL_law_1297 : decode (mL_law).2.1 1297 = .ok ((.iaload), 1) ∧ decode (mL_law).2.1 1298 = .ok ((.aload_n 0), 1) ∧ decode (mL_law).2.1 1299 = .ok ((.iload 4), 2) ∧ decode (mL_law).2.1 1301 = .ok ((.iconst 2), 1) ∧ decode (mL_law).2.1 1302 = .ok ((.iadd), 1) ∧ decode (mL_law).2.1 1303 = .ok ((.iaload), 1) := by decide +kernel
theorem dL_law_1297 : Dc mL_law 1297 (.iaload) 1 1298 := ⟨k_dL_law_1297.1, rfl⟩
theorem dL_law_1298 : Dc mL_law 1298 (.aload_n 0) 1 1299 := ⟨k_dL_law_1297.2.1, rfl⟩
theorem dL_law_1299 : Dc mL_law 1299 (.iload 4) 2 1301 := ⟨k_dL_law_1297.2.2.1, rfl⟩
theorem dL_law_1301 : Dc mL_law 1301 (.iconst 2) 1 1302 := ⟨k_dL_law_1297.2.2.2.1, rfl⟩
theorem dL_law_1302 : Dc mL_law 1302 (.iadd) 1 1303 := ⟨k_dL_law_1297.2.2.2.2.1, rfl⟩
theorem dL_law_1303 : Dc mL_law 1303 (.iaload) 1 1304 := ⟨k_dL_law_1297.2.2.2.2.2, rfl⟩
theorem k_dL_law_1304 : decode (mL_law).2.1 1304 = .ok ((.aload_n 0), 1) ∧ decode (mL_law).2.1 1305 = .ok ((.iload 4), 2) ∧ decode (mL_law).2.1 1307 = .ok ((.iconst 3), 1) ∧ decode (mL_law).2.1 1308 = .ok ((.iadd), 1) ∧ decode (mL_law).2.1 1309 = .ok ((.iaload), 1) ∧ decode (mL_law).2.1 1310 = .ok ((.invokevirtual 167), 3) := by decide +kernel
theorem dL_law_1304 : Dc mL_law 1304 (.aload_n 0) 1 1305 := ⟨k_dL_law_1304.1, rfl⟩
theorem dL_law_1305 : Dc mL_law 1305 (.iload 4) 2 1307 := ⟨k_dL_law_1304.2.1, rfl⟩
theorem dL_law_1307 : Dc mL_law 1307 (.iconst 3) 1 1308 := ⟨k_dL_law_1304.2.2.1, rfl⟩
theorem dL_law_1308 : Dc mL_law 1308 (.iadd) 1 1309 := ⟨k_dL_law_1304.2.2.2.1, rfl⟩
theorem dL_law_1309 : Dc mL_law 1309 (.iaload) 1 1310 := ⟨k_dL_law_1304.2.2.2.2.1, rfl⟩
theorem dL_law_1310 : Dc mL_law 1310 (.invokevirtual 167) 3 1313 := ⟨k_dL_law_1304.2.2.2.2.2, rfl⟩
theorem k_dL_law_1313 : decode (mL_law).2.1 1313 = .ok ((.pop), 1) ∧ decode (mL_law).2.1 1314 = .ok ((.goto 67), 3) ∧ decode (mL_law).2.1 1317 = .ok ((.aload_n 1), 1) ∧ decode (mL_law).2.1 1318 = .ok ((.invokevirtual 168), 3) ∧ decode (mL_law).2.1 1321 = .ok ((.pop), 1) ∧ decode (mL_law).2.1 1322 = .ok ((.aload_n 2), 1) := by decide +kernel
theorem dL_law_1313 : Dc mL_law 1313 (.pop) 1 1314 := ⟨k_dL_law_1313.1, rfl⟩
theorem dL_law_1314 : Dc mL_law 1314 (.goto 67) 3 1317 := ⟨k_dL_law_1313.2.1, rfl⟩
theorem dL_law_1317 : Dc mL_law 1317 (.aload_n 1) 1 1318 := ⟨k_dL_law_1313.2.2.1, rfl⟩
theorem dL_law_1318 : Dc mL_law 1318 (.invokevirtual 168) 3 1321 := ⟨k_dL_law_1313.2.2.2.1, rfl⟩
theorem dL_law_1321 : Dc mL_law 1321 (.pop) 1 1322 := ⟨k_dL_law_1313.2.2.2.2.1, rfl⟩
theorem dL_law_1322 : Dc mL_law 1322 (.aload_n 2) 1 1323 := ⟨k_dL_law_1313.2.2.2.2.2, rfl⟩
theorem k_dL_law_1323 : decode (mL_law).2.1 1323 = .ok ((.invokevirtual 171), 3) ∧ decode (mL_law).2.1 1326 = .ok ((.pop), 1) ∧ decode (mL_law).2.1 1327 = .ok ((.goto 54), 3) ∧ decode (mL_law).2.1 1330 = .ok ((.aload_n 1), 1) ∧ decode (mL_law).2.1 1331 = .ok ((.invokevirtual 172), 3) ∧ decode (mL_law).2.1 1334 = .ok ((.pop), 1) := by decide +kernel
theorem dL_law_1323 : Dc mL_law 1323 (.invokevirtual 171) 3 1326 := ⟨k_dL_law_1323.1, rfl⟩
theorem dL_law_1326 : Dc mL_law 1326 (.pop) 1 1327 := ⟨k_dL_law_1323.2.1, rfl⟩
theorem dL_law_1327 : Dc mL_law 1327 (.goto 54) 3 1330 := ⟨k_dL_law_1323.2.2.1, rfl⟩
theorem dL_law_1330 : Dc mL_law 1330 (.aload_n 1) 1 1331 := ⟨k_dL_law_1323.2.2.2.1, rfl⟩
theorem dL_law_1331 : Dc mL_law 1331 (.invokevirtual 172) 3 1334 := ⟨k_dL_law_1323.2.2.2.2.1, rfl⟩
theorem dL_law_1334 : Dc mL_law 1334 (.pop) 1 1335 := ⟨k_dL_law_1323.2.2.2.2.2, rfl⟩
theorem k_dL_law_1335 : decode (mL_law).2.1 1335 = .ok ((.aload_n 2), 1) ∧ decode (mL_law).2.1 1336 = .ok ((.invokevirtual 175), 3) ∧ decode (mL_law).2.1 1339 = .ok ((.pop), 1) ∧ decode (mL_law).2.1 1340 = .ok ((.goto 41), 3) ∧ decode (mL_law).2.1 1343 = .ok ((.aload_n 1), 1) ∧ decode (mL_law).2.1 1344 = .ok ((.invokevirtual 176), 3) := by decide +kernel
theorem dL_law_1335 : Dc mL_law 1335 (.aload_n 2) 1 1336 := ⟨k_dL_law_1335.1, rfl⟩
theorem dL_law_1336 : Dc mL_law 1336 (.invokevirtual 175) 3 1339 := ⟨k_dL_law_1335.2.1, rfl⟩
theorem dL_law_1339 : Dc mL_law 1339 (.pop) 1 1340 := ⟨k_dL_law_1335.2.2.1, rfl⟩
theorem dL_law_1340 : Dc mL_law 1340 (.goto 41) 3 1343 := ⟨k_dL_law_1335.2.2.2.1, rfl⟩
theorem dL_law_1343 : Dc mL_law 1343 (.aload_n 1) 1 1344 := ⟨k_dL_law_1335.2.2.2.2.1, rfl⟩
theorem dL_law_1344 : Dc mL_law 1344 (.invokevirtual 176) 3 1347 := ⟨k_dL_law_1335.2.2.2.2.2, rfl⟩
theorem k_dL_law_1347 : decode (mL_law).2.1 1347 = .ok ((.pop), 1) ∧ decode (mL_law).2.1 1348 = .ok ((.aload_n 2), 1) ∧ decode (mL_law).2.1 1349 = .ok ((.invokevirtual 179), 3) ∧ decode (mL_law).2.1 1352 = .ok ((.pop), 1) ∧ decode (mL_law).2.1 1353 = .ok ((.goto 28), 3) ∧ decode (mL_law).2.1 1356 = .ok ((.aload_n 1), 1) := by decide +kernel
theorem dL_law_1347 : Dc mL_law 1347 (.pop) 1 1348 := ⟨k_dL_law_1347.1, rfl⟩
theorem dL_law_1348 : Dc mL_law 1348 (.aload_n 2) 1 1349 := ⟨k_dL_law_1347.2.1, rfl⟩
theorem dL_law_1349 : Dc mL_law 1349 (.invokevirtual 179) 3 1352 := ⟨k_dL_law_1347.2.2.1, rfl⟩
theorem dL_law_1352 : Dc mL_law 1352 (.pop) 1 1353 := ⟨k_dL_law_1347.2.2.2.1, rfl⟩
theorem dL_law_1353 : Dc mL_law 1353 (.goto 28) 3 1356 := ⟨k_dL_law_1347.2.2.2.2.1, rfl⟩
theorem dL_law_1356 : Dc mL_law 1356 (.aload_n 1) 1 1357 := ⟨k_dL_law_1347.2.2.2.2.2, rfl⟩
theorem k_dL_law_1357 : decode (mL_law).2.1 1357 = .ok ((.aload_n 0), 1) ∧ decode (mL_law).2.1 1358 = .ok ((.iload 4), 2) ∧ decode (mL_law).2.1 1360 = .ok ((.iconst 1), 1) ∧ decode (mL_law).2.1 1361 = .ok ((.iadd), 1) ∧ decode (mL_law).2.1 1362 = .ok ((.iaload), 1) ∧ decode (mL_law).2.1 1363 = .ok ((.invokevirtual 180), 3) := by decide +kernel
theorem dL_law_1357 : Dc mL_law 1357 (.aload_n 0) 1 1358 := ⟨k_dL_law_1357.1, rfl⟩
theorem dL_law_1358 : Dc mL_law 1358 (.iload 4) 2 1360 := ⟨k_dL_law_1357.2.1, rfl⟩
theorem dL_law_1360 : Dc mL_law 1360 (.iconst 1) 1 1361 := ⟨k_dL_law_1357.2.2.1, rfl⟩
theorem dL_law_1361 : Dc mL_law 1361 (.iadd) 1 1362 := ⟨k_dL_law_1357.2.2.2.1, rfl⟩
theorem dL_law_1362 : Dc mL_law 1362 (.iaload) 1 1363 := ⟨k_dL_law_1357.2.2.2.2.1, rfl⟩
theorem dL_law_1363 : Dc mL_law 1363 (.invokevirtual 180) 3 1366 := ⟨k_dL_law_1357.2.2.2.2.2, rfl⟩
theorem k_dL_law_1366 : decode (mL_law).2.1 1366 = .ok ((.pop), 1) ∧ decode (mL_law).2.1 1367 = .ok ((.aload_n 2), 1) ∧ decode (mL_law).2.1 1368 = .ok ((.aload_n 0), 1) ∧ decode (mL_law).2.1 1369 = .ok ((.iload 4), 2) ∧ decode (mL_law).2.1 1371 = .ok ((.iconst 1), 1) ∧ decode (mL_law).2.1 1372 = .ok ((.iadd), 1) := by decide +kernel
theorem dL_law_1366 : Dc mL_law 1366 (.pop) 1 1367 := ⟨k_dL_law_1366.1, rfl⟩
theorem dL_law_1367 : Dc mL_law 1367 (.aload_n 2) 1 1368 := ⟨k_dL_law_1366.2.1, rfl⟩
theorem dL_law_1368 : Dc mL_law 1368 (.aload_n 0) 1 1369 := ⟨k_dL_law_1366.2.2.1, rfl⟩
theorem dL_law_1369 : Dc mL_law 1369 (.iload 4) 2 1371 := ⟨k_dL_law_1366.2.2.2.1, rfl⟩
theorem dL_law_1371 : Dc mL_law 1371 (.iconst 1) 1 1372 := ⟨k_dL_law_1366.2.2.2.2.1, rfl⟩
theorem dL_law_1372 : Dc mL_law 1372 (.iadd) 1 1373 := ⟨k_dL_law_1366.2.2.2.2.2, rfl⟩
theorem k_dL_law_1373 : decode (mL_law).2.1 1373 = .ok ((.iaload), 1) ∧ decode (mL_law).2.1 1374 = .ok ((.invokevirtual 183), 3) ∧ decode (mL_law).2.1 1377 = .ok ((.pop), 1) ∧ decode (mL_law).2.1 1378 = .ok ((.goto 3), 3) ∧ decode (mL_law).2.1 1381 = .ok ((.iinc 4 6), 3) ∧ decode (mL_law).2.1 1384 = .ok ((.goto (-1361)), 3) := by decide +kernel
theorem dL_law_1373 : Dc mL_law 1373 (.iaload) 1 1374 := ⟨k_dL_law_1373.1, rfl⟩
theorem dL_law_1374 : Dc mL_law 1374 (.invokevirtual 183) 3 1377 := ⟨k_dL_law_1373.2.1, rfl⟩
theorem dL_law_1377 : Dc mL_law 1377 (.pop) 1 1378 := ⟨k_dL_law_1373.2.2.1, rfl⟩
theorem dL_law_1378 : Dc mL_law 1378 (.goto 3) 3 1381 := ⟨k_dL_law_1373.2.2.2.1, rfl⟩
theorem dL_law_1381 : Dc mL_law 1381 (.iinc 4 6) 3 1384 := ⟨k_dL_law_1373.2.2.2.2.1, rfl⟩
theorem dL_law_1384 : Dc mL_law 1384 (.goto (-1361)) 3 1387 := ⟨k_dL_law_1373.2.2.2.2.2, rfl⟩
theorem k_dL_law_1387 : decode (mL_law).2.1 1387 = .ok ((.iconst 1), 1) ∧ decode (mL_law).2.1 1388 = .ok ((.ireturn), 1) := by decide +kernel
theorem dL_law_1387 : Dc mL_law 1387 (.iconst 1) 1 1388 := ⟨k_dL_law_1387.1, rfl⟩
theorem dL_law_1388 : Dc mL_law 1388 (.ireturn) 1 1389 := ⟨k_dL_law_1387.2, rfl⟩
