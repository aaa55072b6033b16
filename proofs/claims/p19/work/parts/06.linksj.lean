theorem kX0_121 : Cond.constantLong RX0 121 (1103515245) ∈ ALLW := iT_4 221 (by decide +kernel) (by decide +kernel)
theorem kX0_123 : Cond.constantLong RX0 123 (12345) ∈ ALLW := iT_4 222 (by decide +kernel) (by decide +kernel)
theorem kX0_125 : Cond.constantLong RX0 125 (2147483647) ∈ ALLW := iT_4 223 (by decide +kernel) (by decide +kernel)
theorem kX0_127 : Cond.constantLong RX0 127 (65536) ∈ ALLW := iT_4 224 (by decide +kernel) (by decide +kernel)
theorem kX0_129 : Cond.constantLong RX0 129 (100) ∈ ALLW := iT_4 225 (by decide +kernel) (by decide +kernel)
theorem lX0_96 {M : Mt} (h : M.1.cls = RX0) : LK M 96 mX0_film := Or.inl (by rw [h]; exact iT_4 226 (by rfl) (by decide +kernel))
theorem lX0_131 {M : Mt} (h : M.1.cls = RX0) : LK M 131 mX11_put := Or.inr ⟨"GirlShots", by rw [h]; exact iTN_4 230 (by rfl) (by decide +kernel)⟩
theorem lX0_135 {M : Mt} (h : M.1.cls = RX0) : LK M 135 mX5_wayIn := Or.inl (by rw [h]; exact iT_4 231 (by rfl) (by decide +kernel))
theorem lX0_148 {M : Mt} (h : M.1.cls = RX0) : LK M 148 mX0_noticeWorth := Or.inl (by rw [h]; exact iT_4 232 (by rfl) (by decide +kernel))
theorem lX0_152 {M : Mt} (h : M.1.cls = RX0) : LK M 152 mX0_isSo := Or.inl (by rw [h]; exact iT_4 233 (by rfl) (by decide +kernel))
theorem lX0_103 {M : Mt} (h : M.1.cls = RX0) : LK M 103 mX0_give := Or.inl (by rw [h]; exact iT_4 236 (by rfl) (by decide +kernel))
theorem lX0_168 {M : Mt} (h : M.1.cls = RX0) : LK M 168 mX0_yieldWorth := Or.inl (by rw [h]; exact iT_5 0 (by rfl) (by decide +kernel))
theorem lX0_107 {M : Mt} (h : M.1.cls = RX0) : LK M 107 mX0_filmOneAgain := Or.inl (by rw [h]; exact iT_5 1 (by rfl) (by decide +kernel))
theorem lX0_175 {M : Mt} (h : M.1.cls = RX0) : LK M 175 mX0_againWorth := Or.inl (by rw [h]; exact iT_5 5 (by rfl) (by decide +kernel))
theorem kX0_183 : Cond.constantLong RX0 183 (999) ∈ ALLW := iT_5 6 (by decide +kernel) (by decide +kernel)
theorem lX0_185 {M : Mt} (h : M.1.cls = RX0) : LK M 185 mJ9_min_f86c9 := Or.inl (by rw [h]; exact iT_5 7 (by rfl) (by decide +kernel))
theorem lX0_191 {M : Mt} (h : M.1.cls = RX0) : LK M 191 mJ9_max_f86c9 := Or.inl (by rw [h]; exact iT_5 10 (by rfl) (by decide +kernel))
theorem lX0_197 {M : Mt} (h : M.1.cls = RX0) : LK M 197 mX0_filmAgain := Or.inl (by rw [h]; exact iT_5 13 (by rfl) (by decide +kernel))
theorem lX11_235 {M : Mt} (h : M.1.cls = RX11) : LK M 235 mX5_copy := Or.inl (by rw [h]; exact iT_5 17 (by rfl) (by decide +kernel))
theorem lL_88 {M : Mt} (h : M.1.cls = RL) : LK M 88 mX11_ahead := Or.inl (by rw [h]; exact iT_5 18 (by rfl) (by decide +kernel))
theorem lX11_237 {M : Mt} (h : M.1.cls = RX11) : LK M 237 mX5_filmedCount := Or.inl (by rw [h]; exact iT_5 22 (by rfl) (by decide +kernel))
theorem lX11_250 {M : Mt} (h : M.1.cls = RX11) : LK M 250 mX5_clashCount := Or.inl (by rw [h]; exact iT_5 26 (by rfl) (by decide +kernel))
theorem lX5_97 {M : Mt} (h : M.1.cls = RX5) : LK M 97 mX5_clashing := Or.inl (by rw [h]; exact iT_5 30 (by rfl) (by decide +kernel))
theorem lL_92 {M : Mt} (h : M.1.cls = RL) : LK M 92 mX11_breaks := Or.inl (by rw [h]; exact iT_5 31 (by rfl) (by decide +kernel))
theorem lX11_253 {M : Mt} (h : M.1.cls = RX11) : LK M 253 mX5_breakCount := Or.inl (by rw [h]; exact iT_5 35 (by rfl) (by decide +kernel))
theorem lX5_101 {M : Mt} (h : M.1.cls = RX5) : LK M 101 mX5_breaksBehind := Or.inl (by rw [h]; exact iT_5 39 (by rfl) (by decide +kernel))
theorem lL_97 {M : Mt} (h : M.1.cls = RL) : LK M 97 mX11_agrees := Or.inl (by rw [h]; exact iT_5 43 (by rfl) (by decide +kernel))
theorem lL_101 {M : Mt} (h : M.1.cls = RL) : LK M 101 mX11_least := Or.inl (by rw [h]; exact iT_5 47 (by rfl) (by decide +kernel))
theorem lX11_259 {M : Mt} (h : M.1.cls = RX11) : LK M 259 mX2_work := Or.inl (by rw [h]; exact iT_5 51 (by rfl) (by decide +kernel))
theorem lX2_29 {M : Mt} (h : M.1.cls = RX2) : LK M 29 mX2_clashesBy := Or.inl (by rw [h]; exact iT_5 55 (by rfl) (by decide +kernel))
theorem lX2_46 {M : Mt} (h : M.1.cls = RX2) : LK M 46 mX5_wayIn := Or.inl (by rw [h]; exact iT_5 58 (by rfl) (by decide +kernel))
theorem lX2_55 {M : Mt} (h : M.1.cls = RX2) : LK M 55 mX11_at := Or.inr ⟨"GirlShots", by rw [h]; exact iTN_5 59 (by rfl) (by decide +kernel)⟩
theorem lX2_33 {M : Mt} (h : M.1.cls = RX2) : LK M 33 mX11_put := Or.inr ⟨"GirlShots", by rw [h]; exact iTN_5 60 (by rfl) (by decide +kernel)⟩
theorem lX2_37 {M : Mt} (h : M.1.cls = RX2) : LK M 37 mX11_fill := Or.inr ⟨"GirlShots", by rw [h]; exact iTN_5 61 (by rfl) (by decide +kernel)⟩
theorem kX2_41 : Cond.constant RX2 41 (1000000) ∈ ALLW := iT_5 62 (by decide +kernel) (by decide +kernel)
theorem lX2_42 {M : Mt} (h : M.1.cls = RX2) : LK M 42 mX2_choose := Or.inl (by rw [h]; exact iT_5 63 (by rfl) (by decide +kernel))
theorem lX2_70 {M : Mt} (h : M.1.cls = RX2) : LK M 70 mX11_copyRow := Or.inr ⟨"GirlShots", by rw [h]; exact iTN_5 66 (by rfl) (by decide +kernel)⟩
theorem lX2_77 {M : Mt} (h : M.1.cls = RX2) : LK M 77 mX2_isWorth := Or.inl (by rw [h]; exact iT_5 67 (by rfl) (by decide +kernel))
theorem lX2_81 {M : Mt} (h : M.1.cls = RX2) : LK M 81 mX2_costOf := Or.inl (by rw [h]; exact iT_5 71 (by rfl) (by decide +kernel))
theorem lL_105 {M : Mt} (h : M.1.cls = RL) : LK M 105 mX11_order := Or.inl (by rw [h]; exact iT_5 75 (by rfl) (by decide +kernel))
theorem lX11_268 {M : Mt} (h : M.1.cls = RX11) : LK M 268 mX3_begin := Or.inl (by rw [h]; exact iT_5 79 (by rfl) (by decide +kernel))
theorem lX3_30 {M : Mt} (h : M.1.cls = RX3) : LK M 30 mX11_at := Or.inr ⟨"GirlShots", by rw [h]; exact iTN_5 83 (by rfl) (by decide +kernel)⟩
theorem lX3_34 {M : Mt} (h : M.1.cls = RX3) : LK M 34 mX11_put := Or.inr ⟨"GirlShots", by rw [h]; exact iTN_5 84 (by rfl) (by decide +kernel)⟩
theorem lX11_271 {M : Mt} (h : M.1.cls = RX11) : LK M 271 mX3_isRow := Or.inl (by rw [h]; exact iT_5 85 (by rfl) (by decide +kernel))
theorem lX3_38 {M : Mt} (h : M.1.cls = RX3) : LK M 38 mX3_pick := Or.inl (by rw [h]; exact iT_5 89 (by rfl) (by decide +kernel))
theorem lX11_274 {M : Mt} (h : M.1.cls = RX11) : LK M 274 mX3_putDays := Or.inl (by rw [h]; exact iT_5 92 (by rfl) (by decide +kernel))
theorem lX11_278 {M : Mt} (h : M.1.cls = RX11) : LK M 278 mX3_weigh := Or.inl (by rw [h]; exact iT_5 96 (by rfl) (by decide +kernel))
theorem lX11_285 {M : Mt} (h : M.1.cls = RX11) : LK M 285 mX3_shotAt := Or.inl (by rw [h]; exact iT_5 100 (by rfl) (by decide +kernel))
theorem lL_109 {M : Mt} (h : M.1.cls = RL) : LK M 109 mX11_noted := Or.inl (by rw [h]; exact iT_5 104 (by rfl) (by decide +kernel))
theorem lX11_288 {M : Mt} (h : M.1.cls = RX11) : LK M 288 mJ6_bitCount_0f7a4 := Or.inl (by rw [h]; exact iT_5 108 (by rfl) (by decide +kernel))
theorem kJ6_265 : Cond.constant RJ6 265 (1431655765) ∈ ALLW := iT_5 111 (by decide +kernel) (by decide +kernel)
theorem kJ6_266 : Cond.constant RJ6 266 (858993459) ∈ ALLW := iT_5 112 (by decide +kernel) (by decide +kernel)
theorem kJ6_267 : Cond.constant RJ6 267 (252645135) ∈ ALLW := iT_5 113 (by decide +kernel) (by decide +kernel)
theorem lX11_293 {M : Mt} (h : M.1.cls = RX11) : LK M 293 mX11_notedBy := Or.inl (by rw [h]; exact iT_5 114 (by rfl) (by decide +kernel))
theorem lL_113 {M : Mt} (h : M.1.cls = RL) : LK M 113 mX11_bribe := Or.inl (by rw [h]; exact iT_5 118 (by rfl) (by decide +kernel))
theorem lL_117 {M : Mt} (h : M.1.cls = RL) : LK M 117 mX11_rests := Or.inl (by rw [h]; exact iT_5 122 (by rfl) (by decide +kernel))
theorem lX11_296 {M : Mt} (h : M.1.cls = RX11) : LK M 296 mX11_canBid := Or.inl (by rw [h]; exact iT_5 126 (by rfl) (by decide +kernel))
theorem lX11_299 {M : Mt} (h : M.1.cls = RX11) : LK M 299 mX11_isRest := Or.inl (by rw [h]; exact iT_5 130 (by rfl) (by decide +kernel))
theorem lX11_308 {M : Mt} (h : M.1.cls = RX11) : LK M 308 mX11_isBest := Or.inl (by rw [h]; exact iT_5 134 (by rfl) (by decide +kernel))
theorem lX11_311 {M : Mt} (h : M.1.cls = RX11) : LK M 311 mX11_gain := Or.inl (by rw [h]; exact iT_5 137 (by rfl) (by decide +kernel))
theorem lL_121 {M : Mt} (h : M.1.cls = RL) : LK M 121 mX11_rest := Or.inl (by rw [h]; exact iT_5 140 (by rfl) (by decide +kernel))
theorem lL_126 {M : Mt} (h : M.1.cls = RL) : LK M 126 mX11_there := Or.inl (by rw [h]; exact iT_5 144 (by rfl) (by decide +kernel))
theorem kX11_314 : Cond.constantLong RX11 314 (-1) ∈ ALLW := iT_5 148 (by decide +kernel) (by decide +kernel)
theorem lX11_319 {M : Mt} (h : M.1.cls = RX11) : LK M 319 mX11_commonPart := Or.inl (by rw [h]; exact iT_5 149 (by rfl) (by decide +kernel))
theorem lL_131 {M : Mt} (h : M.1.cls = RL) : LK M 131 mX11_without := Or.inl (by rw [h]; exact iT_5 152 (by rfl) (by decide +kernel))
theorem lL_135 {M : Mt} (h : M.1.cls = RL) : LK M 135 mX11_run := Or.inl (by rw [h]; exact iT_5 156 (by rfl) (by decide +kernel))
theorem lX11_322 {M : Mt} (h : M.1.cls = RX11) : LK M 322 mX5_breaksBehind := Or.inl (by rw [h]; exact iT_5 160 (by rfl) (by decide +kernel))
theorem lX11_325 {M : Mt} (h : M.1.cls = RX11) : LK M 325 mJ9_max_7cf53 := Or.inl (by rw [h]; exact iT_5 161 (by rfl) (by decide +kernel))
theorem lL_139 {M : Mt} (h : M.1.cls = RL) : LK M 139 mX11_believed := Or.inl (by rw [h]; exact iT_5 164 (by rfl) (by decide +kernel))
theorem lL_143 {M : Mt} (h : M.1.cls = RL) : LK M 143 mX11_see := Or.inl (by rw [h]; exact iT_5 168 (by rfl) (by decide +kernel))
theorem lX11_328 {M : Mt} (h : M.1.cls = RX11) : LK M 328 mX6_add := Or.inl (by rw [h]; exact iT_5 172 (by rfl) (by decide +kernel))
theorem lX6_28 {M : Mt} (h : M.1.cls = RX6) : LK M 28 mX11_put := Or.inr ⟨"GirlShots", by rw [h]; exact iTN_5 176 (by rfl) (by decide +kernel)⟩
theorem lL_148 {M : Mt} (h : M.1.cls = RL) : LK M 148 mX11_out := Or.inl (by rw [h]; exact iT_5 177 (by rfl) (by decide +kernel))
theorem lL_152 {M : Mt} (h : M.1.cls = RL) : LK M 152 mX11_known := Or.inl (by rw [h]; exact iT_5 181 (by rfl) (by decide +kernel))
theorem lL_156 {M : Mt} (h : M.1.cls = RL) : LK M 156 mX11_struckHow := Or.inl (by rw [h]; exact iT_5 185 (by rfl) (by decide +kernel))
theorem lX11_335 {M : Mt} (h : M.1.cls = RX11) : LK M 335 mX6_knownOnes := Or.inl (by rw [h]; exact iT_5 189 (by rfl) (by decide +kernel))
theorem lX6_32 {M : Mt} (h : M.1.cls = RX6) : LK M 32 mX6_knownCount := Or.inl (by rw [h]; exact iT_5 193 (by rfl) (by decide +kernel))
theorem lX6_36 {M : Mt} (h : M.1.cls = RX6) : LK M 36 mX11_at := Or.inr ⟨"GirlShots", by rw [h]; exact iTN_5 197 (by rfl) (by decide +kernel)⟩
theorem lX11_338 {M : Mt} (h : M.1.cls = RX11) : LK M 338 mX6_lastDay := Or.inl (by rw [h]; exact iT_5 198 (by rfl) (by decide +kernel))
theorem lX6_40 {M : Mt} (h : M.1.cls = RX6) : LK M 40 mJ9_max_7cf53 := Or.inl (by rw [h]; exact iT_5 202 (by rfl) (by decide +kernel))
theorem lX11_344 {M : Mt} (h : M.1.cls = RX11) : LK M 344 mX6_fits := Or.inl (by rw [h]; exact iT_5 203 (by rfl) (by decide +kernel))
theorem lL_160 {M : Mt} (h : M.1.cls = RL) : LK M 160 mX11_chance := Or.inl (by rw [h]; exact iT_5 207 (by rfl) (by decide +kernel))
theorem lL_164 {M : Mt} (h : M.1.cls = RL) : LK M 164 mX11_tried := Or.inl (by rw [h]; exact iT_5 211 (by rfl) (by decide +kernel))
theorem lX11_352 {M : Mt} (h : M.1.cls = RX11) : LK M 352 mX0_otherwise := Or.inl (by rw [h]; exact iT_5 215 (by rfl) (by decide +kernel))
theorem lX0_63 {M : Mt} (h : M.1.cls = RX0) : LK M 63 mX11_fill := Or.inr ⟨"GirlShots", by rw [h]; exact iTN_5 219 (by rfl) (by decide +kernel)⟩
theorem lL_168 {M : Mt} (h : M.1.cls = RL) : LK M 168 mX11_undo := Or.inl (by rw [h]; exact iT_5 220 (by rfl) (by decide +kernel))
theorem lX11_355 {M : Mt} (h : M.1.cls = RX11) : LK M 355 mX10_takeBack := Or.inl (by rw [h]; exact iT_5 224 (by rfl) (by decide +kernel))
theorem lX10_35 {M : Mt} (h : M.1.cls = RX10) : LK M 35 mX11_at := Or.inr ⟨"GirlShots", by rw [h]; exact iTN_5 228 (by rfl) (by decide +kernel)⟩
theorem lL_172 {M : Mt} (h : M.1.cls = RL) : LK M 172 mX11_keep := Or.inl (by rw [h]; exact iT_5 229 (by rfl) (by decide +kernel))
theorem lL_176 {M : Mt} (h : M.1.cls = RL) : LK M 176 mX11_back := Or.inl (by rw [h]; exact iT_5 233 (by rfl) (by decide +kernel))
theorem lL_180 {M : Mt} (h : M.1.cls = RL) : LK M 180 mX11_count := Or.inl (by rw [h]; exact iT_5 237 (by rfl) (by decide +kernel))
theorem lX11_366 {M : Mt} (h : M.1.cls = RX11) : LK M 366 mX6_knownCount := Or.inl (by rw [h]; exact iT_6 1 (by rfl) (by decide +kernel))
theorem lL_7 {M : Mt} (h : M.1.cls = RL) : LK M 7 mX11_mark := Or.inl (by rw [h]; exact iT_6 7 (by rfl) (by decide +kernel))
theorem lX11_159 {M : Mt} (h : M.1.cls = RX11) : LK M 159 mX5_filmedWith := Or.inl (by rw [h]; exact iT_6 77 (by rfl) (by decide +kernel))
theorem lL_20 {M : Mt} (h : M.1.cls = RL) : LK M 20 mX12_init := Or.inl (by rw [h]; exact iT_6 96 (by rfl) (by decide +kernel))
theorem lX12_166 {M : Mt} (h : M.1.cls = RX12) : LK M 166 mX12_begins := Or.inl (by rw [h]; exact iT_6 100 (by rfl) (by decide +kernel))
theorem lX12_358 {M : Mt} (h : M.1.cls = RX12) : LK M 358 mX12_starts := Or.inl (by rw [h]; exact iT_6 104 (by rfl) (by decide +kernel))
theorem fX12_169 {M : Mt} (h : M.1.cls = RX12) : FL M 169 12 0 := ⟨RX12, TX12, 75, cls12, by decide, Or.inl (by rw [h]; exact iT_6 108 (by first | rfl | decide +kernel) (by decide +kernel))⟩
theorem fwX12_169 {M : Mt} (h : M.1.cls = RX12) : FLW M 169 12 0 := ⟨RX12, TX12, 75, cls12, by decide, by decide +kernel, Or.inl (by rw [h]; exact iT_6 108 (by first | rfl | decide +kernel) (by decide +kernel))⟩
theorem fX12_7 {M : Mt} (h : M.1.cls = RX12) : FL M 7 12 1 := ⟨RX12, TX12, 75, cls12, by decide, Or.inl (by rw [h]; exact iT_6 109 (by first | rfl | decide +kernel) (by decide +kernel))⟩
theorem ffX12_7 {M : Mt} (h : M.1.cls = RX12) (hn : M.1.name = "<init>") : FLF M 7 12 1 := ⟨hn, RX12, TX12, 75, cls12, by decide, by decide +kernel, by rw [h]; decide +kernel, by rw [h]; exact iT_6 109 (by first | rfl | decide +kernel) (by decide +kernel)⟩
theorem fX12_172 {M : Mt} (h : M.1.cls = RX12) : FL M 172 12 2 := ⟨RX12, TX12, 75, cls12, by decide, Or.inl (by rw [h]; exact iT_6 110 (by first | rfl | decide +kernel) (by decide +kernel))⟩
theorem fwX12_172 {M : Mt} (h : M.1.cls = RX12) : FLW M 172 12 2 := ⟨RX12, TX12, 75, cls12, by decide, by decide +kernel, Or.inl (by rw [h]; exact iT_6 110 (by first | rfl | decide +kernel) (by decide +kernel))⟩
theorem fX12_13 {M : Mt} (h : M.1.cls = RX12) : FL M 13 12 3 := ⟨RX12, TX12, 75, cls12, by decide, Or.inl (by rw [h]; exact iT_6 111 (by first | rfl | decide +kernel) (by decide +kernel))⟩
theorem ffX12_13 {M : Mt} (h : M.1.cls = RX12) (hn : M.1.name = "<init>") : FLF M 13 12 3 := ⟨hn, RX12, TX12, 75, cls12, by decide, by decide +kernel, by rw [h]; decide +kernel, by rw [h]; exact iT_6 111 (by first | rfl | decide +kernel) (by decide +kernel)⟩
theorem fX12_16 {M : Mt} (h : M.1.cls = RX12) : FL M 16 12 4 := ⟨RX12, TX12, 75, cls12, by decide, Or.inl (by rw [h]; exact iT_6 112 (by first | rfl | decide +kernel) (by decide +kernel))⟩
theorem ffX12_16 {M : Mt} (h : M.1.cls = RX12) (hn : M.1.name = "<init>") : FLF M 16 12 4 := ⟨hn, RX12, TX12, 75, cls12, by decide, by decide +kernel, by rw [h]; decide +kernel, by rw [h]; exact iT_6 112 (by first | rfl | decide +kernel) (by decide +kernel)⟩
theorem fX12_19 {M : Mt} (h : M.1.cls = RX12) : FL M 19 12 5 := ⟨RX12, TX12, 75, cls12, by decide, Or.inl (by rw [h]; exact iT_6 113 (by first | rfl | decide +kernel) (by decide +kernel))⟩
theorem ffX12_19 {M : Mt} (h : M.1.cls = RX12) (hn : M.1.name = "<init>") : FLF M 19 12 5 := ⟨hn, RX12, TX12, 75, cls12, by decide, by decide +kernel, by rw [h]; decide +kernel, by rw [h]; exact iT_6 113 (by first | rfl | decide +kernel) (by decide +kernel)⟩
theorem fX12_22 {M : Mt} (h : M.1.cls = RX12) : FL M 22 12 6 := ⟨RX12, TX12, 75, cls12, by decide, Or.inl (by rw [h]; exact iT_6 114 (by first | rfl | decide +kernel) (by decide +kernel))⟩
theorem ffX12_22 {M : Mt} (h : M.1.cls = RX12) (hn : M.1.name = "<init>") : FLF M 22 12 6 := ⟨hn, RX12, TX12, 75, cls12, by decide, by decide +kernel, by rw [h]; decide +kernel, by rw [h]; exact iT_6 114 (by first | rfl | decide +kernel) (by decide +kernel)⟩
theorem fX12_25 {M : Mt} (h : M.1.cls = RX12) : FL M 25 12 7 := ⟨RX12, TX12, 75, cls12, by decide, Or.inl (by rw [h]; exact iT_6 115 (by first | rfl | decide +kernel) (by decide +kernel))⟩
theorem ffX12_25 {M : Mt} (h : M.1.cls = RX12) (hn : M.1.name = "<init>") : FLF M 25 12 7 := ⟨hn, RX12, TX12, 75, cls12, by decide, by decide +kernel, by rw [h]; decide +kernel, by rw [h]; exact iT_6 115 (by first | rfl | decide +kernel) (by decide +kernel)⟩
theorem fX12_28 {M : Mt} (h : M.1.cls = RX12) : FL M 28 12 8 := ⟨RX12, TX12, 75, cls12, by decide, Or.inl (by rw [h]; exact iT_6 116 (by first | rfl | decide +kernel) (by decide +kernel))⟩
theorem ffX12_28 {M : Mt} (h : M.1.cls = RX12) (hn : M.1.name = "<init>") : FLF M 28 12 8 := ⟨hn, RX12, TX12, 75, cls12, by decide, by decide +kernel, by rw [h]; decide +kernel, by rw [h]; exact iT_6 116 (by first | rfl | decide +kernel) (by decide +kernel)⟩
theorem fX12_31 {M : Mt} (h : M.1.cls = RX12) : FL M 31 12 9 := ⟨RX12, TX12, 75, cls12, by decide, Or.inl (by rw [h]; exact iT_6 117 (by first | rfl | decide +kernel) (by decide +kernel))⟩
theorem ffX12_31 {M : Mt} (h : M.1.cls = RX12) (hn : M.1.name = "<init>") : FLF M 31 12 9 := ⟨hn, RX12, TX12, 75, cls12, by decide, by decide +kernel, by rw [h]; decide +kernel, by rw [h]; exact iT_6 117 (by first | rfl | decide +kernel) (by decide +kernel)⟩
theorem fX12_34 {M : Mt} (h : M.1.cls = RX12) : FL M 34 12 10 := ⟨RX12, TX12, 75, cls12, by decide, Or.inl (by rw [h]; exact iT_6 118 (by first | rfl | decide +kernel) (by decide +kernel))⟩
theorem ffX12_34 {M : Mt} (h : M.1.cls = RX12) (hn : M.1.name = "<init>") : FLF M 34 12 10 := ⟨hn, RX12, TX12, 75, cls12, by decide, by decide +kernel, by rw [h]; decide +kernel, by rw [h]; exact iT_6 118 (by first | rfl | decide +kernel) (by decide +kernel)⟩
theorem fX12_37 {M : Mt} (h : M.1.cls = RX12) : FL M 37 12 11 := ⟨RX12, TX12, 75, cls12, by decide, Or.inl (by rw [h]; exact iT_6 119 (by first | rfl | decide +kernel) (by decide +kernel))⟩
theorem ffX12_37 {M : Mt} (h : M.1.cls = RX12) (hn : M.1.name = "<init>") : FLF M 37 12 11 := ⟨hn, RX12, TX12, 75, cls12, by decide, by decide +kernel, by rw [h]; decide +kernel, by rw [h]; exact iT_6 119 (by first | rfl | decide +kernel) (by decide +kernel)⟩
theorem fX12_40 {M : Mt} (h : M.1.cls = RX12) : FL M 40 12 12 := ⟨RX12, TX12, 75, cls12, by decide, Or.inl (by rw [h]; exact iT_6 120 (by first | rfl | decide +kernel) (by decide +kernel))⟩
theorem ffX12_40 {M : Mt} (h : M.1.cls = RX12) (hn : M.1.name = "<init>") : FLF M 40 12 12 := ⟨hn, RX12, TX12, 75, cls12, by decide, by decide +kernel, by rw [h]; decide +kernel, by rw [h]; exact iT_6 120 (by first | rfl | decide +kernel) (by decide +kernel)⟩
theorem fX12_43 {M : Mt} (h : M.1.cls = RX12) : FL M 43 12 13 := ⟨RX12, TX12, 75, cls12, by decide, Or.inl (by rw [h]; exact iT_6 121 (by first | rfl | decide +kernel) (by decide +kernel))⟩
theorem ffX12_43 {M : Mt} (h : M.1.cls = RX12) (hn : M.1.name = "<init>") : FLF M 43 12 13 := ⟨hn, RX12, TX12, 75, cls12, by decide, by decide +kernel, by rw [h]; decide +kernel, by rw [h]; exact iT_6 121 (by first | rfl | decide +kernel) (by decide +kernel)⟩
theorem fX12_46 {M : Mt} (h : M.1.cls = RX12) : FL M 46 12 14 := ⟨RX12, TX12, 75, cls12, by decide, Or.inl (by rw [h]; exact iT_6 122 (by first | rfl | decide +kernel) (by decide +kernel))⟩
