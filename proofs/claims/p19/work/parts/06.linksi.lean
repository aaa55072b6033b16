theorem ffX11_38 {M : Mt} (h : M.1.cls = RX11) (hn : M.1.name = "<init>") : FLF M 38 11 5 := ⟨hn, RX11, TX11, 12, cls11, by decide, by decide +kernel, by rw [h]; decide +kernel, by rw [h]; exact iT_3 72 (by first | rfl | decide +kernel) (by decide +kernel)⟩
theorem fX11_41 {M : Mt} (h : M.1.cls = RX11) : FL M 41 11 6 := ⟨RX11, TX11, 12, cls11, by decide, Or.inl (by rw [h]; exact iT_3 73 (by first | rfl | decide +kernel) (by decide +kernel))⟩
theorem fwX11_41 {M : Mt} (h : M.1.cls = RX11) : FLW M 41 11 6 := ⟨RX11, TX11, 12, cls11, by decide, by decide +kernel, Or.inl (by rw [h]; exact iT_3 73 (by first | rfl | decide +kernel) (by decide +kernel))⟩
theorem fX11_50 {M : Mt} (h : M.1.cls = RX11) : FL M 50 11 7 := ⟨RX11, TX11, 12, cls11, by decide, Or.inl (by rw [h]; exact iT_3 74 (by first | rfl | decide +kernel) (by decide +kernel))⟩
theorem ffX11_50 {M : Mt} (h : M.1.cls = RX11) (hn : M.1.name = "<init>") : FLF M 50 11 7 := ⟨hn, RX11, TX11, 12, cls11, by decide, by decide +kernel, by rw [h]; decide +kernel, by rw [h]; exact iT_3 74 (by first | rfl | decide +kernel) (by decide +kernel)⟩
theorem fX11_57 {M : Mt} (h : M.1.cls = RX11) : FL M 57 11 8 := ⟨RX11, TX11, 12, cls11, by decide, Or.inl (by rw [h]; exact iT_3 75 (by first | rfl | decide +kernel) (by decide +kernel))⟩
theorem ffX11_57 {M : Mt} (h : M.1.cls = RX11) (hn : M.1.name = "<init>") : FLF M 57 11 8 := ⟨hn, RX11, TX11, 12, cls11, by decide, by decide +kernel, by rw [h]; decide +kernel, by rw [h]; exact iT_3 75 (by first | rfl | decide +kernel) (by decide +kernel)⟩
theorem fX11_64 {M : Mt} (h : M.1.cls = RX11) : FL M 64 11 9 := ⟨RX11, TX11, 12, cls11, by decide, Or.inl (by rw [h]; exact iT_3 76 (by first | rfl | decide +kernel) (by decide +kernel))⟩
theorem ffX11_64 {M : Mt} (h : M.1.cls = RX11) (hn : M.1.name = "<init>") : FLF M 64 11 9 := ⟨hn, RX11, TX11, 12, cls11, by decide, by decide +kernel, by rw [h]; decide +kernel, by rw [h]; exact iT_3 76 (by first | rfl | decide +kernel) (by decide +kernel)⟩
theorem fX11_71 {M : Mt} (h : M.1.cls = RX11) : FL M 71 11 10 := ⟨RX11, TX11, 12, cls11, by decide, Or.inl (by rw [h]; exact iT_3 77 (by first | rfl | decide +kernel) (by decide +kernel))⟩
theorem ffX11_71 {M : Mt} (h : M.1.cls = RX11) (hn : M.1.name = "<init>") : FLF M 71 11 10 := ⟨hn, RX11, TX11, 12, cls11, by decide, by decide +kernel, by rw [h]; decide +kernel, by rw [h]; exact iT_3 77 (by first | rfl | decide +kernel) (by decide +kernel)⟩
theorem fX11_78 {M : Mt} (h : M.1.cls = RX11) : FL M 78 11 11 := ⟨RX11, TX11, 12, cls11, by decide, Or.inl (by rw [h]; exact iT_3 78 (by first | rfl | decide +kernel) (by decide +kernel))⟩
theorem ffX11_78 {M : Mt} (h : M.1.cls = RX11) (hn : M.1.name = "<init>") : FLF M 78 11 11 := ⟨hn, RX11, TX11, 12, cls11, by decide, by decide +kernel, by rw [h]; decide +kernel, by rw [h]; exact iT_3 78 (by first | rfl | decide +kernel) (by decide +kernel)⟩
theorem lL_21 {M : Mt} (h : M.1.cls = RL) : LK M 21 mX11_feed := Or.inl (by rw [h]; exact iT_3 104 (by rfl) (by decide +kernel))
theorem lX11_85 {M : Mt} (h : M.1.cls = RX11) : LK M 85 mX11_write := Or.inl (by rw [h]; exact iT_3 108 (by rfl) (by decide +kernel))
theorem lL_26 {M : Mt} (h : M.1.cls = RL) : LK M 26 mX11_text := Or.inl (by rw [h]; exact iT_3 112 (by rfl) (by decide +kernel))
theorem lX11_89 {M : Mt} (h : M.1.cls = RX11) : LK M 89 mX4_read := Or.inl (by rw [h]; exact iT_3 116 (by rfl) (by decide +kernel))
theorem lX4_45 {M : Mt} (h : M.1.cls = RX4) : LK M 45 mX9_clear := Or.inl (by rw [h]; exact iT_3 120 (by rfl) (by decide +kernel))
theorem lX9_72 {M : Mt} (h : M.1.cls = RX9) : LK M 72 mX7_clear := Or.inl (by rw [h]; exact iT_3 124 (by rfl) (by decide +kernel))
theorem lX7_37 {M : Mt} (h : M.1.cls = RX7) : LK M 37 mX11_fill := Or.inr ⟨"GirlShots", by rw [h]; exact iTN_3 128 (by rfl) (by decide +kernel)⟩
theorem lX9_75 {M : Mt} (h : M.1.cls = RX9) : LK M 75 mX1_clear := Or.inl (by rw [h]; exact iT_3 129 (by rfl) (by decide +kernel))
theorem lX4_48 {M : Mt} (h : M.1.cls = RX4) : LK M 48 mX8_begin := Or.inl (by rw [h]; exact iT_3 133 (by rfl) (by decide +kernel))
theorem lX8_63 {M : Mt} (h : M.1.cls = RX8) : LK M 63 mX8_step := Or.inl (by rw [h]; exact iT_3 137 (by rfl) (by decide +kernel))
theorem lX8_66 {M : Mt} (h : M.1.cls = RX8) : LK M 66 mX8_signAt := Or.inl (by rw [h]; exact iT_3 141 (by rfl) (by decide +kernel))
theorem lX8_70 {M : Mt} (h : M.1.cls = RX8) : LK M 70 mX8_isLetter := Or.inl (by rw [h]; exact iT_3 145 (by rfl) (by decide +kernel))
theorem lX8_74 {M : Mt} (h : M.1.cls = RX8) : LK M 74 mX8_word := Or.inl (by rw [h]; exact iT_3 148 (by rfl) (by decide +kernel))
theorem lX8_77 {M : Mt} (h : M.1.cls = RX8) : LK M 77 mX8_isDigit := Or.inl (by rw [h]; exact iT_3 152 (by rfl) (by decide +kernel))
theorem lX8_80 {M : Mt} (h : M.1.cls = RX8) : LK M 80 mX8_number := Or.inl (by rw [h]; exact iT_3 155 (by rfl) (by decide +kernel))
theorem kX8_89 : Cond.constant RX8 89 (1000000) ∈ ALLW := iT_3 159 (by decide +kernel) (by decide +kernel)
theorem lX8_90 {M : Mt} (h : M.1.cls = RX8) : LK M 90 mJ9_min_7cf53 := Or.inl (by rw [h]; exact iT_3 160 (by rfl) (by decide +kernel))
theorem lX8_83 {M : Mt} (h : M.1.cls = RX8) : LK M 83 mX8_kindOf := Or.inl (by rw [h]; exact iT_3 161 (by rfl) (by decide +kernel))
theorem lX8_86 {M : Mt} (h : M.1.cls = RX8) : LK M 86 mX8_isPair := Or.inl (by rw [h]; exact iT_3 164 (by rfl) (by decide +kernel))
theorem lX4_55 {M : Mt} (h : M.1.cls = RX4) : LK M 55 mX4_line := Or.inl (by rw [h]; exact iT_3 167 (by rfl) (by decide +kernel))
theorem lX4_76 {M : Mt} (h : M.1.cls = RX4) : LK M 76 mX4_markLine := Or.inl (by rw [h]; exact iT_3 171 (by rfl) (by decide +kernel))
theorem lX4_115 {M : Mt} (h : M.1.cls = RX4) : LK M 115 mX7_isFull := Or.inl (by rw [h]; exact iT_3 175 (by rfl) (by decide +kernel))
theorem lX4_121 {M : Mt} (h : M.1.cls = RX4) : LK M 121 mX4_begin := Or.inl (by rw [h]; exact iT_3 179 (by rfl) (by decide +kernel))
theorem lX4_58 {M : Mt} (h : M.1.cls = RX4) : LK M 58 mX4_fail := Or.inl (by rw [h]; exact iT_3 183 (by rfl) (by decide +kernel))
theorem lX4_65 {M : Mt} (h : M.1.cls = RX4) : LK M 65 mX8_step := Or.inl (by rw [h]; exact iT_3 187 (by rfl) (by decide +kernel))
theorem lX4_124 {M : Mt} (h : M.1.cls = RX4) : LK M 124 mX4_fresh := Or.inl (by rw [h]; exact iT_3 188 (by rfl) (by decide +kernel))
theorem lX4_170 {M : Mt} (h : M.1.cls = RX4) : LK M 170 mX7_find := Or.inl (by rw [h]; exact iT_3 192 (by rfl) (by decide +kernel))
theorem lX7_45 {M : Mt} (h : M.1.cls = RX7) : LK M 45 mX11_at := Or.inr ⟨"GirlShots", by rw [h]; exact iTN_3 196 (by rfl) (by decide +kernel)⟩
theorem lX4_128 {M : Mt} (h : M.1.cls = RX4) : LK M 128 mX4_number := Or.inl (by rw [h]; exact iT_3 197 (by rfl) (by decide +kernel))
theorem lX4_131 {M : Mt} (h : M.1.cls = RX4) : LK M 131 mX7_add := Or.inl (by rw [h]; exact iT_3 201 (by rfl) (by decide +kernel))
theorem lX7_49 {M : Mt} (h : M.1.cls = RX7) : LK M 49 mX11_put := Or.inr ⟨"GirlShots", by rw [h]; exact iTN_3 205 (by rfl) (by decide +kernel)⟩
theorem lX4_79 {M : Mt} (h : M.1.cls = RX4) : LK M 79 mX4_shotLine := Or.inl (by rw [h]; exact iT_3 206 (by rfl) (by decide +kernel))
theorem lX4_82 {M : Mt} (h : M.1.cls = RX4) : LK M 82 mX4_pairLine := Or.inl (by rw [h]; exact iT_3 210 (by rfl) (by decide +kernel))
theorem lX4_141 {M : Mt} (h : M.1.cls = RX4) : LK M 141 mX4_find := Or.inl (by rw [h]; exact iT_3 214 (by rfl) (by decide +kernel))
theorem lX4_147 {M : Mt} (h : M.1.cls = RX4) : LK M 147 mX11_at := Or.inr ⟨"GirlShots", by rw [h]; exact iTN_3 218 (by rfl) (by decide +kernel)⟩
theorem lX4_154 {M : Mt} (h : M.1.cls = RX4) : LK M 154 mX11_put := Or.inr ⟨"GirlShots", by rw [h]; exact iTN_3 219 (by rfl) (by decide +kernel)⟩
theorem lX4_85 {M : Mt} (h : M.1.cls = RX4) : LK M 85 mX4_partyLine := Or.inl (by rw [h]; exact iT_3 220 (by rfl) (by decide +kernel))
theorem lX4_88 {M : Mt} (h : M.1.cls = RX4) : LK M 88 mX4_clerkLine := Or.inl (by rw [h]; exact iT_3 224 (by rfl) (by decide +kernel))
theorem lX4_91 {M : Mt} (h : M.1.cls = RX4) : LK M 91 mX4_coldLine := Or.inl (by rw [h]; exact iT_3 228 (by rfl) (by decide +kernel))
theorem lX4_97 {M : Mt} (h : M.1.cls = RX4) : LK M 97 mX4_onlyOnce := Or.inl (by rw [h]; exact iT_3 232 (by rfl) (by decide +kernel))
theorem kX4_107 : Cond.constant RX4 107 (99999) ∈ ALLW := iT_3 236 (by decide +kernel) (by decide +kernel)
theorem lX4_108 {M : Mt} (h : M.1.cls = RX4) : LK M 108 mX4_lawLine := Or.inl (by rw [h]; exact iT_3 237 (by rfl) (by decide +kernel))
theorem lX4_188 {M : Mt} (h : M.1.cls = RX4) : LK M 188 mX4_side := Or.inl (by rw [h]; exact iT_4 1 (by rfl) (by decide +kernel))
theorem lX4_192 {M : Mt} (h : M.1.cls = RX4) : LK M 192 mX4_join := Or.inl (by rw [h]; exact iT_4 5 (by rfl) (by decide +kernel))
theorem lX4_212 {M : Mt} (h : M.1.cls = RX4) : LK M 212 mX4_topRank := Or.inl (by rw [h]; exact iT_4 9 (by rfl) (by decide +kernel))
theorem lX4_206 {M : Mt} (h : M.1.cls = RX4) : LK M 206 mX1_add := Or.inl (by rw [h]; exact iT_4 13 (by rfl) (by decide +kernel))
theorem lX4_196 {M : Mt} (h : M.1.cls = RX4) : LK M 196 mX4_operand := Or.inl (by rw [h]; exact iT_4 17 (by rfl) (by decide +kernel))
theorem lX4_203 {M : Mt} (h : M.1.cls = RX4) : LK M 203 mX4_knot := Or.inl (by rw [h]; exact iT_4 21 (by rfl) (by decide +kernel))
theorem lX4_209 {M : Mt} (h : M.1.cls = RX4) : LK M 209 mX4_hold := Or.inl (by rw [h]; exact iT_4 25 (by rfl) (by decide +kernel))
theorem lX4_216 {M : Mt} (h : M.1.cls = RX4) : LK M 216 mX4_rank := Or.inl (by rw [h]; exact iT_4 29 (by rfl) (by decide +kernel))
theorem lX4_200 {M : Mt} (h : M.1.cls = RX4) : LK M 200 mX4_sign := Or.inl (by rw [h]; exact iT_4 32 (by rfl) (by decide +kernel))
theorem lX4_68 {M : Mt} (h : M.1.cls = RX4) : LK M 68 mX9_settle := Or.inl (by rw [h]; exact iT_4 36 (by rfl) (by decide +kernel))
theorem lX11_96 {M : Mt} (h : M.1.cls = RX11) : LK M 96 mX9_copy := Or.inl (by rw [h]; exact iT_4 40 (by rfl) (by decide +kernel))
theorem lX9_76 {M : Mt} (h : M.1.cls = RX9) : LK M 76 mX7_copy := Or.inl (by rw [h]; exact iT_4 44 (by rfl) (by decide +kernel))
theorem lX7_41 {M : Mt} (h : M.1.cls = RX7) : LK M 41 mX11_copyRow := Or.inr ⟨"GirlShots", by rw [h]; exact iTN_4 48 (by rfl) (by decide +kernel)⟩
theorem lX9_80 {M : Mt} (h : M.1.cls = RX9) : LK M 80 mX11_copyRow := Or.inr ⟨"GirlShots", by rw [h]; exact iTN_4 49 (by rfl) (by decide +kernel)⟩
theorem lX9_84 {M : Mt} (h : M.1.cls = RX9) : LK M 84 mX1_copy := Or.inl (by rw [h]; exact iT_4 50 (by rfl) (by decide +kernel))
theorem lX1_30 {M : Mt} (h : M.1.cls = RX1) : LK M 30 mX11_copyRow := Or.inr ⟨"GirlShots", by rw [h]; exact iTN_4 54 (by rfl) (by decide +kernel)⟩
theorem lX11_99 {M : Mt} (h : M.1.cls = RX11) : LK M 99 mX6_clear := Or.inl (by rw [h]; exact iT_4 55 (by rfl) (by decide +kernel))
theorem lX11_102 {M : Mt} (h : M.1.cls = RX11) : LK M 102 mX10_clear := Or.inl (by rw [h]; exact iT_4 59 (by rfl) (by decide +kernel))
theorem lL_31 {M : Mt} (h : M.1.cls = RL) : LK M 31 mX11_fault := Or.inl (by rw [h]; exact iT_4 63 (by rfl) (by decide +kernel))
theorem lL_35 {M : Mt} (h : M.1.cls = RL) : LK M 35 mX11_named := Or.inl (by rw [h]; exact iT_4 67 (by rfl) (by decide +kernel))
theorem lX11_116 {M : Mt} (h : M.1.cls = RX11) : LK M 116 mX7_find := Or.inl (by rw [h]; exact iT_4 71 (by rfl) (by decide +kernel))
theorem lL_45 {M : Mt} (h : M.1.cls = RL) : LK M 45 mX11_shot := Or.inl (by rw [h]; exact iT_4 72 (by rfl) (by decide +kernel))
theorem lX11_131 {M : Mt} (h : M.1.cls = RX11) : LK M 131 mX7_holds := Or.inl (by rw [h]; exact iT_4 76 (by rfl) (by decide +kernel))
theorem lX11_146 {M : Mt} (h : M.1.cls = RX11) : LK M 146 mX11_at := Or.inl (by rw [h]; exact iT_4 80 (by rfl) (by decide +kernel))
theorem lX11_174 {M : Mt} (h : M.1.cls = RX11) : LK M 174 mX5_clashing := Or.inl (by rw [h]; exact iT_4 81 (by rfl) (by decide +kernel))
theorem lX5_93 {M : Mt} (h : M.1.cls = RX5) : LK M 93 mX5_wayIn := Or.inl (by rw [h]; exact iT_4 85 (by rfl) (by decide +kernel))
theorem lX5_89 {M : Mt} (h : M.1.cls = RX5) : LK M 89 mX11_at := Or.inr ⟨"GirlShots", by rw [h]; exact iTN_4 89 (by rfl) (by decide +kernel)⟩
theorem lL_49 {M : Mt} (h : M.1.cls = RL) : LK M 49 mX11_way := Or.inl (by rw [h]; exact iT_4 90 (by rfl) (by decide +kernel))
theorem lX11_180 {M : Mt} (h : M.1.cls = RX11) : LK M 180 mX5_wayIn := Or.inl (by rw [h]; exact iT_4 94 (by rfl) (by decide +kernel))
theorem lL_53 {M : Mt} (h : M.1.cls = RL) : LK M 53 mX11_party := Or.inl (by rw [h]; exact iT_4 95 (by rfl) (by decide +kernel))
theorem lL_57 {M : Mt} (h : M.1.cls = RL) : LK M 57 mX11_clerk := Or.inl (by rw [h]; exact iT_4 99 (by rfl) (by decide +kernel))
theorem lL_61 {M : Mt} (h : M.1.cls = RL) : LK M 61 mX11_law := Or.inl (by rw [h]; exact iT_4 103 (by rfl) (by decide +kernel))
theorem lX11_189 {M : Mt} (h : M.1.cls = RX11) : LK M 189 mX0_begin := Or.inl (by rw [h]; exact iT_4 107 (by rfl) (by decide +kernel))
theorem lX0_44 {M : Mt} (h : M.1.cls = RX0) : LK M 44 mX5_copy := Or.inl (by rw [h]; exact iT_4 111 (by rfl) (by decide +kernel))
theorem lX0_59 {M : Mt} (h : M.1.cls = RX0) : LK M 59 mX11_copyRow := Or.inr ⟨"GirlShots", by rw [h]; exact iTN_4 115 (by rfl) (by decide +kernel)⟩
theorem lX11_193 {M : Mt} (h : M.1.cls = RX11) : LK M 193 mX11_noticeNow := Or.inl (by rw [h]; exact iT_4 116 (by rfl) (by decide +kernel))
theorem kX11_202 : Cond.constantLong RX11 202 (-9223372036854775808) ∈ ALLW := iT_4 120 (by decide +kernel) (by decide +kernel)
theorem lX11_208 {M : Mt} (h : M.1.cls = RX11) : LK M 208 mX0_noticeWorth := Or.inl (by rw [h]; exact iT_4 121 (by rfl) (by decide +kernel))
theorem lX0_86 {M : Mt} (h : M.1.cls = RX0) : LK M 86 mX11_at := Or.inr ⟨"GirlShots", by rw [h]; exact iTN_4 125 (by rfl) (by decide +kernel)⟩
theorem lX0_210 {M : Mt} (h : M.1.cls = RX0) : LK M 210 mX0_isSaid := Or.inl (by rw [h]; exact iT_4 126 (by rfl) (by decide +kernel))
theorem lX0_213 {M : Mt} (h : M.1.cls = RX0) : LK M 213 mX5_filmedWith := Or.inl (by rw [h]; exact iT_4 130 (by rfl) (by decide +kernel))
theorem lX0_216 {M : Mt} (h : M.1.cls = RX0) : LK M 216 mX0_worthOf := Or.inl (by rw [h]; exact iT_4 134 (by rfl) (by decide +kernel))
theorem kX0_181 : Cond.constantLong RX0 181 (-9223372036854775808) ∈ ALLW := iT_4 138 (by decide +kernel) (by decide +kernel)
theorem lX0_235 {M : Mt} (h : M.1.cls = RX0) : LK M 235 mX1_worth := Or.inl (by rw [h]; exact iT_4 139 (by rfl) (by decide +kernel))
theorem lX1_34 {M : Mt} (h : M.1.cls = RX1) : LK M 34 mX11_at := Or.inr ⟨"GirlShots", by rw [h]; exact iTN_4 143 (by rfl) (by decide +kernel)⟩
theorem lX1_38 {M : Mt} (h : M.1.cls = RX1) : LK M 38 mX1_partsOf := Or.inl (by rw [h]; exact iT_4 144 (by rfl) (by decide +kernel))
theorem lX1_42 {M : Mt} (h : M.1.cls = RX1) : LK M 42 mX1_openAt := Or.inl (by rw [h]; exact iT_4 147 (by rfl) (by decide +kernel))
theorem lX1_46 {M : Mt} (h : M.1.cls = RX1) : LK M 46 mX1_join := Or.inl (by rw [h]; exact iT_4 151 (by rfl) (by decide +kernel))
theorem kX1_54 : Cond.constantLong RX1 54 (1000000000000) ∈ ALLW := iT_4 154 (by decide +kernel) (by decide +kernel)
theorem kX1_58 : Cond.constantLong RX1 58 (-9223372036854775808) ∈ ALLW := iT_4 155 (by decide +kernel) (by decide +kernel)
theorem lX1_50 {M : Mt} (h : M.1.cls = RX1) : LK M 50 mX1_leaf := Or.inl (by rw [h]; exact iT_4 156 (by rfl) (by decide +kernel))
theorem kX1_56 : Cond.constantLong RX1 56 (-1000000000000) ∈ ALLW := iT_4 159 (by decide +kernel) (by decide +kernel)
theorem lX11_197 {M : Mt} (h : M.1.cls = RX11) : LK M 197 mX0_yieldWorth := Or.inl (by rw [h]; exact iT_4 160 (by rfl) (by decide +kernel))
theorem lX11_204 {M : Mt} (h : M.1.cls = RX11) : LK M 204 mX0_againWorth := Or.inl (by rw [h]; exact iT_4 164 (by rfl) (by decide +kernel))
theorem lX0_226 {M : Mt} (h : M.1.cls = RX0) : LK M 226 mX5_givenCount := Or.inl (by rw [h]; exact iT_4 168 (by rfl) (by decide +kernel))
theorem lX0_171 {M : Mt} (h : M.1.cls = RX0) : LK M 171 mX5_clashing := Or.inl (by rw [h]; exact iT_4 172 (by rfl) (by decide +kernel))
theorem lX0_230 {M : Mt} (h : M.1.cls = RX0) : LK M 230 mX5_marksIn := Or.inl (by rw [h]; exact iT_4 173 (by rfl) (by decide +kernel))
theorem lL_66 {M : Mt} (h : M.1.cls = RL) : LK M 66 mX11_plums := Or.inl (by rw [h]; exact iT_4 177 (by rfl) (by decide +kernel))
theorem lX11_211 {M : Mt} (h : M.1.cls = RX11) : LK M 211 mX10_add := Or.inl (by rw [h]; exact iT_4 181 (by rfl) (by decide +kernel))
theorem lX10_29 {M : Mt} (h : M.1.cls = RX10) : LK M 29 mX11_put := Or.inr ⟨"GirlShots", by rw [h]; exact iTN_4 186 (by rfl) (by decide +kernel)⟩
theorem lX11_215 {M : Mt} (h : M.1.cls = RX11) : LK M 215 mX11_put := Or.inl (by rw [h]; exact iT_4 187 (by rfl) (by decide +kernel))
theorem lL_70 {M : Mt} (h : M.1.cls = RL) : LK M 70 mX11_move := Or.inl (by rw [h]; exact iT_4 188 (by rfl) (by decide +kernel))
theorem lL_75 {M : Mt} (h : M.1.cls = RL) : LK M 75 mX11_tell := Or.inl (by rw [h]; exact iT_4 192 (by rfl) (by decide +kernel))
theorem lX11_222 {M : Mt} (h : M.1.cls = RX11) : LK M 222 mX11_sayFromNowOn := Or.inl (by rw [h]; exact iT_4 196 (by rfl) (by decide +kernel))
theorem lL_79 {M : Mt} (h : M.1.cls = RL) : LK M 79 mX11_forget := Or.inl (by rw [h]; exact iT_4 200 (by rfl) (by decide +kernel))
theorem lL_84 {M : Mt} (h : M.1.cls = RL) : LK M 84 mX11_go := Or.inl (by rw [h]; exact iT_4 204 (by rfl) (by decide +kernel))
theorem lX11_229 {M : Mt} (h : M.1.cls = RX11) : LK M 229 mX0_pass := Or.inl (by rw [h]; exact iT_4 208 (by rfl) (by decide +kernel))
theorem lX0_67 {M : Mt} (h : M.1.cls = RX0) : LK M 67 mX0_isAway := Or.inl (by rw [h]; exact iT_4 212 (by rfl) (by decide +kernel))
theorem lX0_110 {M : Mt} (h : M.1.cls = RX0) : LK M 110 mX9_isCold := Or.inl (by rw [h]; exact iT_4 216 (by rfl) (by decide +kernel))
theorem lX9_93 {M : Mt} (h : M.1.cls = RX9) : LK M 93 mX11_at := Or.inr ⟨"GirlShots", by rw [h]; exact iTN_4 220 (by rfl) (by decide +kernel)⟩
