theorem fX11_103 {M : Mt} (h : M.1.cls = RX11) : FL M 103 9 10 := ⟨RX9, TX9, 15, cls9, by decide, Or.inl (by rw [h]; exact iT_1 151 (by first | rfl | decide +kernel) (by decide +kernel))⟩
theorem fwX11_103 {M : Mt} (h : M.1.cls = RX11) : FLW M 103 9 10 := ⟨RX9, TX9, 15, cls9, by decide, by decide +kernel, Or.inl (by rw [h]; exact iT_1 151 (by first | rfl | decide +kernel) (by decide +kernel))⟩
theorem fX9_52 {M : Mt} (h : M.1.cls = RX9) : FL M 52 9 11 := ⟨RX9, TX9, 15, cls9, by decide, Or.inl (by rw [h]; exact iT_1 152 (by first | rfl | decide +kernel) (by decide +kernel))⟩
theorem fwX9_52 {M : Mt} (h : M.1.cls = RX9) : FLW M 52 9 11 := ⟨RX9, TX9, 15, cls9, by decide, by decide +kernel, Or.inl (by rw [h]; exact iT_1 152 (by first | rfl | decide +kernel) (by decide +kernel))⟩
theorem fX4_219 {M : Mt} (h : M.1.cls = RX4) : FL M 219 9 11 := ⟨RX9, TX9, 15, cls9, by decide, Or.inl (by rw [h]; exact iT_1 153 (by first | rfl | decide +kernel) (by decide +kernel))⟩
theorem fwX4_219 {M : Mt} (h : M.1.cls = RX4) : FLW M 219 9 11 := ⟨RX9, TX9, 15, cls9, by decide, by decide +kernel, Or.inl (by rw [h]; exact iT_1 153 (by first | rfl | decide +kernel) (by decide +kernel))⟩
theorem fX11_360 {M : Mt} (h : M.1.cls = RX11) : FL M 360 9 11 := ⟨RX9, TX9, 15, cls9, by decide, Or.inl (by rw [h]; exact iT_1 154 (by first | rfl | decide +kernel) (by decide +kernel))⟩
theorem fwX11_360 {M : Mt} (h : M.1.cls = RX11) : FLW M 360 9 11 := ⟨RX9, TX9, 15, cls9, by decide, by decide +kernel, Or.inl (by rw [h]; exact iT_1 154 (by first | rfl | decide +kernel) (by decide +kernel))⟩
theorem fX9_58 {M : Mt} (h : M.1.cls = RX9) : FL M 58 9 12 := ⟨RX9, TX9, 15, cls9, by decide, Or.inl (by rw [h]; exact iT_1 155 (by first | rfl | decide +kernel) (by decide +kernel))⟩
theorem ffX9_58 {M : Mt} (h : M.1.cls = RX9) (hn : M.1.name = "<init>") : FLF M 58 9 12 := ⟨hn, RX9, TX9, 15, cls9, by decide, by decide +kernel, by rw [h]; decide +kernel, by rw [h]; exact iT_1 155 (by first | rfl | decide +kernel) (by decide +kernel)⟩
theorem fX0_206 {M : Mt} (h : M.1.cls = RX0) : FL M 206 9 12 := ⟨RX9, TX9, 15, cls9, by decide, Or.inl (by rw [h]; exact iT_1 156 (by first | rfl | decide +kernel) (by decide +kernel))⟩
theorem fX4_173 {M : Mt} (h : M.1.cls = RX4) : FL M 173 9 12 := ⟨RX9, TX9, 15, cls9, by decide, Or.inl (by rw [h]; exact iT_1 157 (by first | rfl | decide +kernel) (by decide +kernel))⟩
theorem fX9_62 {M : Mt} (h : M.1.cls = RX9) : FL M 62 9 13 := ⟨RX9, TX9, 15, cls9, by decide, Or.inl (by rw [h]; exact iT_1 158 (by first | rfl | decide +kernel) (by decide +kernel))⟩
theorem ffX9_62 {M : Mt} (h : M.1.cls = RX9) (hn : M.1.name = "<init>") : FLF M 62 9 13 := ⟨hn, RX9, TX9, 15, cls9, by decide, by decide +kernel, by rw [h]; decide +kernel, by rw [h]; exact iT_1 158 (by first | rfl | decide +kernel) (by decide +kernel)⟩
theorem fX0_220 {M : Mt} (h : M.1.cls = RX0) : FL M 220 9 13 := ⟨RX9, TX9, 15, cls9, by decide, Or.inl (by rw [h]; exact iT_1 159 (by first | rfl | decide +kernel) (by decide +kernel))⟩
theorem fX4_177 {M : Mt} (h : M.1.cls = RX4) : FL M 177 9 13 := ⟨RX9, TX9, 15, cls9, by decide, Or.inl (by rw [h]; exact iT_1 160 (by first | rfl | decide +kernel) (by decide +kernel))⟩
theorem fX9_65 {M : Mt} (h : M.1.cls = RX9) : FL M 65 9 14 := ⟨RX9, TX9, 15, cls9, by decide, Or.inl (by rw [h]; exact iT_1 161 (by first | rfl | decide +kernel) (by decide +kernel))⟩
theorem ffX9_65 {M : Mt} (h : M.1.cls = RX9) (hn : M.1.name = "<init>") : FLF M 65 9 14 := ⟨hn, RX9, TX9, 15, cls9, by decide, by decide +kernel, by rw [h]; decide +kernel, by rw [h]; exact iT_1 161 (by first | rfl | decide +kernel) (by decide +kernel)⟩
theorem fX0_223 {M : Mt} (h : M.1.cls = RX0) : FL M 223 9 14 := ⟨RX9, TX9, 15, cls9, by decide, Or.inl (by rw [h]; exact iT_1 162 (by first | rfl | decide +kernel) (by decide +kernel))⟩
theorem fX4_180 {M : Mt} (h : M.1.cls = RX4) : FL M 180 9 14 := ⟨RX9, TX9, 15, cls9, by decide, Or.inl (by rw [h]; exact iT_1 163 (by first | rfl | decide +kernel) (by decide +kernel))⟩
theorem lX11_26 {M : Mt} (h : M.1.cls = RX11) : LK M 26 mX4_init := Or.inr ⟨"GirlShots", by rw [h]; exact iTN_1 197 (by rfl) (by decide +kernel)⟩
theorem lX4_11 {M : Mt} (h : M.1.cls = RX4) : LK M 11 mX9_init := Or.inl (by rw [h]; exact iT_1 202 (by rfl) (by decide +kernel))
theorem lX4_27 {M : Mt} (h : M.1.cls = RX4) : LK M 27 mX8_init := Or.inl (by rw [h]; exact iT_1 205 (by rfl) (by decide +kernel))
theorem lX8_41 {M : Mt} (h : M.1.cls = RX8) : LK M 41 mJ0_length_8abf5 := Or.inl (by rw [h]; exact iT_1 210 (by rfl) (by decide +kernel))
theorem lJ0_335 {M : Mt} (h : M.1.cls = RJ0) : LK M 335 mJ0_coder_7d493 := Or.inl (by rw [h]; exact iT_1 214 (by rfl) (by decide +kernel))
theorem lX8_47 {M : Mt} (h : M.1.cls = RX8) : LK M 47 mJ0_charAt_5068e := Or.inl (by rw [h]; exact iT_1 220 (by rfl) (by decide +kernel))
theorem lJ0_492 {M : Mt} (h : M.1.cls = RJ0) : LK M 492 mJ0_isLatin1_aae02 := Or.inl (by rw [h]; exact iT_1 224 (by rfl) (by decide +kernel))
theorem lJ0_495 {M : Mt} (h : M.1.cls = RJ0) : LK M 495 mJ1_charAt_3b067 := Or.inl (by rw [h]; exact iT_1 228 (by rfl) (by decide +kernel))
theorem lJ1_9 {M : Mt} (h : M.1.cls = RJ1) : LK M 9 mJ0_checkIndex_df160 := Or.inl (by rw [h]; exact iT_1 231 (by rfl) (by decide +kernel))
theorem lJ0_1059 {M : Mt} (h : M.1.cls = RJ0) : LK M 1059 mJ3_checkIndex_8e157 := Or.inl (by rw [h]; exact iT_1 236 (by rfl) (by decide +kernel))
theorem lJ0_498 {M : Mt} (h : M.1.cls = RJ0) : LK M 498 mJ2_charAt_3b067 := Or.inl (by rw [h]; exact iT_1 239 (by rfl) (by decide +kernel))
theorem lJ2_67 {M : Mt} (h : M.1.cls = RJ2) : LK M 67 mJ2_checkIndex_2214a := Or.inl (by rw [h]; exact iT_2 2 (by rfl) (by decide +kernel))
theorem lJ2_48 {M : Mt} (h : M.1.cls = RJ2) : LK M 48 mJ2_length_9d52b := Or.inl (by rw [h]; exact iT_2 5 (by rfl) (by decide +kernel))
theorem lJ2_414 {M : Mt} (h : M.1.cls = RJ2) : LK M 414 mJ0_checkIndex_df160 := Or.inl (by rw [h]; exact iT_2 8 (by rfl) (by decide +kernel))
theorem lJ2_71 {M : Mt} (h : M.1.cls = RJ2) : LK M 71 mJ2_getChar_3b067 := Or.inl (by rw [h]; exact iT_2 9 (by rfl) (by decide +kernel))
theorem lX8_51 {M : Mt} (h : M.1.cls = RX8) : LK M 51 mX11_at := Or.inr ⟨"GirlShots", by rw [h]; exact iTN_2 18 (by rfl) (by decide +kernel)⟩
theorem lX8_55 {M : Mt} (h : M.1.cls = RX8) : LK M 55 mX8_packed := Or.inl (by rw [h]; exact iT_2 21 (by rfl) (by decide +kernel))
theorem lX8_59 {M : Mt} (h : M.1.cls = RX8) : LK M 59 mX11_put := Or.inr ⟨"GirlShots", by rw [h]; exact iTN_2 24 (by rfl) (by decide +kernel)⟩
theorem fX8_11 {M : Mt} (h : M.1.cls = RX8) : FL M 11 8 0 := ⟨RX8, TX8, 8, cls8, by decide, Or.inl (by rw [h]; exact iT_2 27 (by first | rfl | decide +kernel) (by decide +kernel))⟩
theorem ffX8_11 {M : Mt} (h : M.1.cls = RX8) (hn : M.1.name = "<init>") : FLF M 11 8 0 := ⟨hn, RX8, TX8, 8, cls8, by decide, by decide +kernel, by rw [h]; decide +kernel, by rw [h]; exact iT_2 27 (by first | rfl | decide +kernel) (by decide +kernel)⟩
theorem fX8_15 {M : Mt} (h : M.1.cls = RX8) : FL M 15 8 1 := ⟨RX8, TX8, 8, cls8, by decide, Or.inl (by rw [h]; exact iT_2 28 (by first | rfl | decide +kernel) (by decide +kernel))⟩
theorem fwX8_15 {M : Mt} (h : M.1.cls = RX8) : FLW M 15 8 1 := ⟨RX8, TX8, 8, cls8, by decide, by decide +kernel, Or.inl (by rw [h]; exact iT_2 28 (by first | rfl | decide +kernel) (by decide +kernel))⟩
theorem fX8_19 {M : Mt} (h : M.1.cls = RX8) : FL M 19 8 2 := ⟨RX8, TX8, 8, cls8, by decide, Or.inl (by rw [h]; exact iT_2 29 (by first | rfl | decide +kernel) (by decide +kernel))⟩
theorem fwX8_19 {M : Mt} (h : M.1.cls = RX8) : FLW M 19 8 2 := ⟨RX8, TX8, 8, cls8, by decide, by decide +kernel, Or.inl (by rw [h]; exact iT_2 29 (by first | rfl | decide +kernel) (by decide +kernel))⟩
theorem fX8_23 {M : Mt} (h : M.1.cls = RX8) : FL M 23 8 3 := ⟨RX8, TX8, 8, cls8, by decide, Or.inl (by rw [h]; exact iT_2 30 (by first | rfl | decide +kernel) (by decide +kernel))⟩
theorem fwX8_23 {M : Mt} (h : M.1.cls = RX8) : FLW M 23 8 3 := ⟨RX8, TX8, 8, cls8, by decide, by decide +kernel, Or.inl (by rw [h]; exact iT_2 30 (by first | rfl | decide +kernel) (by decide +kernel))⟩
theorem fX8_26 {M : Mt} (h : M.1.cls = RX8) : FL M 26 8 4 := ⟨RX8, TX8, 8, cls8, by decide, Or.inl (by rw [h]; exact iT_2 31 (by first | rfl | decide +kernel) (by decide +kernel))⟩
theorem fwX8_26 {M : Mt} (h : M.1.cls = RX8) : FLW M 26 8 4 := ⟨RX8, TX8, 8, cls8, by decide, by decide +kernel, Or.inl (by rw [h]; exact iT_2 31 (by first | rfl | decide +kernel) (by decide +kernel))⟩
theorem fX4_72 {M : Mt} (h : M.1.cls = RX4) : FL M 72 8 4 := ⟨RX8, TX8, 8, cls8, by decide, Or.inl (by rw [h]; exact iT_2 32 (by first | rfl | decide +kernel) (by decide +kernel))⟩
theorem fwX4_72 {M : Mt} (h : M.1.cls = RX4) : FLW M 72 8 4 := ⟨RX8, TX8, 8, cls8, by decide, by decide +kernel, Or.inl (by rw [h]; exact iT_2 32 (by first | rfl | decide +kernel) (by decide +kernel))⟩
theorem fX8_30 {M : Mt} (h : M.1.cls = RX8) : FL M 30 8 5 := ⟨RX8, TX8, 8, cls8, by decide, Or.inl (by rw [h]; exact iT_2 33 (by first | rfl | decide +kernel) (by decide +kernel))⟩
theorem fwX8_30 {M : Mt} (h : M.1.cls = RX8) : FLW M 30 8 5 := ⟨RX8, TX8, 8, cls8, by decide, by decide +kernel, Or.inl (by rw [h]; exact iT_2 33 (by first | rfl | decide +kernel) (by decide +kernel))⟩
theorem fX4_52 {M : Mt} (h : M.1.cls = RX4) : FL M 52 8 5 := ⟨RX8, TX8, 8, cls8, by decide, Or.inl (by rw [h]; exact iT_2 34 (by first | rfl | decide +kernel) (by decide +kernel))⟩
theorem fwX4_52 {M : Mt} (h : M.1.cls = RX4) : FLW M 52 8 5 := ⟨RX8, TX8, 8, cls8, by decide, by decide +kernel, Or.inl (by rw [h]; exact iT_2 34 (by first | rfl | decide +kernel) (by decide +kernel))⟩
theorem fX8_33 {M : Mt} (h : M.1.cls = RX8) : FL M 33 8 6 := ⟨RX8, TX8, 8, cls8, by decide, Or.inl (by rw [h]; exact iT_2 35 (by first | rfl | decide +kernel) (by decide +kernel))⟩
theorem fwX8_33 {M : Mt} (h : M.1.cls = RX8) : FLW M 33 8 6 := ⟨RX8, TX8, 8, cls8, by decide, by decide +kernel, Or.inl (by rw [h]; exact iT_2 35 (by first | rfl | decide +kernel) (by decide +kernel))⟩
theorem fX4_167 {M : Mt} (h : M.1.cls = RX4) : FL M 167 8 6 := ⟨RX8, TX8, 8, cls8, by decide, Or.inl (by rw [h]; exact iT_2 36 (by first | rfl | decide +kernel) (by decide +kernel))⟩
theorem fwX4_167 {M : Mt} (h : M.1.cls = RX4) : FLW M 167 8 6 := ⟨RX8, TX8, 8, cls8, by decide, by decide +kernel, Or.inl (by rw [h]; exact iT_2 36 (by first | rfl | decide +kernel) (by decide +kernel))⟩
theorem fX8_36 {M : Mt} (h : M.1.cls = RX8) : FL M 36 8 7 := ⟨RX8, TX8, 8, cls8, by decide, Or.inl (by rw [h]; exact iT_2 37 (by first | rfl | decide +kernel) (by decide +kernel))⟩
theorem fwX8_36 {M : Mt} (h : M.1.cls = RX8) : FLW M 36 8 7 := ⟨RX8, TX8, 8, cls8, by decide, by decide +kernel, Or.inl (by rw [h]; exact iT_2 37 (by first | rfl | decide +kernel) (by decide +kernel))⟩
theorem fX4_71 {M : Mt} (h : M.1.cls = RX4) : FL M 71 8 7 := ⟨RX8, TX8, 8, cls8, by decide, Or.inl (by rw [h]; exact iT_2 38 (by first | rfl | decide +kernel) (by decide +kernel))⟩
theorem fwX4_71 {M : Mt} (h : M.1.cls = RX4) : FLW M 71 8 7 := ⟨RX8, TX8, 8, cls8, by decide, by decide +kernel, Or.inl (by rw [h]; exact iT_2 38 (by first | rfl | decide +kernel) (by decide +kernel))⟩
theorem fX4_12 {M : Mt} (h : M.1.cls = RX4) : FL M 12 4 0 := ⟨RX4, TX4, 8, cls4, by decide, Or.inl (by rw [h]; exact iT_2 56 (by first | rfl | decide +kernel) (by decide +kernel))⟩
theorem ffX4_12 {M : Mt} (h : M.1.cls = RX4) (hn : M.1.name = "<init>") : FLF M 12 4 0 := ⟨hn, RX4, TX4, 8, cls4, by decide, by decide +kernel, by rw [h]; decide +kernel, by rw [h]; exact iT_2 56 (by first | rfl | decide +kernel) (by decide +kernel)⟩
theorem fX11_93 {M : Mt} (h : M.1.cls = RX11) : FL M 93 4 0 := ⟨RX4, TX4, 8, cls4, by decide, Or.inl (by rw [h]; exact iT_2 57 (by first | rfl | decide +kernel) (by decide +kernel))⟩
theorem fX4_18 {M : Mt} (h : M.1.cls = RX4) : FL M 18 4 1 := ⟨RX4, TX4, 8, cls4, by decide, Or.inl (by rw [h]; exact iT_2 58 (by first | rfl | decide +kernel) (by decide +kernel))⟩
theorem fwX4_18 {M : Mt} (h : M.1.cls = RX4) : FLW M 18 4 1 := ⟨RX4, TX4, 8, cls4, by decide, by decide +kernel, Or.inl (by rw [h]; exact iT_2 58 (by first | rfl | decide +kernel) (by decide +kernel))⟩
theorem fX11_106 {M : Mt} (h : M.1.cls = RX11) : FL M 106 4 1 := ⟨RX4, TX4, 8, cls4, by decide, Or.inl (by rw [h]; exact iT_2 59 (by first | rfl | decide +kernel) (by decide +kernel))⟩
theorem fwX11_106 {M : Mt} (h : M.1.cls = RX11) : FLW M 106 4 1 := ⟨RX4, TX4, 8, cls4, by decide, by decide +kernel, Or.inl (by rw [h]; exact iT_2 59 (by first | rfl | decide +kernel) (by decide +kernel))⟩
theorem fX4_22 {M : Mt} (h : M.1.cls = RX4) : FL M 22 4 2 := ⟨RX4, TX4, 8, cls4, by decide, Or.inl (by rw [h]; exact iT_2 60 (by first | rfl | decide +kernel) (by decide +kernel))⟩
theorem fwX4_22 {M : Mt} (h : M.1.cls = RX4) : FLW M 22 4 2 := ⟨RX4, TX4, 8, cls4, by decide, by decide +kernel, Or.inl (by rw [h]; exact iT_2 60 (by first | rfl | decide +kernel) (by decide +kernel))⟩
theorem fX11_109 {M : Mt} (h : M.1.cls = RX11) : FL M 109 4 2 := ⟨RX4, TX4, 8, cls4, by decide, Or.inl (by rw [h]; exact iT_2 61 (by first | rfl | decide +kernel) (by decide +kernel))⟩
theorem fwX11_109 {M : Mt} (h : M.1.cls = RX11) : FLW M 109 4 2 := ⟨RX4, TX4, 8, cls4, by decide, by decide +kernel, Or.inl (by rw [h]; exact iT_2 61 (by first | rfl | decide +kernel) (by decide +kernel))⟩
theorem fX4_28 {M : Mt} (h : M.1.cls = RX4) : FL M 28 4 3 := ⟨RX4, TX4, 8, cls4, by decide, Or.inl (by rw [h]; exact iT_2 62 (by first | rfl | decide +kernel) (by decide +kernel))⟩
theorem ffX4_28 {M : Mt} (h : M.1.cls = RX4) (hn : M.1.name = "<init>") : FLF M 28 4 3 := ⟨hn, RX4, TX4, 8, cls4, by decide, by decide +kernel, by rw [h]; decide +kernel, by rw [h]; exact iT_2 62 (by first | rfl | decide +kernel) (by decide +kernel)⟩
theorem fX4_32 {M : Mt} (h : M.1.cls = RX4) : FL M 32 4 4 := ⟨RX4, TX4, 8, cls4, by decide, Or.inl (by rw [h]; exact iT_2 63 (by first | rfl | decide +kernel) (by decide +kernel))⟩
theorem ffX4_32 {M : Mt} (h : M.1.cls = RX4) (hn : M.1.name = "<init>") : FLF M 32 4 4 := ⟨hn, RX4, TX4, 8, cls4, by decide, by decide +kernel, by rw [h]; decide +kernel, by rw [h]; exact iT_2 63 (by first | rfl | decide +kernel) (by decide +kernel)⟩
theorem fX4_36 {M : Mt} (h : M.1.cls = RX4) : FL M 36 4 5 := ⟨RX4, TX4, 8, cls4, by decide, Or.inl (by rw [h]; exact iT_2 64 (by first | rfl | decide +kernel) (by decide +kernel))⟩
theorem ffX4_36 {M : Mt} (h : M.1.cls = RX4) (hn : M.1.name = "<init>") : FLF M 36 4 5 := ⟨hn, RX4, TX4, 8, cls4, by decide, by decide +kernel, by rw [h]; decide +kernel, by rw [h]; exact iT_2 64 (by first | rfl | decide +kernel) (by decide +kernel)⟩
theorem fX4_39 {M : Mt} (h : M.1.cls = RX4) : FL M 39 4 6 := ⟨RX4, TX4, 8, cls4, by decide, Or.inl (by rw [h]; exact iT_2 65 (by first | rfl | decide +kernel) (by decide +kernel))⟩
theorem fwX4_39 {M : Mt} (h : M.1.cls = RX4) : FLW M 39 4 6 := ⟨RX4, TX4, 8, cls4, by decide, by decide +kernel, Or.inl (by rw [h]; exact iT_2 65 (by first | rfl | decide +kernel) (by decide +kernel))⟩
theorem fX4_42 {M : Mt} (h : M.1.cls = RX4) : FL M 42 4 7 := ⟨RX4, TX4, 8, cls4, by decide, Or.inl (by rw [h]; exact iT_2 66 (by first | rfl | decide +kernel) (by decide +kernel))⟩
theorem fwX4_42 {M : Mt} (h : M.1.cls = RX4) : FLW M 42 4 7 := ⟨RX4, TX4, 8, cls4, by decide, by decide +kernel, Or.inl (by rw [h]; exact iT_2 66 (by first | rfl | decide +kernel) (by decide +kernel))⟩
theorem lX11_33 {M : Mt} (h : M.1.cls = RX11) : LK M 33 mX5_init := Or.inr ⟨"GirlShots", by rw [h]; exact iTN_2 86 (by rfl) (by decide +kernel)⟩
theorem fX5_9 {M : Mt} (h : M.1.cls = RX5) : FL M 9 5 0 := ⟨RX5, TX5, 15, cls5, by decide, Or.inl (by rw [h]; exact iT_2 90 (by first | rfl | decide +kernel) (by decide +kernel))⟩
theorem fwX5_9 {M : Mt} (h : M.1.cls = RX5) : FLW M 9 5 0 := ⟨RX5, TX5, 15, cls5, by decide, by decide +kernel, Or.inl (by rw [h]; exact iT_2 90 (by first | rfl | decide +kernel) (by decide +kernel))⟩
theorem fX0_93 {M : Mt} (h : M.1.cls = RX0) : FL M 93 5 0 := ⟨RX5, TX5, 15, cls5, by decide, Or.inl (by rw [h]; exact iT_2 91 (by first | rfl | decide +kernel) (by decide +kernel))⟩
theorem fwX0_93 {M : Mt} (h : M.1.cls = RX0) : FLW M 93 5 0 := ⟨RX5, TX5, 15, cls5, by decide, by decide +kernel, Or.inl (by rw [h]; exact iT_2 91 (by first | rfl | decide +kernel) (by decide +kernel))⟩
theorem fX3_45 {M : Mt} (h : M.1.cls = RX3) : FL M 45 5 0 := ⟨RX5, TX5, 15, cls5, by decide, Or.inl (by rw [h]; exact iT_2 92 (by first | rfl | decide +kernel) (by decide +kernel))⟩
theorem fwX3_45 {M : Mt} (h : M.1.cls = RX3) : FLW M 45 5 0 := ⟨RX5, TX5, 15, cls5, by decide, by decide +kernel, Or.inl (by rw [h]; exact iT_2 92 (by first | rfl | decide +kernel) (by decide +kernel))⟩
theorem fX11_219 {M : Mt} (h : M.1.cls = RX11) : FL M 219 5 0 := ⟨RX5, TX5, 15, cls5, by decide, Or.inl (by rw [h]; exact iT_2 93 (by first | rfl | decide +kernel) (by decide +kernel))⟩
theorem fwX11_219 {M : Mt} (h : M.1.cls = RX11) : FLW M 219 5 0 := ⟨RX5, TX5, 15, cls5, by decide, by decide +kernel, Or.inl (by rw [h]; exact iT_2 93 (by first | rfl | decide +kernel) (by decide +kernel))⟩
theorem fX5_15 {M : Mt} (h : M.1.cls = RX5) : FL M 15 5 1 := ⟨RX5, TX5, 15, cls5, by decide, Or.inl (by rw [h]; exact iT_2 94 (by first | rfl | decide +kernel) (by decide +kernel))⟩
theorem fwX5_15 {M : Mt} (h : M.1.cls = RX5) : FLW M 15 5 1 := ⟨RX5, TX5, 15, cls5, by decide, by decide +kernel, Or.inl (by rw [h]; exact iT_2 94 (by first | rfl | decide +kernel) (by decide +kernel))⟩
theorem fX0_194 {M : Mt} (h : M.1.cls = RX0) : FL M 194 5 1 := ⟨RX5, TX5, 15, cls5, by decide, Or.inl (by rw [h]; exact iT_2 95 (by first | rfl | decide +kernel) (by decide +kernel))⟩
theorem fwX0_194 {M : Mt} (h : M.1.cls = RX0) : FLW M 194 5 1 := ⟨RX5, TX5, 15, cls5, by decide, by decide +kernel, Or.inl (by rw [h]; exact iT_2 95 (by first | rfl | decide +kernel) (by decide +kernel))⟩
theorem fX11_247 {M : Mt} (h : M.1.cls = RX11) : FL M 247 5 1 := ⟨RX5, TX5, 15, cls5, by decide, Or.inl (by rw [h]; exact iT_2 96 (by first | rfl | decide +kernel) (by decide +kernel))⟩
theorem fwX11_247 {M : Mt} (h : M.1.cls = RX11) : FLW M 247 5 1 := ⟨RX5, TX5, 15, cls5, by decide, by decide +kernel, Or.inl (by rw [h]; exact iT_2 96 (by first | rfl | decide +kernel) (by decide +kernel))⟩
theorem fX5_18 {M : Mt} (h : M.1.cls = RX5) : FL M 18 5 2 := ⟨RX5, TX5, 15, cls5, by decide, Or.inl (by rw [h]; exact iT_2 97 (by first | rfl | decide +kernel) (by decide +kernel))⟩
theorem fwX5_18 {M : Mt} (h : M.1.cls = RX5) : FLW M 18 5 2 := ⟨RX5, TX5, 15, cls5, by decide, by decide +kernel, Or.inl (by rw [h]; exact iT_2 97 (by first | rfl | decide +kernel) (by decide +kernel))⟩
theorem fX0_145 {M : Mt} (h : M.1.cls = RX0) : FL M 145 5 2 := ⟨RX5, TX5, 15, cls5, by decide, Or.inl (by rw [h]; exact iT_2 98 (by first | rfl | decide +kernel) (by decide +kernel))⟩
theorem fwX0_145 {M : Mt} (h : M.1.cls = RX0) : FLW M 145 5 2 := ⟨RX5, TX5, 15, cls5, by decide, by decide +kernel, Or.inl (by rw [h]; exact iT_2 98 (by first | rfl | decide +kernel) (by decide +kernel))⟩
theorem fX11_241 {M : Mt} (h : M.1.cls = RX11) : FL M 241 5 2 := ⟨RX5, TX5, 15, cls5, by decide, Or.inl (by rw [h]; exact iT_2 99 (by first | rfl | decide +kernel) (by decide +kernel))⟩
theorem fwX11_241 {M : Mt} (h : M.1.cls = RX11) : FLW M 241 5 2 := ⟨RX5, TX5, 15, cls5, by decide, by decide +kernel, Or.inl (by rw [h]; exact iT_2 99 (by first | rfl | decide +kernel) (by decide +kernel))⟩
theorem fX5_21 {M : Mt} (h : M.1.cls = RX5) : FL M 21 5 3 := ⟨RX5, TX5, 15, cls5, by decide, Or.inl (by rw [h]; exact iT_2 100 (by first | rfl | decide +kernel) (by decide +kernel))⟩
theorem fwX5_21 {M : Mt} (h : M.1.cls = RX5) : FLW M 21 5 3 := ⟨RX5, TX5, 15, cls5, by decide, by decide +kernel, Or.inl (by rw [h]; exact iT_2 100 (by first | rfl | decide +kernel) (by decide +kernel))⟩
theorem fX0_200 {M : Mt} (h : M.1.cls = RX0) : FL M 200 5 3 := ⟨RX5, TX5, 15, cls5, by decide, Or.inl (by rw [h]; exact iT_2 101 (by first | rfl | decide +kernel) (by decide +kernel))⟩
theorem fwX0_200 {M : Mt} (h : M.1.cls = RX0) : FLW M 200 5 3 := ⟨RX5, TX5, 15, cls5, by decide, by decide +kernel, Or.inl (by rw [h]; exact iT_2 101 (by first | rfl | decide +kernel) (by decide +kernel))⟩
theorem fX11_244 {M : Mt} (h : M.1.cls = RX11) : FL M 244 5 3 := ⟨RX5, TX5, 15, cls5, by decide, Or.inl (by rw [h]; exact iT_2 102 (by first | rfl | decide +kernel) (by decide +kernel))⟩
theorem fwX11_244 {M : Mt} (h : M.1.cls = RX11) : FLW M 244 5 3 := ⟨RX5, TX5, 15, cls5, by decide, by decide +kernel, Or.inl (by rw [h]; exact iT_2 102 (by first | rfl | decide +kernel) (by decide +kernel))⟩
theorem fX5_24 {M : Mt} (h : M.1.cls = RX5) : FL M 24 5 4 := ⟨RX5, TX5, 15, cls5, by decide, Or.inl (by rw [h]; exact iT_2 103 (by first | rfl | decide +kernel) (by decide +kernel))⟩
theorem fwX5_24 {M : Mt} (h : M.1.cls = RX5) : FLW M 24 5 4 := ⟨RX5, TX5, 15, cls5, by decide, by decide +kernel, Or.inl (by rw [h]; exact iT_2 103 (by first | rfl | decide +kernel) (by decide +kernel))⟩
theorem fX0_71 {M : Mt} (h : M.1.cls = RX0) : FL M 71 5 4 := ⟨RX5, TX5, 15, cls5, by decide, Or.inl (by rw [h]; exact iT_2 104 (by first | rfl | decide +kernel) (by decide +kernel))⟩
theorem fwX0_71 {M : Mt} (h : M.1.cls = RX0) : FLW M 71 5 4 := ⟨RX5, TX5, 15, cls5, by decide, by decide +kernel, Or.inl (by rw [h]; exact iT_2 104 (by first | rfl | decide +kernel) (by decide +kernel))⟩
theorem fX11_363 {M : Mt} (h : M.1.cls = RX11) : FL M 363 5 4 := ⟨RX5, TX5, 15, cls5, by decide, Or.inl (by rw [h]; exact iT_2 105 (by first | rfl | decide +kernel) (by decide +kernel))⟩
theorem fwX11_363 {M : Mt} (h : M.1.cls = RX11) : FLW M 363 5 4 := ⟨RX5, TX5, 15, cls5, by decide, by decide +kernel, Or.inl (by rw [h]; exact iT_2 105 (by first | rfl | decide +kernel) (by decide +kernel))⟩
theorem fX5_27 {M : Mt} (h : M.1.cls = RX5) : FL M 27 5 5 := ⟨RX5, TX5, 15, cls5, by decide, Or.inl (by rw [h]; exact iT_2 106 (by first | rfl | decide +kernel) (by decide +kernel))⟩
theorem fwX5_27 {M : Mt} (h : M.1.cls = RX5) : FLW M 27 5 5 := ⟨RX5, TX5, 15, cls5, by decide, by decide +kernel, Or.inl (by rw [h]; exact iT_2 106 (by first | rfl | decide +kernel) (by decide +kernel))⟩
theorem fX0_74 {M : Mt} (h : M.1.cls = RX0) : FL M 74 5 5 := ⟨RX5, TX5, 15, cls5, by decide, Or.inl (by rw [h]; exact iT_2 107 (by first | rfl | decide +kernel) (by decide +kernel))⟩
theorem fwX0_74 {M : Mt} (h : M.1.cls = RX0) : FLW M 74 5 5 := ⟨RX5, TX5, 15, cls5, by decide, by decide +kernel, Or.inl (by rw [h]; exact iT_2 107 (by first | rfl | decide +kernel) (by decide +kernel))⟩
theorem fX5_30 {M : Mt} (h : M.1.cls = RX5) : FL M 30 5 6 := ⟨RX5, TX5, 15, cls5, by decide, Or.inl (by rw [h]; exact iT_2 108 (by first | rfl | decide +kernel) (by decide +kernel))⟩
theorem fwX5_30 {M : Mt} (h : M.1.cls = RX5) : FLW M 30 5 6 := ⟨RX5, TX5, 15, cls5, by decide, by decide +kernel, Or.inl (by rw [h]; exact iT_2 108 (by first | rfl | decide +kernel) (by decide +kernel))⟩
theorem fX0_117 {M : Mt} (h : M.1.cls = RX0) : FL M 117 5 6 := ⟨RX5, TX5, 15, cls5, by decide, Or.inl (by rw [h]; exact iT_2 109 (by first | rfl | decide +kernel) (by decide +kernel))⟩
theorem fwX0_117 {M : Mt} (h : M.1.cls = RX0) : FLW M 117 5 6 := ⟨RX5, TX5, 15, cls5, by decide, by decide +kernel, Or.inl (by rw [h]; exact iT_2 109 (by first | rfl | decide +kernel) (by decide +kernel))⟩
theorem fX11_348 {M : Mt} (h : M.1.cls = RX11) : FL M 348 5 6 := ⟨RX5, TX5, 15, cls5, by decide, Or.inl (by rw [h]; exact iT_2 110 (by first | rfl | decide +kernel) (by decide +kernel))⟩
