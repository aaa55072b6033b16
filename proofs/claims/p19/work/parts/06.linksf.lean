abbrev mJ0_isLatin1_aae02 : Mt := (yJ0_isLatin1_aae02, cJ0_isLatin1_aae02, 1, some FieldType.boolean)
theorem iJ0_isLatin1_aae02 : MI mJ0_isLatin1_aae02 0 := ⟨iT_1 225 (by rfl) (by decide +kernel), iT_1 226 (by rfl) (by decide +kernel), iT_1 8 (by rfl) (by decide +kernel), iT_1 227 (by rfl) (by decide +kernel), ⟨by decide +kernel, by decide +kernel, by decide +kernel⟩, by decide⟩
abbrev mJ0_checkIndex_df160 : Mt := (yJ0_checkIndex_df160, cJ0_checkIndex_df160, 2, none)
theorem iJ0_checkIndex_df160 : MSt mJ0_checkIndex_df160 2 := ⟨iT_1 232 (by rfl) (by decide +kernel), iT_1 8 (by rfl) (by decide +kernel), iT_1 233 (by rfl) (by decide +kernel), ⟨by decide +kernel, by decide +kernel, by decide +kernel⟩, by decide⟩
abbrev mJ1_charAt_3b067 : Mt := (yJ1_charAt_3b067, cJ1_charAt_3b067, 2, some FieldType.char)
theorem iJ1_charAt_3b067 : MSt mJ1_charAt_3b067 2 := ⟨iT_1 229 (by rfl) (by decide +kernel), iT_1 9 (by rfl) (by decide +kernel), iT_1 230 (by rfl) (by decide +kernel), ⟨by decide +kernel, by decide +kernel, by decide +kernel⟩, by decide⟩
abbrev mJ2_getChar_3b067 : Mt := (yJ2_getChar_3b067, cJ2_getChar_3b067, 2, some FieldType.char)
theorem iJ2_getChar_3b067 : MSt mJ2_getChar_3b067 2 := ⟨iT_2 10 (by rfl) (by decide +kernel), iT_1 11 (by rfl) (by decide +kernel), iT_2 11 (by rfl) (by decide +kernel), ⟨by decide +kernel, by decide +kernel, by decide +kernel⟩, by decide⟩
abbrev mJ2_length_9d52b : Mt := (yJ2_length_9d52b, cJ2_length_9d52b, 1, some FieldType.int)
theorem iJ2_length_9d52b : MSt mJ2_length_9d52b 1 := ⟨iT_2 6 (by rfl) (by decide +kernel), iT_1 11 (by rfl) (by decide +kernel), iT_2 7 (by rfl) (by decide +kernel), ⟨by decide +kernel, by decide +kernel, by decide +kernel⟩, by decide⟩
abbrev mJ2_charAt_3b067 : Mt := (yJ2_charAt_3b067, cJ2_charAt_3b067, 2, some FieldType.char)
theorem iJ2_charAt_3b067 : MSt mJ2_charAt_3b067 2 := ⟨iT_2 0 (by rfl) (by decide +kernel), iT_1 11 (by rfl) (by decide +kernel), iT_2 1 (by rfl) (by decide +kernel), ⟨by decide +kernel, by decide +kernel, by decide +kernel⟩, by decide⟩
abbrev mJ2_checkIndex_2214a : Mt := (yJ2_checkIndex_2214a, cJ2_checkIndex_2214a, 2, none)
theorem iJ2_checkIndex_2214a : MSt mJ2_checkIndex_2214a 2 := ⟨iT_2 3 (by rfl) (by decide +kernel), iT_1 11 (by rfl) (by decide +kernel), iT_2 4 (by rfl) (by decide +kernel), ⟨by decide +kernel, by decide +kernel, by decide +kernel⟩, by decide⟩
abbrev mJ3_checkIndex_8e157 : Mt := (yJ3_checkIndex_8e157, cJ3_checkIndex_8e157, 3, some FieldType.int)
theorem iJ3_checkIndex_8e157 : MSt mJ3_checkIndex_8e157 3 := ⟨iT_1 237 (by rfl) (by decide +kernel), iT_1 10 (by rfl) (by decide +kernel), iT_1 238 (by rfl) (by decide +kernel), ⟨by decide +kernel, by decide +kernel, by decide +kernel⟩, by decide⟩
theorem lL_17 {M : Mt} (h : M.1.cls = RL) : LK M 17 mX11_init := Or.inl (by rw [h]; exact iT_1 28 (by rfl) (by decide +kernel))
theorem lX11_19 {M : Mt} (h : M.1.cls = RX11) : LK M 19 mX9_init := Or.inl (by rw [h]; exact iT_1 36 (by rfl) (by decide +kernel))
theorem lX9_11 {M : Mt} (h : M.1.cls = RX9) : LK M 11 mX7_init := Or.inl (by rw [h]; exact iT_1 42 (by rfl) (by decide +kernel))
theorem lX7_28 {M : Mt} (h : M.1.cls = RX7) : LK M 28 mJ9_min_7cf53 := Or.inl (by rw [h]; exact iT_1 46 (by rfl) (by decide +kernel))
theorem fX7_34 {M : Mt} (h : M.1.cls = RX7) : FL M 34 7 0 := ⟨RX7, TX7, 6, cls7, by decide, Or.inl (by rw [h]; exact iT_1 49 (by first | rfl | decide +kernel) (by decide +kernel))⟩
theorem ffX7_34 {M : Mt} (h : M.1.cls = RX7) (hn : M.1.name = "<init>") : FLF M 34 7 0 := ⟨hn, RX7, TX7, 6, cls7, by decide, by decide +kernel, by rw [h]; decide +kernel, by rw [h]; exact iT_1 49 (by first | rfl | decide +kernel) (by decide +kernel)⟩
theorem fX7_9 {M : Mt} (h : M.1.cls = RX7) : FL M 9 7 1 := ⟨RX7, TX7, 6, cls7, by decide, Or.inl (by rw [h]; exact iT_1 50 (by first | rfl | decide +kernel) (by decide +kernel))⟩
theorem fwX7_9 {M : Mt} (h : M.1.cls = RX7) : FLW M 9 7 1 := ⟨RX7, TX7, 6, cls7, by decide, by decide +kernel, Or.inl (by rw [h]; exact iT_1 50 (by first | rfl | decide +kernel) (by decide +kernel))⟩
theorem fX2_65 {M : Mt} (h : M.1.cls = RX2) : FL M 65 7 1 := ⟨RX7, TX7, 6, cls7, by decide, Or.inl (by rw [h]; exact iT_1 51 (by first | rfl | decide +kernel) (by decide +kernel))⟩
theorem fwX2_65 {M : Mt} (h : M.1.cls = RX2) : FLW M 65 7 1 := ⟨RX7, TX7, 6, cls7, by decide, by decide +kernel, Or.inl (by rw [h]; exact iT_1 51 (by first | rfl | decide +kernel) (by decide +kernel))⟩
theorem fX0_80 {M : Mt} (h : M.1.cls = RX0) : FL M 80 7 1 := ⟨RX7, TX7, 6, cls7, by decide, Or.inl (by rw [h]; exact iT_1 52 (by first | rfl | decide +kernel) (by decide +kernel))⟩
theorem fwX0_80 {M : Mt} (h : M.1.cls = RX0) : FLW M 80 7 1 := ⟨RX7, TX7, 6, cls7, by decide, by decide +kernel, Or.inl (by rw [h]; exact iT_1 52 (by first | rfl | decide +kernel) (by decide +kernel))⟩
theorem fX9_87 {M : Mt} (h : M.1.cls = RX9) : FL M 87 7 1 := ⟨RX7, TX7, 6, cls7, by decide, Or.inl (by rw [h]; exact iT_1 53 (by first | rfl | decide +kernel) (by decide +kernel))⟩
theorem fwX9_87 {M : Mt} (h : M.1.cls = RX9) : FLW M 87 7 1 := ⟨RX7, TX7, 6, cls7, by decide, by decide +kernel, Or.inl (by rw [h]; exact iT_1 53 (by first | rfl | decide +kernel) (by decide +kernel))⟩
theorem fX11_256 {M : Mt} (h : M.1.cls = RX11) : FL M 256 7 1 := ⟨RX7, TX7, 6, cls7, by decide, Or.inl (by rw [h]; exact iT_1 54 (by first | rfl | decide +kernel) (by decide +kernel))⟩
theorem fwX11_256 {M : Mt} (h : M.1.cls = RX11) : FLW M 256 7 1 := ⟨RX7, TX7, 6, cls7, by decide, by decide +kernel, Or.inl (by rw [h]; exact iT_1 54 (by first | rfl | decide +kernel) (by decide +kernel))⟩
theorem fX7_15 {M : Mt} (h : M.1.cls = RX7) : FL M 15 7 2 := ⟨RX7, TX7, 6, cls7, by decide, Or.inl (by rw [h]; exact iT_1 55 (by first | rfl | decide +kernel) (by decide +kernel))⟩
theorem ffX7_15 {M : Mt} (h : M.1.cls = RX7) (hn : M.1.name = "<init>") : FLF M 15 7 2 := ⟨hn, RX7, TX7, 6, cls7, by decide, by decide +kernel, by rw [h]; decide +kernel, by rw [h]; exact iT_1 55 (by first | rfl | decide +kernel) (by decide +kernel)⟩
theorem fX7_19 {M : Mt} (h : M.1.cls = RX7) : FL M 19 7 3 := ⟨RX7, TX7, 6, cls7, by decide, Or.inl (by rw [h]; exact iT_1 56 (by first | rfl | decide +kernel) (by decide +kernel))⟩
theorem ffX7_19 {M : Mt} (h : M.1.cls = RX7) (hn : M.1.name = "<init>") : FLF M 19 7 3 := ⟨hn, RX7, TX7, 6, cls7, by decide, by decide +kernel, by rw [h]; decide +kernel, by rw [h]; exact iT_1 56 (by first | rfl | decide +kernel) (by decide +kernel)⟩
theorem fX0_54 {M : Mt} (h : M.1.cls = RX0) : FL M 54 7 3 := ⟨RX7, TX7, 6, cls7, by decide, Or.inl (by rw [h]; exact iT_1 57 (by first | rfl | decide +kernel) (by decide +kernel))⟩
theorem fX9_90 {M : Mt} (h : M.1.cls = RX9) : FL M 90 7 3 := ⟨RX7, TX7, 6, cls7, by decide, Or.inl (by rw [h]; exact iT_1 58 (by first | rfl | decide +kernel) (by decide +kernel))⟩
theorem fX2_88 {M : Mt} (h : M.1.cls = RX2) : FL M 88 7 3 := ⟨RX7, TX7, 6, cls7, by decide, Or.inl (by rw [h]; exact iT_1 59 (by first | rfl | decide +kernel) (by decide +kernel))⟩
theorem fX11_142 {M : Mt} (h : M.1.cls = RX11) : FL M 142 7 3 := ⟨RX7, TX7, 6, cls7, by decide, Or.inl (by rw [h]; exact iT_1 60 (by first | rfl | decide +kernel) (by decide +kernel))⟩
theorem fX7_22 {M : Mt} (h : M.1.cls = RX7) : FL M 22 7 4 := ⟨RX7, TX7, 6, cls7, by decide, Or.inl (by rw [h]; exact iT_1 61 (by first | rfl | decide +kernel) (by decide +kernel))⟩
theorem ffX7_22 {M : Mt} (h : M.1.cls = RX7) (hn : M.1.name = "<init>") : FLF M 22 7 4 := ⟨hn, RX7, TX7, 6, cls7, by decide, by decide +kernel, by rw [h]; decide +kernel, by rw [h]; exact iT_1 61 (by first | rfl | decide +kernel) (by decide +kernel)⟩
theorem fX5_69 {M : Mt} (h : M.1.cls = RX5) : FL M 69 7 4 := ⟨RX7, TX7, 6, cls7, by decide, Or.inl (by rw [h]; exact iT_1 62 (by first | rfl | decide +kernel) (by decide +kernel))⟩
theorem fX2_74 {M : Mt} (h : M.1.cls = RX2) : FL M 74 7 4 := ⟨RX7, TX7, 6, cls7, by decide, Or.inl (by rw [h]; exact iT_1 63 (by first | rfl | decide +kernel) (by decide +kernel))⟩
theorem fX9_97 {M : Mt} (h : M.1.cls = RX9) : FL M 97 7 4 := ⟨RX7, TX7, 6, cls7, by decide, Or.inl (by rw [h]; exact iT_1 64 (by first | rfl | decide +kernel) (by decide +kernel))⟩
theorem fX0_156 {M : Mt} (h : M.1.cls = RX0) : FL M 156 7 4 := ⟨RX7, TX7, 6, cls7, by decide, Or.inl (by rw [h]; exact iT_1 65 (by first | rfl | decide +kernel) (by decide +kernel))⟩
theorem fX11_150 {M : Mt} (h : M.1.cls = RX11) : FL M 150 7 4 := ⟨RX7, TX7, 6, cls7, by decide, Or.inl (by rw [h]; exact iT_1 66 (by first | rfl | decide +kernel) (by decide +kernel))⟩
theorem fX4_151 {M : Mt} (h : M.1.cls = RX4) : FL M 151 7 4 := ⟨RX7, TX7, 6, cls7, by decide, Or.inl (by rw [h]; exact iT_1 67 (by first | rfl | decide +kernel) (by decide +kernel))⟩
theorem fX7_25 {M : Mt} (h : M.1.cls = RX7) : FL M 25 7 5 := ⟨RX7, TX7, 6, cls7, by decide, Or.inl (by rw [h]; exact iT_1 68 (by first | rfl | decide +kernel) (by decide +kernel))⟩
theorem ffX7_25 {M : Mt} (h : M.1.cls = RX7) (hn : M.1.name = "<init>") : FLF M 25 7 5 := ⟨hn, RX7, TX7, 6, cls7, by decide, by decide +kernel, by rw [h]; decide +kernel, by rw [h]; exact iT_1 68 (by first | rfl | decide +kernel) (by decide +kernel)⟩
theorem fX5_86 {M : Mt} (h : M.1.cls = RX5) : FL M 86 7 5 := ⟨RX7, TX7, 6, cls7, by decide, Or.inl (by rw [h]; exact iT_1 69 (by first | rfl | decide +kernel) (by decide +kernel))⟩
theorem lX9_57 {M : Mt} (h : M.1.cls = RX9) : LK M 57 mX1_init := Or.inr ⟨"GirlShots", by rw [h]; exact iTN_1 87 (by rfl) (by decide +kernel)⟩
theorem fX1_9 {M : Mt} (h : M.1.cls = RX1) : FL M 9 1 0 := ⟨RX1, TX1, 5, cls1, by decide, Or.inl (by rw [h]; exact iT_1 91 (by first | rfl | decide +kernel) (by decide +kernel))⟩
theorem fwX1_9 {M : Mt} (h : M.1.cls = RX1) : FLW M 9 1 0 := ⟨RX1, TX1, 5, cls1, by decide, by decide +kernel, Or.inl (by rw [h]; exact iT_1 91 (by first | rfl | decide +kernel) (by decide +kernel))⟩
theorem fX0_233 {M : Mt} (h : M.1.cls = RX0) : FL M 233 1 0 := ⟨RX1, TX1, 5, cls1, by decide, Or.inl (by rw [h]; exact iT_1 92 (by first | rfl | decide +kernel) (by decide +kernel))⟩
theorem fwX0_233 {M : Mt} (h : M.1.cls = RX0) : FLW M 233 1 0 := ⟨RX1, TX1, 5, cls1, by decide, by decide +kernel, Or.inl (by rw [h]; exact iT_1 92 (by first | rfl | decide +kernel) (by decide +kernel))⟩
theorem fX4_183 {M : Mt} (h : M.1.cls = RX4) : FL M 183 1 0 := ⟨RX1, TX1, 5, cls1, by decide, Or.inl (by rw [h]; exact iT_1 93 (by first | rfl | decide +kernel) (by decide +kernel))⟩
theorem fwX4_183 {M : Mt} (h : M.1.cls = RX4) : FLW M 183 1 0 := ⟨RX1, TX1, 5, cls1, by decide, by decide +kernel, Or.inl (by rw [h]; exact iT_1 93 (by first | rfl | decide +kernel) (by decide +kernel))⟩
theorem fX1_15 {M : Mt} (h : M.1.cls = RX1) : FL M 15 1 1 := ⟨RX1, TX1, 5, cls1, by decide, Or.inl (by rw [h]; exact iT_1 94 (by first | rfl | decide +kernel) (by decide +kernel))⟩
theorem fwX1_15 {M : Mt} (h : M.1.cls = RX1) : FLW M 15 1 1 := ⟨RX1, TX1, 5, cls1, by decide, by decide +kernel, Or.inl (by rw [h]; exact iT_1 94 (by first | rfl | decide +kernel) (by decide +kernel))⟩
theorem fX1_19 {M : Mt} (h : M.1.cls = RX1) : FL M 19 1 2 := ⟨RX1, TX1, 5, cls1, by decide, Or.inl (by rw [h]; exact iT_1 95 (by first | rfl | decide +kernel) (by decide +kernel))⟩
theorem ffX1_19 {M : Mt} (h : M.1.cls = RX1) (hn : M.1.name = "<init>") : FLF M 19 1 2 := ⟨hn, RX1, TX1, 5, cls1, by decide, by decide +kernel, by rw [h]; decide +kernel, by rw [h]; exact iT_1 95 (by first | rfl | decide +kernel) (by decide +kernel)⟩
theorem fX1_23 {M : Mt} (h : M.1.cls = RX1) : FL M 23 1 3 := ⟨RX1, TX1, 5, cls1, by decide, Or.inl (by rw [h]; exact iT_1 96 (by first | rfl | decide +kernel) (by decide +kernel))⟩
theorem ffX1_23 {M : Mt} (h : M.1.cls = RX1) (hn : M.1.name = "<init>") : FLF M 23 1 3 := ⟨hn, RX1, TX1, 5, cls1, by decide, by decide +kernel, by rw [h]; decide +kernel, by rw [h]; exact iT_1 96 (by first | rfl | decide +kernel) (by decide +kernel)⟩
theorem fX1_26 {M : Mt} (h : M.1.cls = RX1) : FL M 26 1 4 := ⟨RX1, TX1, 5, cls1, by decide, Or.inl (by rw [h]; exact iT_1 97 (by first | rfl | decide +kernel) (by decide +kernel))⟩
theorem ffX1_26 {M : Mt} (h : M.1.cls = RX1) (hn : M.1.name = "<init>") : FLF M 26 1 4 := ⟨hn, RX1, TX1, 5, cls1, by decide, by decide +kernel, by rw [h]; decide +kernel, by rw [h]; exact iT_1 97 (by first | rfl | decide +kernel) (by decide +kernel)⟩
theorem lX9_68 {M : Mt} (h : M.1.cls = RX9) : LK M 68 mX11_fill := Or.inr ⟨"GirlShots", by rw [h]; exact iTN_1 110 (by rfl) (by decide +kernel)⟩
theorem fX9_14 {M : Mt} (h : M.1.cls = RX9) : FL M 14 9 0 := ⟨RX9, TX9, 15, cls9, by decide, Or.inl (by rw [h]; exact iT_1 113 (by first | rfl | decide +kernel) (by decide +kernel))⟩
theorem ffX9_14 {M : Mt} (h : M.1.cls = RX9) (hn : M.1.name = "<init>") : FLF M 14 9 0 := ⟨hn, RX9, TX9, 15, cls9, by decide, by decide +kernel, by rw [h]; decide +kernel, by rw [h]; exact iT_1 113 (by first | rfl | decide +kernel) (by decide +kernel)⟩
theorem fX0_48 {M : Mt} (h : M.1.cls = RX0) : FL M 48 9 0 := ⟨RX9, TX9, 15, cls9, by decide, Or.inl (by rw [h]; exact iT_1 114 (by first | rfl | decide +kernel) (by decide +kernel))⟩
theorem fX2_59 {M : Mt} (h : M.1.cls = RX2) : FL M 59 9 0 := ⟨RX9, TX9, 15, cls9, by decide, Or.inl (by rw [h]; exact iT_1 115 (by first | rfl | decide +kernel) (by decide +kernel))⟩
theorem fX4_111 {M : Mt} (h : M.1.cls = RX4) : FL M 111 9 0 := ⟨RX9, TX9, 15, cls9, by decide, Or.inl (by rw [h]; exact iT_1 116 (by first | rfl | decide +kernel) (by decide +kernel))⟩
theorem fX11_112 {M : Mt} (h : M.1.cls = RX11) : FL M 112 9 0 := ⟨RX9, TX9, 15, cls9, by decide, Or.inl (by rw [h]; exact iT_1 117 (by first | rfl | decide +kernel) (by decide +kernel))⟩
theorem fX9_20 {M : Mt} (h : M.1.cls = RX9) : FL M 20 9 1 := ⟨RX9, TX9, 15, cls9, by decide, Or.inl (by rw [h]; exact iT_1 118 (by first | rfl | decide +kernel) (by decide +kernel))⟩
theorem ffX9_20 {M : Mt} (h : M.1.cls = RX9) (hn : M.1.name = "<init>") : FLF M 20 9 1 := ⟨hn, RX9, TX9, 15, cls9, by decide, by decide +kernel, by rw [h]; decide +kernel, by rw [h]; exact iT_1 118 (by first | rfl | decide +kernel) (by decide +kernel)⟩
theorem fX5_65 {M : Mt} (h : M.1.cls = RX5) : FL M 65 9 1 := ⟨RX9, TX9, 15, cls9, by decide, Or.inl (by rw [h]; exact iT_1 119 (by first | rfl | decide +kernel) (by decide +kernel))⟩
theorem fX0_77 {M : Mt} (h : M.1.cls = RX0) : FL M 77 9 1 := ⟨RX9, TX9, 15, cls9, by decide, Or.inl (by rw [h]; exact iT_1 120 (by first | rfl | decide +kernel) (by decide +kernel))⟩
theorem fX4_135 {M : Mt} (h : M.1.cls = RX4) : FL M 135 9 1 := ⟨RX9, TX9, 15, cls9, by decide, Or.inl (by rw [h]; exact iT_1 121 (by first | rfl | decide +kernel) (by decide +kernel))⟩
theorem fX2_85 {M : Mt} (h : M.1.cls = RX2) : FL M 85 9 1 := ⟨RX9, TX9, 15, cls9, by decide, Or.inl (by rw [h]; exact iT_1 122 (by first | rfl | decide +kernel) (by decide +kernel))⟩
theorem fX11_122 {M : Mt} (h : M.1.cls = RX11) : FL M 122 9 1 := ⟨RX9, TX9, 15, cls9, by decide, Or.inl (by rw [h]; exact iT_1 123 (by first | rfl | decide +kernel) (by decide +kernel))⟩
theorem fX9_23 {M : Mt} (h : M.1.cls = RX9) : FL M 23 9 2 := ⟨RX9, TX9, 15, cls9, by decide, Or.inl (by rw [h]; exact iT_1 124 (by first | rfl | decide +kernel) (by decide +kernel))⟩
theorem ffX9_23 {M : Mt} (h : M.1.cls = RX9) (hn : M.1.name = "<init>") : FLF M 23 9 2 := ⟨hn, RX9, TX9, 15, cls9, by decide, by decide +kernel, by rw [h]; decide +kernel, by rw [h]; exact iT_1 124 (by first | rfl | decide +kernel) (by decide +kernel)⟩
theorem fX5_83 {M : Mt} (h : M.1.cls = RX5) : FL M 83 9 2 := ⟨RX9, TX9, 15, cls9, by decide, Or.inl (by rw [h]; exact iT_1 125 (by first | rfl | decide +kernel) (by decide +kernel))⟩
theorem fX0_100 {M : Mt} (h : M.1.cls = RX0) : FL M 100 9 2 := ⟨RX9, TX9, 15, cls9, by decide, Or.inl (by rw [h]; exact iT_1 126 (by first | rfl | decide +kernel) (by decide +kernel))⟩
theorem fX11_125 {M : Mt} (h : M.1.cls = RX11) : FL M 125 9 2 := ⟨RX9, TX9, 15, cls9, by decide, Or.inl (by rw [h]; exact iT_1 127 (by first | rfl | decide +kernel) (by decide +kernel))⟩
theorem fX4_158 {M : Mt} (h : M.1.cls = RX4) : FL M 158 9 2 := ⟨RX9, TX9, 15, cls9, by decide, Or.inl (by rw [h]; exact iT_1 128 (by first | rfl | decide +kernel) (by decide +kernel))⟩
theorem fX9_26 {M : Mt} (h : M.1.cls = RX9) : FL M 26 9 3 := ⟨RX9, TX9, 15, cls9, by decide, Or.inl (by rw [h]; exact iT_1 129 (by first | rfl | decide +kernel) (by decide +kernel))⟩
theorem ffX9_26 {M : Mt} (h : M.1.cls = RX9) (hn : M.1.name = "<init>") : FLF M 26 9 3 := ⟨hn, RX9, TX9, 15, cls9, by decide, by decide +kernel, by rw [h]; decide +kernel, by rw [h]; exact iT_1 129 (by first | rfl | decide +kernel) (by decide +kernel)⟩
theorem fX11_128 {M : Mt} (h : M.1.cls = RX11) : FL M 128 9 3 := ⟨RX9, TX9, 15, cls9, by decide, Or.inl (by rw [h]; exact iT_1 130 (by first | rfl | decide +kernel) (by decide +kernel))⟩
theorem fX4_161 {M : Mt} (h : M.1.cls = RX4) : FL M 161 9 3 := ⟨RX9, TX9, 15, cls9, by decide, Or.inl (by rw [h]; exact iT_1 131 (by first | rfl | decide +kernel) (by decide +kernel))⟩
theorem fX9_29 {M : Mt} (h : M.1.cls = RX9) : FL M 29 9 4 := ⟨RX9, TX9, 15, cls9, by decide, Or.inl (by rw [h]; exact iT_1 132 (by first | rfl | decide +kernel) (by decide +kernel))⟩
theorem ffX9_29 {M : Mt} (h : M.1.cls = RX9) (hn : M.1.name = "<init>") : FLF M 29 9 4 := ⟨hn, RX9, TX9, 15, cls9, by decide, by decide +kernel, by rw [h]; decide +kernel, by rw [h]; exact iT_1 132 (by first | rfl | decide +kernel) (by decide +kernel)⟩
theorem fX4_164 {M : Mt} (h : M.1.cls = RX4) : FL M 164 9 4 := ⟨RX9, TX9, 15, cls9, by decide, Or.inl (by rw [h]; exact iT_1 133 (by first | rfl | decide +kernel) (by decide +kernel))⟩
theorem fX9_32 {M : Mt} (h : M.1.cls = RX9) : FL M 32 9 5 := ⟨RX9, TX9, 15, cls9, by decide, Or.inl (by rw [h]; exact iT_1 134 (by first | rfl | decide +kernel) (by decide +kernel))⟩
theorem ffX9_32 {M : Mt} (h : M.1.cls = RX9) (hn : M.1.name = "<init>") : FLF M 32 9 5 := ⟨hn, RX9, TX9, 15, cls9, by decide, by decide +kernel, by rw [h]; decide +kernel, by rw [h]; exact iT_1 134 (by first | rfl | decide +kernel) (by decide +kernel)⟩
theorem fX5_82 {M : Mt} (h : M.1.cls = RX5) : FL M 82 9 5 := ⟨RX9, TX9, 15, cls9, by decide, Or.inl (by rw [h]; exact iT_1 135 (by first | rfl | decide +kernel) (by decide +kernel))⟩
theorem fX4_144 {M : Mt} (h : M.1.cls = RX4) : FL M 144 9 5 := ⟨RX9, TX9, 15, cls9, by decide, Or.inl (by rw [h]; exact iT_1 136 (by first | rfl | decide +kernel) (by decide +kernel))⟩
theorem fX9_36 {M : Mt} (h : M.1.cls = RX9) : FL M 36 9 6 := ⟨RX9, TX9, 15, cls9, by decide, Or.inl (by rw [h]; exact iT_1 137 (by first | rfl | decide +kernel) (by decide +kernel))⟩
theorem fwX9_36 {M : Mt} (h : M.1.cls = RX9) : FLW M 36 9 6 := ⟨RX9, TX9, 15, cls9, by decide, by decide +kernel, Or.inl (by rw [h]; exact iT_1 137 (by first | rfl | decide +kernel) (by decide +kernel))⟩
theorem fX4_138 {M : Mt} (h : M.1.cls = RX4) : FL M 138 9 6 := ⟨RX9, TX9, 15, cls9, by decide, Or.inl (by rw [h]; exact iT_1 138 (by first | rfl | decide +kernel) (by decide +kernel))⟩
theorem fwX4_138 {M : Mt} (h : M.1.cls = RX4) : FLW M 138 9 6 := ⟨RX9, TX9, 15, cls9, by decide, by decide +kernel, Or.inl (by rw [h]; exact iT_1 138 (by first | rfl | decide +kernel) (by decide +kernel))⟩
theorem fX9_40 {M : Mt} (h : M.1.cls = RX9) : FL M 40 9 7 := ⟨RX9, TX9, 15, cls9, by decide, Or.inl (by rw [h]; exact iT_1 139 (by first | rfl | decide +kernel) (by decide +kernel))⟩
theorem fwX9_40 {M : Mt} (h : M.1.cls = RX9) : FLW M 40 9 7 := ⟨RX9, TX9, 15, cls9, by decide, by decide +kernel, Or.inl (by rw [h]; exact iT_1 139 (by first | rfl | decide +kernel) (by decide +kernel))⟩
theorem fX4_94 {M : Mt} (h : M.1.cls = RX4) : FL M 94 9 7 := ⟨RX9, TX9, 15, cls9, by decide, Or.inl (by rw [h]; exact iT_1 140 (by first | rfl | decide +kernel) (by decide +kernel))⟩
theorem fwX4_94 {M : Mt} (h : M.1.cls = RX4) : FLW M 94 9 7 := ⟨RX9, TX9, 15, cls9, by decide, by decide +kernel, Or.inl (by rw [h]; exact iT_1 140 (by first | rfl | decide +kernel) (by decide +kernel))⟩
theorem fX0_114 {M : Mt} (h : M.1.cls = RX0) : FL M 114 9 7 := ⟨RX9, TX9, 15, cls9, by decide, Or.inl (by rw [h]; exact iT_1 141 (by first | rfl | decide +kernel) (by decide +kernel))⟩
theorem fwX0_114 {M : Mt} (h : M.1.cls = RX0) : FLW M 114 9 7 := ⟨RX9, TX9, 15, cls9, by decide, by decide +kernel, Or.inl (by rw [h]; exact iT_1 141 (by first | rfl | decide +kernel) (by decide +kernel))⟩
theorem fX11_316 {M : Mt} (h : M.1.cls = RX11) : FL M 316 9 7 := ⟨RX9, TX9, 15, cls9, by decide, Or.inl (by rw [h]; exact iT_1 142 (by first | rfl | decide +kernel) (by decide +kernel))⟩
theorem fwX11_316 {M : Mt} (h : M.1.cls = RX11) : FLW M 316 9 7 := ⟨RX9, TX9, 15, cls9, by decide, by decide +kernel, Or.inl (by rw [h]; exact iT_1 142 (by first | rfl | decide +kernel) (by decide +kernel))⟩
theorem fX9_43 {M : Mt} (h : M.1.cls = RX9) : FL M 43 9 8 := ⟨RX9, TX9, 15, cls9, by decide, Or.inl (by rw [h]; exact iT_1 143 (by first | rfl | decide +kernel) (by decide +kernel))⟩
theorem fwX9_43 {M : Mt} (h : M.1.cls = RX9) : FLW M 43 9 8 := ⟨RX9, TX9, 15, cls9, by decide, by decide +kernel, Or.inl (by rw [h]; exact iT_1 143 (by first | rfl | decide +kernel) (by decide +kernel))⟩
theorem fX5_59 {M : Mt} (h : M.1.cls = RX5) : FL M 59 9 8 := ⟨RX9, TX9, 15, cls9, by decide, Or.inl (by rw [h]; exact iT_1 144 (by first | rfl | decide +kernel) (by decide +kernel))⟩
theorem fwX5_59 {M : Mt} (h : M.1.cls = RX5) : FLW M 59 9 8 := ⟨RX9, TX9, 15, cls9, by decide, by decide +kernel, Or.inl (by rw [h]; exact iT_1 144 (by first | rfl | decide +kernel) (by decide +kernel))⟩
theorem fX4_101 {M : Mt} (h : M.1.cls = RX4) : FL M 101 9 8 := ⟨RX9, TX9, 15, cls9, by decide, Or.inl (by rw [h]; exact iT_1 145 (by first | rfl | decide +kernel) (by decide +kernel))⟩
theorem fwX4_101 {M : Mt} (h : M.1.cls = RX4) : FLW M 101 9 8 := ⟨RX9, TX9, 15, cls9, by decide, by decide +kernel, Or.inl (by rw [h]; exact iT_1 145 (by first | rfl | decide +kernel) (by decide +kernel))⟩
theorem fX9_46 {M : Mt} (h : M.1.cls = RX9) : FL M 46 9 9 := ⟨RX9, TX9, 15, cls9, by decide, Or.inl (by rw [h]; exact iT_1 146 (by first | rfl | decide +kernel) (by decide +kernel))⟩
theorem fwX9_46 {M : Mt} (h : M.1.cls = RX9) : FLW M 46 9 9 := ⟨RX9, TX9, 15, cls9, by decide, by decide +kernel, Or.inl (by rw [h]; exact iT_1 146 (by first | rfl | decide +kernel) (by decide +kernel))⟩
theorem fX5_62 {M : Mt} (h : M.1.cls = RX5) : FL M 62 9 9 := ⟨RX9, TX9, 15, cls9, by decide, Or.inl (by rw [h]; exact iT_1 147 (by first | rfl | decide +kernel) (by decide +kernel))⟩
theorem fwX5_62 {M : Mt} (h : M.1.cls = RX5) : FLW M 62 9 9 := ⟨RX9, TX9, 15, cls9, by decide, by decide +kernel, Or.inl (by rw [h]; exact iT_1 147 (by first | rfl | decide +kernel) (by decide +kernel))⟩
theorem fX4_104 {M : Mt} (h : M.1.cls = RX4) : FL M 104 9 9 := ⟨RX9, TX9, 15, cls9, by decide, Or.inl (by rw [h]; exact iT_1 148 (by first | rfl | decide +kernel) (by decide +kernel))⟩
theorem fwX4_104 {M : Mt} (h : M.1.cls = RX4) : FLW M 104 9 9 := ⟨RX9, TX9, 15, cls9, by decide, by decide +kernel, Or.inl (by rw [h]; exact iT_1 148 (by first | rfl | decide +kernel) (by decide +kernel))⟩
theorem fX9_49 {M : Mt} (h : M.1.cls = RX9) : FL M 49 9 10 := ⟨RX9, TX9, 15, cls9, by decide, Or.inl (by rw [h]; exact iT_1 149 (by first | rfl | decide +kernel) (by decide +kernel))⟩
theorem fwX9_49 {M : Mt} (h : M.1.cls = RX9) : FLW M 49 9 10 := ⟨RX9, TX9, 15, cls9, by decide, by decide +kernel, Or.inl (by rw [h]; exact iT_1 149 (by first | rfl | decide +kernel) (by decide +kernel))⟩
theorem fX4_62 {M : Mt} (h : M.1.cls = RX4) : FL M 62 9 10 := ⟨RX9, TX9, 15, cls9, by decide, Or.inl (by rw [h]; exact iT_1 150 (by first | rfl | decide +kernel) (by decide +kernel))⟩
theorem fwX4_62 {M : Mt} (h : M.1.cls = RX4) : FLW M 62 9 10 := ⟨RX9, TX9, 15, cls9, by decide, by decide +kernel, Or.inl (by rw [h]; exact iT_1 150 (by first | rfl | decide +kernel) (by decide +kernel))⟩
